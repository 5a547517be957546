def iLen (i : Instr) : Nat := match i with
  | .bipush _ => 2 | .iload _ => 2 | .lload _ => 2 | .aload _ => 2 | .istore _ => 2 | .lstore _ => 2 | .astore _ => 2 | .ldc _ => 2 | .newarray _ => 2
  | .sipush _ => 3 | .iinc _ _ => 3 | .goto _ => 3 | .ifCond _ _ => 3 | .if_icmp _ _ => 3 | .getfield _ => 3 | .putfield _ => 3 | .getstatic _ => 3 | .new _ => 3 | .anewarray _ => 3 | .ldc_w _ => 3 | .ldc2_w _ => 3
  | .invokevirtual _ => 3 | .invokestatic _ => 3 | .invokespecial _ => 3
  | .tableswitch _ _ _ _ => 0 | .lookupswitch _ _ => 0
  | _ => 1
noncomputable def lnN (f : Nat → Option Ent) : Nat → Bool
  | 0 => true
  | n + 1 => (match f n with | none => true | some e => Nat.beq (iLen e.1) 0 || Nat.beq (iLen e.1) e.2.1) && lnN f n
theorem lnN_ok {f : Nat → Option Ent} : ∀ {n : Nat}, lnN f n = true → ∀ {k : Nat} {e : Ent}, k < n → f k = some e → iLen e.1 = 0 ∨ iLen e.1 = e.2.1 := by
  intro n
  induction n with
  | zero => intro _ k e h; exact absurd h (Nat.not_lt_zero _)
  | succ n ih =>
    intro h k e hk hf
    simp only [lnN, Bool.and_eq_true] at h
    by_cases q : k = n
    · subst q
      rw [hf] at h
      have h1 := h.1
      simp only [Bool.or_eq_true, Nat.beq_eq] at h1
      exact h1
    · exact ih h.2 (by omega) hf
set_option maxRecDepth 100000 in
theorem n_0 : lnN (fetch_ 0) 1362 = true := by decide +kernel
set_option maxRecDepth 100000 in
theorem n_1 : lnN (fetch_ 1) 23 = true := by decide +kernel
set_option maxRecDepth 100000 in
theorem n_2 : lnN (fetch_ 2) 13 = true := by decide +kernel
set_option maxRecDepth 100000 in
theorem n_3 : lnN (fetch_ 3) 13 = true := by decide +kernel
set_option maxRecDepth 100000 in
theorem n_4 : lnN (fetch_ 4) 361 = true := by decide +kernel
set_option maxRecDepth 100000 in
theorem n_5 : lnN (fetch_ 5) 47 = true := by decide +kernel
set_option maxRecDepth 100000 in
theorem n_6 : lnN (fetch_ 6) 80 = true := by decide +kernel
set_option maxRecDepth 100000 in
theorem n_7 : lnN (fetch_ 7) 15 = true := by decide +kernel
set_option maxRecDepth 100000 in
theorem n_8 : lnN (fetch_ 8) 108 = true := by decide +kernel
set_option maxRecDepth 100000 in
theorem n_9 : lnN (fetch_ 9) 83 = true := by decide +kernel
set_option maxRecDepth 100000 in
theorem n_10 : lnN (fetch_ 10) 9 = true := by decide +kernel
set_option maxRecDepth 100000 in
theorem n_11 : lnN (fetch_ 11) 36 = true := by decide +kernel
set_option maxRecDepth 100000 in
theorem n_12 : lnN (fetch_ 12) 43 = true := by decide +kernel
set_option maxRecDepth 100000 in
theorem n_13 : lnN (fetch_ 13) 37 = true := by decide +kernel
set_option maxRecDepth 100000 in
theorem n_14 : lnN (fetch_ 14) 19 = true := by decide +kernel
set_option maxRecDepth 100000 in
theorem n_15 : lnN (fetch_ 15) 32 = true := by decide +kernel
set_option maxRecDepth 100000 in
theorem n_16 : lnN (fetch_ 16) 38 = true := by decide +kernel
set_option maxRecDepth 100000 in
theorem n_17 : lnN (fetch_ 17) 53 = true := by decide +kernel
set_option maxRecDepth 100000 in
theorem n_18 : lnN (fetch_ 18) 90 = true := by decide +kernel
set_option maxRecDepth 100000 in
theorem n_19 : lnN (fetch_ 19) 74 = true := by decide +kernel
set_option maxRecDepth 100000 in
theorem n_20 : lnN (fetch_ 20) 23 = true := by decide +kernel
set_option maxRecDepth 100000 in
theorem n_21 : lnN (fetch_ 21) 136 = true := by decide +kernel
set_option maxRecDepth 100000 in
theorem n_22 : lnN (fetch_ 22) 12 = true := by decide +kernel
set_option maxRecDepth 100000 in
theorem n_23 : lnN (fetch_ 23) 65 = true := by decide +kernel
set_option maxRecDepth 100000 in
theorem n_24 : lnN (fetch_ 24) 22 = true := by decide +kernel
set_option maxRecDepth 100000 in
theorem n_25 : lnN (fetch_ 25) 25 = true := by decide +kernel
set_option maxRecDepth 100000 in
theorem n_26 : lnN (fetch_ 26) 111 = true := by decide +kernel
set_option maxRecDepth 100000 in
theorem n_27 : lnN (fetch_ 27) 40 = true := by decide +kernel
set_option maxRecDepth 100000 in
theorem n_28 : lnN (fetch_ 28) 26 = true := by decide +kernel
set_option maxRecDepth 100000 in
theorem n_29 : lnN (fetch_ 29) 98 = true := by decide +kernel
set_option maxRecDepth 100000 in
theorem n_30 : lnN (fetch_ 30) 49 = true := by decide +kernel
set_option maxRecDepth 100000 in
theorem n_31 : lnN (fetch_ 31) 56 = true := by decide +kernel
set_option maxRecDepth 100000 in
theorem n_32 : lnN (fetch_ 32) 29 = true := by decide +kernel
set_option maxRecDepth 100000 in
theorem n_33 : lnN (fetch_ 33) 43 = true := by decide +kernel
set_option maxRecDepth 100000 in
theorem n_34 : lnN (fetch_ 34) 40 = true := by decide +kernel
set_option maxRecDepth 100000 in
theorem n_35 : lnN (fetch_ 35) 20 = true := by decide +kernel
set_option maxRecDepth 100000 in
theorem n_36 : lnN (fetch_ 36) 118 = true := by decide +kernel
set_option maxRecDepth 100000 in
theorem n_37 : lnN (fetch_ 37) 87 = true := by decide +kernel
set_option maxRecDepth 100000 in
theorem n_38 : lnN (fetch_ 38) 44 = true := by decide +kernel
set_option maxRecDepth 100000 in
theorem n_39 : lnN (fetch_ 39) 252 = true := by decide +kernel
set_option maxRecDepth 100000 in
theorem n_40 : lnN (fetch_ 40) 124 = true := by decide +kernel
set_option maxRecDepth 100000 in
theorem n_41 : lnN (fetch_ 41) 21 = true := by decide +kernel
set_option maxRecDepth 100000 in
theorem n_42 : lnN (fetch_ 42) 18 = true := by decide +kernel
set_option maxRecDepth 100000 in
theorem n_43 : lnN (fetch_ 43) 33 = true := by decide +kernel
set_option maxRecDepth 100000 in
theorem n_44 : lnN (fetch_ 44) 23 = true := by decide +kernel
set_option maxRecDepth 100000 in
theorem n_45 : lnN (fetch_ 45) 6 = true := by decide +kernel
set_option maxRecDepth 100000 in
theorem n_46 : lnN (fetch_ 46) 34 = true := by decide +kernel
set_option maxRecDepth 100000 in
theorem n_47 : lnN (fetch_ 47) 27 = true := by decide +kernel
set_option maxRecDepth 100000 in
theorem n_48 : lnN (fetch_ 48) 24 = true := by decide +kernel
set_option maxRecDepth 100000 in
theorem n_49 : lnN (fetch_ 49) 31 = true := by decide +kernel
set_option maxRecDepth 100000 in
theorem n_50 : lnN (fetch_ 50) 38 = true := by decide +kernel
set_option maxRecDepth 100000 in
theorem n_51 : lnN (fetch_ 51) 106 = true := by decide +kernel
set_option maxRecDepth 100000 in
theorem n_52 : lnN (fetch_ 52) 103 = true := by decide +kernel
set_option maxRecDepth 100000 in
theorem n_53 : lnN (fetch_ 53) 116 = true := by decide +kernel
set_option maxRecDepth 100000 in
theorem n_54 : lnN (fetch_ 54) 129 = true := by decide +kernel
set_option maxRecDepth 100000 in
theorem n_55 : lnN (fetch_ 55) 58 = true := by decide +kernel
set_option maxRecDepth 100000 in
theorem n_56 : lnN (fetch_ 56) 43 = true := by decide +kernel
set_option maxRecDepth 100000 in
theorem n_57 : lnN (fetch_ 57) 26 = true := by decide +kernel
set_option maxRecDepth 100000 in
theorem n_58 : lnN (fetch_ 58) 32 = true := by decide +kernel
set_option maxRecDepth 100000 in
theorem n_59 : lnN (fetch_ 59) 32 = true := by decide +kernel
set_option maxRecDepth 100000 in
theorem n_60 : lnN (fetch_ 60) 40 = true := by decide +kernel
set_option maxRecDepth 100000 in
theorem n_61 : lnN (fetch_ 61) 18 = true := by decide +kernel
set_option maxRecDepth 100000 in
theorem n_62 : lnN (fetch_ 62) 47 = true := by decide +kernel
set_option maxRecDepth 100000 in
theorem n_63 : lnN (fetch_ 63) 36 = true := by decide +kernel
set_option maxRecDepth 100000 in
theorem n_64 : lnN (fetch_ 64) 16 = true := by decide +kernel
set_option maxRecDepth 100000 in
theorem n_65 : lnN (fetch_ 65) 33 = true := by decide +kernel
set_option maxRecDepth 100000 in
theorem n_66 : lnN (fetch_ 66) 15 = true := by decide +kernel
set_option maxRecDepth 100000 in
theorem n_67 : lnN (fetch_ 67) 189 = true := by decide +kernel
set_option maxRecDepth 100000 in
theorem n_68 : lnN (fetch_ 68) 118 = true := by decide +kernel
set_option maxRecDepth 100000 in
theorem n_69 : lnN (fetch_ 69) 79 = true := by decide +kernel
set_option maxRecDepth 100000 in
theorem n_70 : lnN (fetch_ 70) 23 = true := by decide +kernel
set_option maxRecDepth 100000 in
theorem n_71 : lnN (fetch_ 71) 14 = true := by decide +kernel
set_option maxRecDepth 100000 in
theorem n_72 : lnN (fetch_ 72) 19 = true := by decide +kernel
set_option maxRecDepth 100000 in
theorem n_73 : lnN (fetch_ 73) 32 = true := by decide +kernel
set_option maxRecDepth 100000 in
theorem n_74 : lnN (fetch_ 74) 68 = true := by decide +kernel
set_option maxRecDepth 100000 in
theorem n_75 : lnN (fetch_ 75) 168 = true := by decide +kernel
set_option maxRecDepth 100000 in
theorem n_76 : lnN (fetch_ 76) 54 = true := by decide +kernel
set_option maxRecDepth 100000 in
theorem n_77 : lnN (fetch_ 77) 94 = true := by decide +kernel
set_option maxRecDepth 100000 in
theorem n_78 : lnN (fetch_ 78) 90 = true := by decide +kernel
set_option maxRecDepth 100000 in
theorem n_79 : lnN (fetch_ 79) 32 = true := by decide +kernel
set_option maxRecDepth 100000 in
theorem n_80 : lnN (fetch_ 80) 129 = true := by decide +kernel
set_option maxRecDepth 100000 in
theorem n_81 : lnN (fetch_ 81) 54 = true := by decide +kernel
set_option maxRecDepth 100000 in
theorem n_82 : lnN (fetch_ 82) 88 = true := by decide +kernel
set_option maxRecDepth 100000 in
theorem n_83 : lnN (fetch_ 83) 42 = true := by decide +kernel
set_option maxRecDepth 100000 in
theorem n_84 : lnN (fetch_ 84) 82 = true := by decide +kernel
set_option maxRecDepth 100000 in
theorem n_85 : lnN (fetch_ 85) 133 = true := by decide +kernel
set_option maxRecDepth 100000 in
theorem n_86 : lnN (fetch_ 86) 22 = true := by decide +kernel
set_option maxRecDepth 100000 in
theorem n_87 : lnN (fetch_ 87) 55 = true := by decide +kernel
set_option maxRecDepth 100000 in
theorem n_88 : lnN (fetch_ 88) 105 = true := by decide +kernel
set_option maxRecDepth 100000 in
theorem n_89 : lnN (fetch_ 89) 87 = true := by decide +kernel
set_option maxRecDepth 100000 in
theorem n_90 : lnN (fetch_ 90) 109 = true := by decide +kernel
set_option maxRecDepth 100000 in
theorem n_91 : lnN (fetch_ 91) 45 = true := by decide +kernel
set_option maxRecDepth 100000 in
theorem n_92 : lnN (fetch_ 92) 96 = true := by decide +kernel
set_option maxRecDepth 100000 in
theorem n_93 : lnN (fetch_ 93) 173 = true := by decide +kernel
set_option maxRecDepth 100000 in
theorem n_94 : lnN (fetch_ 94) 68 = true := by decide +kernel
set_option maxRecDepth 100000 in
theorem n_95 : lnN (fetch_ 95) 80 = true := by decide +kernel
set_option maxRecDepth 100000 in
theorem n_96 : lnN (fetch_ 96) 110 = true := by decide +kernel
set_option maxRecDepth 100000 in
theorem n_97 : lnN (fetch_ 97) 37 = true := by decide +kernel
set_option maxRecDepth 100000 in
theorem n_98 : lnN (fetch_ 98) 130 = true := by decide +kernel
set_option maxRecDepth 100000 in
theorem n_99 : lnN (fetch_ 99) 69 = true := by decide +kernel
set_option maxRecDepth 100000 in
theorem n_100 : lnN (fetch_ 100) 75 = true := by decide +kernel
set_option maxRecDepth 100000 in
theorem n_101 : lnN (fetch_ 101) 75 = true := by decide +kernel
set_option maxRecDepth 100000 in
theorem n_102 : lnN (fetch_ 102) 68 = true := by decide +kernel
set_option maxRecDepth 100000 in
theorem n_103 : lnN (fetch_ 103) 95 = true := by decide +kernel
set_option maxRecDepth 100000 in
theorem n_104 : lnN (fetch_ 104) 112 = true := by decide +kernel
set_option maxRecDepth 100000 in
theorem n_105 : lnN (fetch_ 105) 24 = true := by decide +kernel
set_option maxRecDepth 100000 in
theorem n_106 : lnN (fetch_ 106) 29 = true := by decide +kernel
set_option maxRecDepth 100000 in
theorem n_107 : lnN (fetch_ 107) 48 = true := by decide +kernel
set_option maxRecDepth 100000 in
theorem n_108 : lnN (fetch_ 108) 12 = true := by decide +kernel
set_option maxRecDepth 100000 in
theorem n_109 : lnN (fetch_ 109) 52 = true := by decide +kernel
set_option maxRecDepth 100000 in
theorem n_110 : lnN (fetch_ 110) 121 = true := by decide +kernel
set_option maxRecDepth 100000 in
theorem n_111 : lnN (fetch_ 111) 68 = true := by decide +kernel
set_option maxRecDepth 100000 in
theorem n_112 : lnN (fetch_ 112) 69 = true := by decide +kernel
set_option maxRecDepth 100000 in
theorem n_113 : lnN (fetch_ 113) 42 = true := by decide +kernel
set_option maxRecDepth 100000 in
theorem n_114 : lnN (fetch_ 114) 114 = true := by decide +kernel
set_option maxRecDepth 100000 in
theorem n_115 : lnN (fetch_ 115) 26 = true := by decide +kernel
set_option maxRecDepth 100000 in
theorem n_116 : lnN (fetch_ 116) 39 = true := by decide +kernel
set_option maxRecDepth 100000 in
theorem n_117 : lnN (fetch_ 117) 73 = true := by decide +kernel
set_option maxRecDepth 100000 in
theorem n_118 : lnN (fetch_ 118) 16 = true := by decide +kernel
set_option maxRecDepth 100000 in
theorem n_119 : lnN (fetch_ 119) 7 = true := by decide +kernel
set_option maxRecDepth 100000 in
theorem n_120 : lnN (fetch_ 120) 12 = true := by decide +kernel
set_option maxRecDepth 100000 in
theorem n_121 : lnN (fetch_ 121) 40 = true := by decide +kernel
set_option maxRecDepth 100000 in
theorem n_122 : lnN (fetch_ 122) 14 = true := by decide +kernel
set_option maxRecDepth 100000 in
theorem n_123 : lnN (fetch_ 123) 26 = true := by decide +kernel
set_option maxRecDepth 100000 in
theorem n_124 : lnN (fetch_ 124) 66 = true := by decide +kernel
set_option maxRecDepth 100000 in
theorem n_125 : lnN (fetch_ 125) 616 = true := by decide +kernel
set_option maxRecDepth 100000 in
theorem n_126 : lnN (fetch_ 126) 16 = true := by decide +kernel
set_option maxRecDepth 100000 in
theorem n_127 : lnN (fetch_ 127) 15 = true := by decide +kernel
set_option maxRecDepth 100000 in
theorem n_128 : lnN (fetch_ 128) 22 = true := by decide +kernel
set_option maxRecDepth 100000 in
theorem n_129 : lnN (fetch_ 129) 19 = true := by decide +kernel
set_option maxRecDepth 100000 in
theorem n_130 : lnN (fetch_ 130) 13 = true := by decide +kernel
set_option maxRecDepth 100000 in
theorem n_131 : lnN (fetch_ 131) 61 = true := by decide +kernel
set_option maxRecDepth 100000 in
theorem n_132 : lnN (fetch_ 132) 55 = true := by decide +kernel
set_option maxRecDepth 100000 in
theorem n_133 : lnN (fetch_ 133) 144 = true := by decide +kernel
set_option maxRecDepth 100000 in
theorem n_134 : lnN (fetch_ 134) 73 = true := by decide +kernel
set_option maxRecDepth 100000 in
theorem n_135 : lnN (fetch_ 135) 13 = true := by decide +kernel
set_option maxRecDepth 100000 in
theorem n_136 : lnN (fetch_ 136) 116 = true := by decide +kernel
set_option maxRecDepth 100000 in
theorem n_137 : lnN (fetch_ 137) 40 = true := by decide +kernel
set_option maxRecDepth 100000 in
theorem n_138 : lnN (fetch_ 138) 73 = true := by decide +kernel
set_option maxRecDepth 100000 in
theorem n_139 : lnN (fetch_ 139) 51 = true := by decide +kernel
set_option maxRecDepth 100000 in
theorem n_140 : lnN (fetch_ 140) 25 = true := by decide +kernel
set_option maxRecDepth 100000 in
theorem n_141 : lnN (fetch_ 141) 29 = true := by decide +kernel
set_option maxRecDepth 100000 in
theorem n_142 : lnN (fetch_ 142) 22 = true := by decide +kernel
set_option maxRecDepth 100000 in
theorem n_143 : lnN (fetch_ 143) 37 = true := by decide +kernel
set_option maxRecDepth 100000 in
theorem n_144 : lnN (fetch_ 144) 13 = true := by decide +kernel
set_option maxRecDepth 100000 in
theorem n_145 : lnN (fetch_ 145) 65 = true := by decide +kernel
set_option maxRecDepth 100000 in
theorem n_146 : lnN (fetch_ 146) 21 = true := by decide +kernel
set_option maxRecDepth 100000 in
theorem n_147 : lnN (fetch_ 147) 53 = true := by decide +kernel
set_option maxRecDepth 100000 in
theorem n_148 : lnN (fetch_ 148) 73 = true := by decide +kernel
set_option maxRecDepth 100000 in
theorem n_149 : lnN (fetch_ 149) 110 = true := by decide +kernel
set_option maxRecDepth 100000 in
theorem n_150 : lnN (fetch_ 150) 91 = true := by decide +kernel
set_option maxRecDepth 100000 in
theorem n_151 : lnN (fetch_ 151) 232 = true := by decide +kernel
set_option maxRecDepth 100000 in
theorem n_152 : lnN (fetch_ 152) 70 = true := by decide +kernel
set_option maxRecDepth 100000 in
theorem n_153 : lnN (fetch_ 153) 46 = true := by decide +kernel
set_option maxRecDepth 100000 in
theorem n_154 : lnN (fetch_ 154) 70 = true := by decide +kernel
set_option maxRecDepth 100000 in
theorem n_155 : lnN (fetch_ 155) 61 = true := by decide +kernel
set_option maxRecDepth 100000 in
theorem n_156 : lnN (fetch_ 156) 19 = true := by decide +kernel
set_option maxRecDepth 100000 in
theorem n_157 : lnN (fetch_ 157) 29 = true := by decide +kernel
set_option maxRecDepth 100000 in
theorem n_158 : lnN (fetch_ 158) 44 = true := by decide +kernel
set_option maxRecDepth 100000 in
theorem n_159 : lnN (fetch_ 159) 76 = true := by decide +kernel
set_option maxRecDepth 100000 in
theorem n_160 : lnN (fetch_ 160) 260 = true := by decide +kernel
set_option maxRecDepth 100000 in
theorem n_161 : lnN (fetch_ 161) 89 = true := by decide +kernel
set_option maxRecDepth 100000 in
theorem n_162 : lnN (fetch_ 162) 39 = true := by decide +kernel
set_option maxRecDepth 100000 in
theorem n_163 : lnN (fetch_ 163) 55 = true := by decide +kernel
set_option maxRecDepth 100000 in
theorem n_164 : lnN (fetch_ 164) 47 = true := by decide +kernel
set_option maxRecDepth 100000 in
theorem n_165 : lnN (fetch_ 165) 9 = true := by decide +kernel
set_option maxRecDepth 100000 in
theorem n_166 : lnN (fetch_ 166) 53 = true := by decide +kernel
set_option maxRecDepth 100000 in
theorem n_167 : lnN (fetch_ 167) 45 = true := by decide +kernel
set_option maxRecDepth 100000 in
theorem n_168 : lnN (fetch_ 168) 84 = true := by decide +kernel
set_option maxRecDepth 100000 in
theorem n_169 : lnN (fetch_ 169) 44 = true := by decide +kernel
set_option maxRecDepth 100000 in
theorem n_170 : lnN (fetch_ 170) 68 = true := by decide +kernel
set_option maxRecDepth 100000 in
theorem n_171 : lnN (fetch_ 171) 65 = true := by decide +kernel
set_option maxRecDepth 100000 in
theorem n_172 : lnN (fetch_ 172) 108 = true := by decide +kernel
set_option maxRecDepth 100000 in
theorem n_173 : lnN (fetch_ 173) 81 = true := by decide +kernel
set_option maxRecDepth 100000 in
theorem n_174 : lnN (fetch_ 174) 56 = true := by decide +kernel
set_option maxRecDepth 100000 in
theorem n_175 : lnN (fetch_ 175) 49 = true := by decide +kernel
set_option maxRecDepth 100000 in
theorem n_176 : lnN (fetch_ 176) 40 = true := by decide +kernel
set_option maxRecDepth 100000 in
theorem n_177 : lnN (fetch_ 177) 77 = true := by decide +kernel
set_option maxRecDepth 100000 in
theorem n_178 : lnN (fetch_ 178) 39 = true := by decide +kernel
set_option maxRecDepth 100000 in
theorem n_179 : lnN (fetch_ 179) 43 = true := by decide +kernel
set_option maxRecDepth 100000 in
theorem n_180 : lnN (fetch_ 180) 10 = true := by decide +kernel
set_option maxRecDepth 100000 in
theorem n_181 : lnN (fetch_ 181) 42 = true := by decide +kernel
set_option maxRecDepth 100000 in
theorem n_182 : lnN (fetch_ 182) 27 = true := by decide +kernel
set_option maxRecDepth 100000 in
theorem n_183 : lnN (fetch_ 183) 88 = true := by decide +kernel
set_option maxRecDepth 100000 in
theorem n_184 : lnN (fetch_ 184) 45 = true := by decide +kernel
set_option maxRecDepth 100000 in
theorem n_185 : lnN (fetch_ 185) 23 = true := by decide +kernel
set_option maxRecDepth 100000 in
theorem n_186 : lnN (fetch_ 186) 31 = true := by decide +kernel
set_option maxRecDepth 100000 in
theorem n_187 : lnN (fetch_ 187) 134 = true := by decide +kernel
set_option maxRecDepth 100000 in
theorem n_188 : lnN (fetch_ 188) 60 = true := by decide +kernel
set_option maxRecDepth 100000 in
theorem n_189 : lnN (fetch_ 189) 58 = true := by decide +kernel
set_option maxRecDepth 100000 in
theorem n_190 : lnN (fetch_ 190) 67 = true := by decide +kernel
set_option maxRecDepth 100000 in
theorem n_191 : lnN (fetch_ 191) 28 = true := by decide +kernel
set_option maxRecDepth 100000 in
theorem n_192 : lnN (fetch_ 192) 45 = true := by decide +kernel
set_option maxRecDepth 100000 in
theorem n_193 : lnN (fetch_ 193) 18 = true := by decide +kernel
set_option maxRecDepth 100000 in
theorem n_194 : lnN (fetch_ 194) 44 = true := by decide +kernel
set_option maxRecDepth 100000 in
theorem n_195 : lnN (fetch_ 195) 93 = true := by decide +kernel
set_option maxRecDepth 100000 in
theorem n_196 : lnN (fetch_ 196) 117 = true := by decide +kernel
set_option maxRecDepth 100000 in
theorem n_197 : lnN (fetch_ 197) 76 = true := by decide +kernel
set_option maxRecDepth 100000 in
theorem n_198 : lnN (fetch_ 198) 76 = true := by decide +kernel
set_option maxRecDepth 100000 in
theorem n_199 : lnN (fetch_ 199) 27 = true := by decide +kernel
set_option maxRecDepth 100000 in
theorem n_200 : lnN (fetch_ 200) 103 = true := by decide +kernel
set_option maxRecDepth 100000 in
theorem n_201 : lnN (fetch_ 201) 102 = true := by decide +kernel
set_option maxRecDepth 100000 in
theorem n_202 : lnN (fetch_ 202) 43 = true := by decide +kernel
set_option maxRecDepth 100000 in
theorem n_203 : lnN (fetch_ 203) 39 = true := by decide +kernel
set_option maxRecDepth 100000 in
theorem n_204 : lnN (fetch_ 204) 57 = true := by decide +kernel
set_option maxRecDepth 100000 in
theorem n_205 : lnN (fetch_ 205) 22 = true := by decide +kernel
set_option maxRecDepth 100000 in
theorem n_206 : lnN (fetch_ 206) 117 = true := by decide +kernel
set_option maxRecDepth 100000 in
theorem n_207 : lnN (fetch_ 207) 30 = true := by decide +kernel
set_option maxRecDepth 100000 in
theorem n_208 : lnN (fetch_ 208) 72 = true := by decide +kernel
set_option maxRecDepth 100000 in
theorem n_209 : lnN (fetch_ 209) 69 = true := by decide +kernel
set_option maxRecDepth 100000 in
theorem n_210 : lnN (fetch_ 210) 105 = true := by decide +kernel
set_option maxRecDepth 100000 in
theorem n_211 : lnN (fetch_ 211) 43 = true := by decide +kernel
set_option maxRecDepth 100000 in
theorem n_212 : lnN (fetch_ 212) 60 = true := by decide +kernel
set_option maxRecDepth 100000 in
theorem n_213 : lnN (fetch_ 213) 72 = true := by decide +kernel
set_option maxRecDepth 100000 in
theorem n_214 : lnN (fetch_ 214) 28 = true := by decide +kernel
set_option maxRecDepth 100000 in
theorem n_215 : lnN (fetch_ 215) 26 = true := by decide +kernel
set_option maxRecDepth 100000 in
theorem n_216 : lnN (fetch_ 216) 81 = true := by decide +kernel
set_option maxRecDepth 100000 in
theorem n_217 : lnN (fetch_ 217) 70 = true := by decide +kernel
set_option maxRecDepth 100000 in
theorem n_218 : lnN (fetch_ 218) 59 = true := by decide +kernel
set_option maxRecDepth 100000 in
theorem n_219 : lnN (fetch_ 219) 108 = true := by decide +kernel
set_option maxRecDepth 100000 in
theorem n_220 : lnN (fetch_ 220) 99 = true := by decide +kernel
set_option maxRecDepth 100000 in
theorem n_221 : lnN (fetch_ 221) 301 = true := by decide +kernel
set_option maxRecDepth 100000 in
theorem n_222 : lnN (fetch_ 222) 306 = true := by decide +kernel
set_option maxRecDepth 100000 in
theorem n_223 : lnN (fetch_ 223) 30 = true := by decide +kernel
set_option maxRecDepth 100000 in
theorem n_224 : lnN (fetch_ 224) 10 = true := by decide +kernel
set_option maxRecDepth 100000 in
theorem n_225 : lnN (fetch_ 225) 96 = true := by decide +kernel
set_option maxRecDepth 100000 in
theorem n_226 : lnN (fetch_ 226) 20 = true := by decide +kernel
set_option maxRecDepth 100000 in
theorem n_227 : lnN (fetch_ 227) 16 = true := by decide +kernel
set_option maxRecDepth 100000 in
theorem n_228 : lnN (fetch_ 228) 91 = true := by decide +kernel
set_option maxRecDepth 100000 in
theorem n_229 : lnN (fetch_ 229) 15 = true := by decide +kernel
set_option maxRecDepth 100000 in
theorem n_230 : lnN (fetch_ 230) 80 = true := by decide +kernel
set_option maxRecDepth 100000 in
theorem n_231 : lnN (fetch_ 231) 59 = true := by decide +kernel
set_option maxRecDepth 100000 in
theorem n_232 : lnN (fetch_ 232) 30 = true := by decide +kernel
set_option maxRecDepth 100000 in
theorem n_233 : lnN (fetch_ 233) 79 = true := by decide +kernel
set_option maxRecDepth 100000 in
theorem n_234 : lnN (fetch_ 234) 91 = true := by decide +kernel
set_option maxRecDepth 100000 in
theorem n_235 : lnN (fetch_ 235) 8 = true := by decide +kernel
set_option maxRecDepth 100000 in
theorem n_236 : lnN (fetch_ 236) 97 = true := by decide +kernel
set_option maxRecDepth 100000 in
theorem n_237 : lnN (fetch_ 237) 55 = true := by decide +kernel
set_option maxRecDepth 100000 in
theorem n_238 : lnN (fetch_ 238) 66 = true := by decide +kernel
set_option maxRecDepth 100000 in
theorem n_239 : lnN (fetch_ 239) 52 = true := by decide +kernel
set_option maxRecDepth 100000 in
theorem n_240 : lnN (fetch_ 240) 179 = true := by decide +kernel
set_option maxRecDepth 100000 in
theorem n_241 : lnN (fetch_ 241) 11 = true := by decide +kernel
set_option maxRecDepth 100000 in
theorem n_242 : lnN (fetch_ 242) 25 = true := by decide +kernel
set_option maxRecDepth 100000 in
theorem n_243 : lnN (fetch_ 243) 7 = true := by decide +kernel
set_option maxRecDepth 100000 in
theorem n_244 : lnN (fetch_ 244) 37 = true := by decide +kernel
set_option maxRecDepth 100000 in
theorem n_245 : lnN (fetch_ 245) 15 = true := by decide +kernel
set_option maxRecDepth 100000 in
theorem n_246 : lnN (fetch_ 246) 19 = true := by decide +kernel
set_option maxRecDepth 100000 in
theorem n_247 : lnN (fetch_ 247) 10 = true := by decide +kernel
set_option maxRecDepth 100000 in
theorem n_248 : lnN (fetch_ 248) 15 = true := by decide +kernel
set_option maxRecDepth 100000 in
theorem n_249 : lnN (fetch_ 249) 17 = true := by decide +kernel
set_option maxRecDepth 100000 in
theorem n_250 : lnN (fetch_ 250) 37 = true := by decide +kernel
set_option maxRecDepth 100000 in
theorem n_251 : lnN (fetch_ 251) 33 = true := by decide +kernel
set_option maxRecDepth 100000 in
theorem n_252 : lnN (fetch_ 252) 18 = true := by decide +kernel
set_option maxRecDepth 100000 in
theorem n_253 : lnN (fetch_ 253) 53 = true := by decide +kernel
set_option maxRecDepth 100000 in
theorem n_254 : lnN (fetch_ 254) 23 = true := by decide +kernel
set_option maxRecDepth 100000 in
theorem n_255 : lnN (fetch_ 255) 21 = true := by decide +kernel
set_option maxRecDepth 100000 in
theorem n_256 : lnN (fetch_ 256) 20 = true := by decide +kernel
theorem len_all {m : Nat} (h : m < mCnt) {k : Nat} {e : Ent} (he : fetch_ m k = some e) : iLen e.1 = 0 ∨ iLen e.1 = e.2.1 := by
  have h : m < 257 := h
  · by_cases h128 : m < 128
    · by_cases h64 : m < 64
      · by_cases h32 : m < 32
        · by_cases h16 : m < 16
          · by_cases h8 : m < 8
            · by_cases h4 : m < 4
              · by_cases h2 : m < 2
                · by_cases h1 : m < 1
                  · obtain rfl : m = 0 := by omega
                    exact lnN_ok n_0 (guard_ok (show (bif Nat.blt k 1362 then _ else none) = some e from he)) he
                  · obtain rfl : m = 1 := by omega
                    exact lnN_ok n_1 (guard_ok (show (bif Nat.blt k 23 then _ else none) = some e from he)) he
                · by_cases h3 : m < 3
                  · obtain rfl : m = 2 := by omega
                    exact lnN_ok n_2 (guard_ok (show (bif Nat.blt k 13 then _ else none) = some e from he)) he
                  · obtain rfl : m = 3 := by omega
                    exact lnN_ok n_3 (guard_ok (show (bif Nat.blt k 13 then _ else none) = some e from he)) he
              · by_cases h6 : m < 6
                · by_cases h5 : m < 5
                  · obtain rfl : m = 4 := by omega
                    exact lnN_ok n_4 (guard_ok (show (bif Nat.blt k 361 then _ else none) = some e from he)) he
                  · obtain rfl : m = 5 := by omega
                    exact lnN_ok n_5 (guard_ok (show (bif Nat.blt k 47 then _ else none) = some e from he)) he
                · by_cases h7 : m < 7
                  · obtain rfl : m = 6 := by omega
                    exact lnN_ok n_6 (guard_ok (show (bif Nat.blt k 80 then _ else none) = some e from he)) he
                  · obtain rfl : m = 7 := by omega
                    exact lnN_ok n_7 (guard_ok (show (bif Nat.blt k 15 then _ else none) = some e from he)) he
            · by_cases h12 : m < 12
              · by_cases h10 : m < 10
                · by_cases h9 : m < 9
                  · obtain rfl : m = 8 := by omega
                    exact lnN_ok n_8 (guard_ok (show (bif Nat.blt k 108 then _ else none) = some e from he)) he
                  · obtain rfl : m = 9 := by omega
                    exact lnN_ok n_9 (guard_ok (show (bif Nat.blt k 83 then _ else none) = some e from he)) he
                · by_cases h11 : m < 11
                  · obtain rfl : m = 10 := by omega
                    exact lnN_ok n_10 (guard_ok (show (bif Nat.blt k 9 then _ else none) = some e from he)) he
                  · obtain rfl : m = 11 := by omega
                    exact lnN_ok n_11 (guard_ok (show (bif Nat.blt k 36 then _ else none) = some e from he)) he
              · by_cases h14 : m < 14
                · by_cases h13 : m < 13
                  · obtain rfl : m = 12 := by omega
                    exact lnN_ok n_12 (guard_ok (show (bif Nat.blt k 43 then _ else none) = some e from he)) he
                  · obtain rfl : m = 13 := by omega
                    exact lnN_ok n_13 (guard_ok (show (bif Nat.blt k 37 then _ else none) = some e from he)) he
                · by_cases h15 : m < 15
                  · obtain rfl : m = 14 := by omega
                    exact lnN_ok n_14 (guard_ok (show (bif Nat.blt k 19 then _ else none) = some e from he)) he
                  · obtain rfl : m = 15 := by omega
                    exact lnN_ok n_15 (guard_ok (show (bif Nat.blt k 32 then _ else none) = some e from he)) he
          · by_cases h24 : m < 24
            · by_cases h20 : m < 20
              · by_cases h18 : m < 18
                · by_cases h17 : m < 17
                  · obtain rfl : m = 16 := by omega
                    exact lnN_ok n_16 (guard_ok (show (bif Nat.blt k 38 then _ else none) = some e from he)) he
                  · obtain rfl : m = 17 := by omega
                    exact lnN_ok n_17 (guard_ok (show (bif Nat.blt k 53 then _ else none) = some e from he)) he
                · by_cases h19 : m < 19
                  · obtain rfl : m = 18 := by omega
                    exact lnN_ok n_18 (guard_ok (show (bif Nat.blt k 90 then _ else none) = some e from he)) he
                  · obtain rfl : m = 19 := by omega
                    exact lnN_ok n_19 (guard_ok (show (bif Nat.blt k 74 then _ else none) = some e from he)) he
              · by_cases h22 : m < 22
                · by_cases h21 : m < 21
                  · obtain rfl : m = 20 := by omega
                    exact lnN_ok n_20 (guard_ok (show (bif Nat.blt k 23 then _ else none) = some e from he)) he
                  · obtain rfl : m = 21 := by omega
                    exact lnN_ok n_21 (guard_ok (show (bif Nat.blt k 136 then _ else none) = some e from he)) he
                · by_cases h23 : m < 23
                  · obtain rfl : m = 22 := by omega
                    exact lnN_ok n_22 (guard_ok (show (bif Nat.blt k 12 then _ else none) = some e from he)) he
                  · obtain rfl : m = 23 := by omega
                    exact lnN_ok n_23 (guard_ok (show (bif Nat.blt k 65 then _ else none) = some e from he)) he
            · by_cases h28 : m < 28
              · by_cases h26 : m < 26
                · by_cases h25 : m < 25
                  · obtain rfl : m = 24 := by omega
                    exact lnN_ok n_24 (guard_ok (show (bif Nat.blt k 22 then _ else none) = some e from he)) he
                  · obtain rfl : m = 25 := by omega
                    exact lnN_ok n_25 (guard_ok (show (bif Nat.blt k 25 then _ else none) = some e from he)) he
                · by_cases h27 : m < 27
                  · obtain rfl : m = 26 := by omega
                    exact lnN_ok n_26 (guard_ok (show (bif Nat.blt k 111 then _ else none) = some e from he)) he
                  · obtain rfl : m = 27 := by omega
                    exact lnN_ok n_27 (guard_ok (show (bif Nat.blt k 40 then _ else none) = some e from he)) he
              · by_cases h30 : m < 30
                · by_cases h29 : m < 29
                  · obtain rfl : m = 28 := by omega
                    exact lnN_ok n_28 (guard_ok (show (bif Nat.blt k 26 then _ else none) = some e from he)) he
                  · obtain rfl : m = 29 := by omega
                    exact lnN_ok n_29 (guard_ok (show (bif Nat.blt k 98 then _ else none) = some e from he)) he
                · by_cases h31 : m < 31
                  · obtain rfl : m = 30 := by omega
                    exact lnN_ok n_30 (guard_ok (show (bif Nat.blt k 49 then _ else none) = some e from he)) he
                  · obtain rfl : m = 31 := by omega
                    exact lnN_ok n_31 (guard_ok (show (bif Nat.blt k 56 then _ else none) = some e from he)) he
        · by_cases h48 : m < 48
          · by_cases h40 : m < 40
            · by_cases h36 : m < 36
              · by_cases h34 : m < 34
                · by_cases h33 : m < 33
                  · obtain rfl : m = 32 := by omega
                    exact lnN_ok n_32 (guard_ok (show (bif Nat.blt k 29 then _ else none) = some e from he)) he
                  · obtain rfl : m = 33 := by omega
                    exact lnN_ok n_33 (guard_ok (show (bif Nat.blt k 43 then _ else none) = some e from he)) he
                · by_cases h35 : m < 35
                  · obtain rfl : m = 34 := by omega
                    exact lnN_ok n_34 (guard_ok (show (bif Nat.blt k 40 then _ else none) = some e from he)) he
                  · obtain rfl : m = 35 := by omega
                    exact lnN_ok n_35 (guard_ok (show (bif Nat.blt k 20 then _ else none) = some e from he)) he
              · by_cases h38 : m < 38
                · by_cases h37 : m < 37
                  · obtain rfl : m = 36 := by omega
                    exact lnN_ok n_36 (guard_ok (show (bif Nat.blt k 118 then _ else none) = some e from he)) he
                  · obtain rfl : m = 37 := by omega
                    exact lnN_ok n_37 (guard_ok (show (bif Nat.blt k 87 then _ else none) = some e from he)) he
                · by_cases h39 : m < 39
                  · obtain rfl : m = 38 := by omega
                    exact lnN_ok n_38 (guard_ok (show (bif Nat.blt k 44 then _ else none) = some e from he)) he
                  · obtain rfl : m = 39 := by omega
                    exact lnN_ok n_39 (guard_ok (show (bif Nat.blt k 252 then _ else none) = some e from he)) he
            · by_cases h44 : m < 44
              · by_cases h42 : m < 42
                · by_cases h41 : m < 41
                  · obtain rfl : m = 40 := by omega
                    exact lnN_ok n_40 (guard_ok (show (bif Nat.blt k 124 then _ else none) = some e from he)) he
                  · obtain rfl : m = 41 := by omega
                    exact lnN_ok n_41 (guard_ok (show (bif Nat.blt k 21 then _ else none) = some e from he)) he
                · by_cases h43 : m < 43
                  · obtain rfl : m = 42 := by omega
                    exact lnN_ok n_42 (guard_ok (show (bif Nat.blt k 18 then _ else none) = some e from he)) he
                  · obtain rfl : m = 43 := by omega
                    exact lnN_ok n_43 (guard_ok (show (bif Nat.blt k 33 then _ else none) = some e from he)) he
              · by_cases h46 : m < 46
                · by_cases h45 : m < 45
                  · obtain rfl : m = 44 := by omega
                    exact lnN_ok n_44 (guard_ok (show (bif Nat.blt k 23 then _ else none) = some e from he)) he
                  · obtain rfl : m = 45 := by omega
                    exact lnN_ok n_45 (guard_ok (show (bif Nat.blt k 6 then _ else none) = some e from he)) he
                · by_cases h47 : m < 47
                  · obtain rfl : m = 46 := by omega
                    exact lnN_ok n_46 (guard_ok (show (bif Nat.blt k 34 then _ else none) = some e from he)) he
                  · obtain rfl : m = 47 := by omega
                    exact lnN_ok n_47 (guard_ok (show (bif Nat.blt k 27 then _ else none) = some e from he)) he
          · by_cases h56 : m < 56
            · by_cases h52 : m < 52
              · by_cases h50 : m < 50
                · by_cases h49 : m < 49
                  · obtain rfl : m = 48 := by omega
                    exact lnN_ok n_48 (guard_ok (show (bif Nat.blt k 24 then _ else none) = some e from he)) he
                  · obtain rfl : m = 49 := by omega
                    exact lnN_ok n_49 (guard_ok (show (bif Nat.blt k 31 then _ else none) = some e from he)) he
                · by_cases h51 : m < 51
                  · obtain rfl : m = 50 := by omega
                    exact lnN_ok n_50 (guard_ok (show (bif Nat.blt k 38 then _ else none) = some e from he)) he
                  · obtain rfl : m = 51 := by omega
                    exact lnN_ok n_51 (guard_ok (show (bif Nat.blt k 106 then _ else none) = some e from he)) he
              · by_cases h54 : m < 54
                · by_cases h53 : m < 53
                  · obtain rfl : m = 52 := by omega
                    exact lnN_ok n_52 (guard_ok (show (bif Nat.blt k 103 then _ else none) = some e from he)) he
                  · obtain rfl : m = 53 := by omega
                    exact lnN_ok n_53 (guard_ok (show (bif Nat.blt k 116 then _ else none) = some e from he)) he
                · by_cases h55 : m < 55
                  · obtain rfl : m = 54 := by omega
                    exact lnN_ok n_54 (guard_ok (show (bif Nat.blt k 129 then _ else none) = some e from he)) he
                  · obtain rfl : m = 55 := by omega
                    exact lnN_ok n_55 (guard_ok (show (bif Nat.blt k 58 then _ else none) = some e from he)) he
            · by_cases h60 : m < 60
              · by_cases h58 : m < 58
                · by_cases h57 : m < 57
                  · obtain rfl : m = 56 := by omega
                    exact lnN_ok n_56 (guard_ok (show (bif Nat.blt k 43 then _ else none) = some e from he)) he
                  · obtain rfl : m = 57 := by omega
                    exact lnN_ok n_57 (guard_ok (show (bif Nat.blt k 26 then _ else none) = some e from he)) he
                · by_cases h59 : m < 59
                  · obtain rfl : m = 58 := by omega
                    exact lnN_ok n_58 (guard_ok (show (bif Nat.blt k 32 then _ else none) = some e from he)) he
                  · obtain rfl : m = 59 := by omega
                    exact lnN_ok n_59 (guard_ok (show (bif Nat.blt k 32 then _ else none) = some e from he)) he
              · by_cases h62 : m < 62
                · by_cases h61 : m < 61
                  · obtain rfl : m = 60 := by omega
                    exact lnN_ok n_60 (guard_ok (show (bif Nat.blt k 40 then _ else none) = some e from he)) he
                  · obtain rfl : m = 61 := by omega
                    exact lnN_ok n_61 (guard_ok (show (bif Nat.blt k 18 then _ else none) = some e from he)) he
                · by_cases h63 : m < 63
                  · obtain rfl : m = 62 := by omega
                    exact lnN_ok n_62 (guard_ok (show (bif Nat.blt k 47 then _ else none) = some e from he)) he
                  · obtain rfl : m = 63 := by omega
                    exact lnN_ok n_63 (guard_ok (show (bif Nat.blt k 36 then _ else none) = some e from he)) he
      · by_cases h96 : m < 96
        · by_cases h80 : m < 80
          · by_cases h72 : m < 72
            · by_cases h68 : m < 68
              · by_cases h66 : m < 66
                · by_cases h65 : m < 65
                  · obtain rfl : m = 64 := by omega
                    exact lnN_ok n_64 (guard_ok (show (bif Nat.blt k 16 then _ else none) = some e from he)) he
                  · obtain rfl : m = 65 := by omega
                    exact lnN_ok n_65 (guard_ok (show (bif Nat.blt k 33 then _ else none) = some e from he)) he
                · by_cases h67 : m < 67
                  · obtain rfl : m = 66 := by omega
                    exact lnN_ok n_66 (guard_ok (show (bif Nat.blt k 15 then _ else none) = some e from he)) he
                  · obtain rfl : m = 67 := by omega
                    exact lnN_ok n_67 (guard_ok (show (bif Nat.blt k 189 then _ else none) = some e from he)) he
              · by_cases h70 : m < 70
                · by_cases h69 : m < 69
                  · obtain rfl : m = 68 := by omega
                    exact lnN_ok n_68 (guard_ok (show (bif Nat.blt k 118 then _ else none) = some e from he)) he
                  · obtain rfl : m = 69 := by omega
                    exact lnN_ok n_69 (guard_ok (show (bif Nat.blt k 79 then _ else none) = some e from he)) he
                · by_cases h71 : m < 71
                  · obtain rfl : m = 70 := by omega
                    exact lnN_ok n_70 (guard_ok (show (bif Nat.blt k 23 then _ else none) = some e from he)) he
                  · obtain rfl : m = 71 := by omega
                    exact lnN_ok n_71 (guard_ok (show (bif Nat.blt k 14 then _ else none) = some e from he)) he
            · by_cases h76 : m < 76
              · by_cases h74 : m < 74
                · by_cases h73 : m < 73
                  · obtain rfl : m = 72 := by omega
                    exact lnN_ok n_72 (guard_ok (show (bif Nat.blt k 19 then _ else none) = some e from he)) he
                  · obtain rfl : m = 73 := by omega
                    exact lnN_ok n_73 (guard_ok (show (bif Nat.blt k 32 then _ else none) = some e from he)) he
                · by_cases h75 : m < 75
                  · obtain rfl : m = 74 := by omega
                    exact lnN_ok n_74 (guard_ok (show (bif Nat.blt k 68 then _ else none) = some e from he)) he
                  · obtain rfl : m = 75 := by omega
                    exact lnN_ok n_75 (guard_ok (show (bif Nat.blt k 168 then _ else none) = some e from he)) he
              · by_cases h78 : m < 78
                · by_cases h77 : m < 77
                  · obtain rfl : m = 76 := by omega
                    exact lnN_ok n_76 (guard_ok (show (bif Nat.blt k 54 then _ else none) = some e from he)) he
                  · obtain rfl : m = 77 := by omega
                    exact lnN_ok n_77 (guard_ok (show (bif Nat.blt k 94 then _ else none) = some e from he)) he
                · by_cases h79 : m < 79
                  · obtain rfl : m = 78 := by omega
                    exact lnN_ok n_78 (guard_ok (show (bif Nat.blt k 90 then _ else none) = some e from he)) he
                  · obtain rfl : m = 79 := by omega
                    exact lnN_ok n_79 (guard_ok (show (bif Nat.blt k 32 then _ else none) = some e from he)) he
          · by_cases h88 : m < 88
            · by_cases h84 : m < 84
              · by_cases h82 : m < 82
                · by_cases h81 : m < 81
                  · obtain rfl : m = 80 := by omega
                    exact lnN_ok n_80 (guard_ok (show (bif Nat.blt k 129 then _ else none) = some e from he)) he
                  · obtain rfl : m = 81 := by omega
                    exact lnN_ok n_81 (guard_ok (show (bif Nat.blt k 54 then _ else none) = some e from he)) he
                · by_cases h83 : m < 83
                  · obtain rfl : m = 82 := by omega
                    exact lnN_ok n_82 (guard_ok (show (bif Nat.blt k 88 then _ else none) = some e from he)) he
                  · obtain rfl : m = 83 := by omega
                    exact lnN_ok n_83 (guard_ok (show (bif Nat.blt k 42 then _ else none) = some e from he)) he
              · by_cases h86 : m < 86
                · by_cases h85 : m < 85
                  · obtain rfl : m = 84 := by omega
                    exact lnN_ok n_84 (guard_ok (show (bif Nat.blt k 82 then _ else none) = some e from he)) he
                  · obtain rfl : m = 85 := by omega
                    exact lnN_ok n_85 (guard_ok (show (bif Nat.blt k 133 then _ else none) = some e from he)) he
                · by_cases h87 : m < 87
                  · obtain rfl : m = 86 := by omega
                    exact lnN_ok n_86 (guard_ok (show (bif Nat.blt k 22 then _ else none) = some e from he)) he
                  · obtain rfl : m = 87 := by omega
                    exact lnN_ok n_87 (guard_ok (show (bif Nat.blt k 55 then _ else none) = some e from he)) he
            · by_cases h92 : m < 92
              · by_cases h90 : m < 90
                · by_cases h89 : m < 89
                  · obtain rfl : m = 88 := by omega
                    exact lnN_ok n_88 (guard_ok (show (bif Nat.blt k 105 then _ else none) = some e from he)) he
                  · obtain rfl : m = 89 := by omega
                    exact lnN_ok n_89 (guard_ok (show (bif Nat.blt k 87 then _ else none) = some e from he)) he
                · by_cases h91 : m < 91
                  · obtain rfl : m = 90 := by omega
                    exact lnN_ok n_90 (guard_ok (show (bif Nat.blt k 109 then _ else none) = some e from he)) he
                  · obtain rfl : m = 91 := by omega
                    exact lnN_ok n_91 (guard_ok (show (bif Nat.blt k 45 then _ else none) = some e from he)) he
              · by_cases h94 : m < 94
                · by_cases h93 : m < 93
                  · obtain rfl : m = 92 := by omega
                    exact lnN_ok n_92 (guard_ok (show (bif Nat.blt k 96 then _ else none) = some e from he)) he
                  · obtain rfl : m = 93 := by omega
                    exact lnN_ok n_93 (guard_ok (show (bif Nat.blt k 173 then _ else none) = some e from he)) he
                · by_cases h95 : m < 95
                  · obtain rfl : m = 94 := by omega
                    exact lnN_ok n_94 (guard_ok (show (bif Nat.blt k 68 then _ else none) = some e from he)) he
                  · obtain rfl : m = 95 := by omega
                    exact lnN_ok n_95 (guard_ok (show (bif Nat.blt k 80 then _ else none) = some e from he)) he
        · by_cases h112 : m < 112
          · by_cases h104 : m < 104
            · by_cases h100 : m < 100
              · by_cases h98 : m < 98
                · by_cases h97 : m < 97
                  · obtain rfl : m = 96 := by omega
                    exact lnN_ok n_96 (guard_ok (show (bif Nat.blt k 110 then _ else none) = some e from he)) he
                  · obtain rfl : m = 97 := by omega
                    exact lnN_ok n_97 (guard_ok (show (bif Nat.blt k 37 then _ else none) = some e from he)) he
                · by_cases h99 : m < 99
                  · obtain rfl : m = 98 := by omega
                    exact lnN_ok n_98 (guard_ok (show (bif Nat.blt k 130 then _ else none) = some e from he)) he
                  · obtain rfl : m = 99 := by omega
                    exact lnN_ok n_99 (guard_ok (show (bif Nat.blt k 69 then _ else none) = some e from he)) he
              · by_cases h102 : m < 102
                · by_cases h101 : m < 101
                  · obtain rfl : m = 100 := by omega
                    exact lnN_ok n_100 (guard_ok (show (bif Nat.blt k 75 then _ else none) = some e from he)) he
                  · obtain rfl : m = 101 := by omega
                    exact lnN_ok n_101 (guard_ok (show (bif Nat.blt k 75 then _ else none) = some e from he)) he
                · by_cases h103 : m < 103
                  · obtain rfl : m = 102 := by omega
                    exact lnN_ok n_102 (guard_ok (show (bif Nat.blt k 68 then _ else none) = some e from he)) he
                  · obtain rfl : m = 103 := by omega
                    exact lnN_ok n_103 (guard_ok (show (bif Nat.blt k 95 then _ else none) = some e from he)) he
            · by_cases h108 : m < 108
              · by_cases h106 : m < 106
                · by_cases h105 : m < 105
                  · obtain rfl : m = 104 := by omega
                    exact lnN_ok n_104 (guard_ok (show (bif Nat.blt k 112 then _ else none) = some e from he)) he
                  · obtain rfl : m = 105 := by omega
                    exact lnN_ok n_105 (guard_ok (show (bif Nat.blt k 24 then _ else none) = some e from he)) he
                · by_cases h107 : m < 107
                  · obtain rfl : m = 106 := by omega
                    exact lnN_ok n_106 (guard_ok (show (bif Nat.blt k 29 then _ else none) = some e from he)) he
                  · obtain rfl : m = 107 := by omega
                    exact lnN_ok n_107 (guard_ok (show (bif Nat.blt k 48 then _ else none) = some e from he)) he
              · by_cases h110 : m < 110
                · by_cases h109 : m < 109
                  · obtain rfl : m = 108 := by omega
                    exact lnN_ok n_108 (guard_ok (show (bif Nat.blt k 12 then _ else none) = some e from he)) he
                  · obtain rfl : m = 109 := by omega
                    exact lnN_ok n_109 (guard_ok (show (bif Nat.blt k 52 then _ else none) = some e from he)) he
                · by_cases h111 : m < 111
                  · obtain rfl : m = 110 := by omega
                    exact lnN_ok n_110 (guard_ok (show (bif Nat.blt k 121 then _ else none) = some e from he)) he
                  · obtain rfl : m = 111 := by omega
                    exact lnN_ok n_111 (guard_ok (show (bif Nat.blt k 68 then _ else none) = some e from he)) he
          · by_cases h120 : m < 120
            · by_cases h116 : m < 116
              · by_cases h114 : m < 114
                · by_cases h113 : m < 113
                  · obtain rfl : m = 112 := by omega
                    exact lnN_ok n_112 (guard_ok (show (bif Nat.blt k 69 then _ else none) = some e from he)) he
                  · obtain rfl : m = 113 := by omega
                    exact lnN_ok n_113 (guard_ok (show (bif Nat.blt k 42 then _ else none) = some e from he)) he
                · by_cases h115 : m < 115
                  · obtain rfl : m = 114 := by omega
                    exact lnN_ok n_114 (guard_ok (show (bif Nat.blt k 114 then _ else none) = some e from he)) he
                  · obtain rfl : m = 115 := by omega
                    exact lnN_ok n_115 (guard_ok (show (bif Nat.blt k 26 then _ else none) = some e from he)) he
              · by_cases h118 : m < 118
                · by_cases h117 : m < 117
                  · obtain rfl : m = 116 := by omega
                    exact lnN_ok n_116 (guard_ok (show (bif Nat.blt k 39 then _ else none) = some e from he)) he
                  · obtain rfl : m = 117 := by omega
                    exact lnN_ok n_117 (guard_ok (show (bif Nat.blt k 73 then _ else none) = some e from he)) he
                · by_cases h119 : m < 119
                  · obtain rfl : m = 118 := by omega
                    exact lnN_ok n_118 (guard_ok (show (bif Nat.blt k 16 then _ else none) = some e from he)) he
                  · obtain rfl : m = 119 := by omega
                    exact lnN_ok n_119 (guard_ok (show (bif Nat.blt k 7 then _ else none) = some e from he)) he
            · by_cases h124 : m < 124
              · by_cases h122 : m < 122
                · by_cases h121 : m < 121
                  · obtain rfl : m = 120 := by omega
                    exact lnN_ok n_120 (guard_ok (show (bif Nat.blt k 12 then _ else none) = some e from he)) he
                  · obtain rfl : m = 121 := by omega
                    exact lnN_ok n_121 (guard_ok (show (bif Nat.blt k 40 then _ else none) = some e from he)) he
                · by_cases h123 : m < 123
                  · obtain rfl : m = 122 := by omega
                    exact lnN_ok n_122 (guard_ok (show (bif Nat.blt k 14 then _ else none) = some e from he)) he
                  · obtain rfl : m = 123 := by omega
                    exact lnN_ok n_123 (guard_ok (show (bif Nat.blt k 26 then _ else none) = some e from he)) he
              · by_cases h126 : m < 126
                · by_cases h125 : m < 125
                  · obtain rfl : m = 124 := by omega
                    exact lnN_ok n_124 (guard_ok (show (bif Nat.blt k 66 then _ else none) = some e from he)) he
                  · obtain rfl : m = 125 := by omega
                    exact lnN_ok n_125 (guard_ok (show (bif Nat.blt k 616 then _ else none) = some e from he)) he
                · by_cases h127 : m < 127
                  · obtain rfl : m = 126 := by omega
                    exact lnN_ok n_126 (guard_ok (show (bif Nat.blt k 16 then _ else none) = some e from he)) he
                  · obtain rfl : m = 127 := by omega
                    exact lnN_ok n_127 (guard_ok (show (bif Nat.blt k 15 then _ else none) = some e from he)) he
    · by_cases h192 : m < 192
      · by_cases h160 : m < 160
        · by_cases h144 : m < 144
          · by_cases h136 : m < 136
            · by_cases h132 : m < 132
              · by_cases h130 : m < 130
                · by_cases h129 : m < 129
                  · obtain rfl : m = 128 := by omega
                    exact lnN_ok n_128 (guard_ok (show (bif Nat.blt k 22 then _ else none) = some e from he)) he
                  · obtain rfl : m = 129 := by omega
                    exact lnN_ok n_129 (guard_ok (show (bif Nat.blt k 19 then _ else none) = some e from he)) he
                · by_cases h131 : m < 131
                  · obtain rfl : m = 130 := by omega
                    exact lnN_ok n_130 (guard_ok (show (bif Nat.blt k 13 then _ else none) = some e from he)) he
                  · obtain rfl : m = 131 := by omega
                    exact lnN_ok n_131 (guard_ok (show (bif Nat.blt k 61 then _ else none) = some e from he)) he
              · by_cases h134 : m < 134
                · by_cases h133 : m < 133
                  · obtain rfl : m = 132 := by omega
                    exact lnN_ok n_132 (guard_ok (show (bif Nat.blt k 55 then _ else none) = some e from he)) he
                  · obtain rfl : m = 133 := by omega
                    exact lnN_ok n_133 (guard_ok (show (bif Nat.blt k 144 then _ else none) = some e from he)) he
                · by_cases h135 : m < 135
                  · obtain rfl : m = 134 := by omega
                    exact lnN_ok n_134 (guard_ok (show (bif Nat.blt k 73 then _ else none) = some e from he)) he
                  · obtain rfl : m = 135 := by omega
                    exact lnN_ok n_135 (guard_ok (show (bif Nat.blt k 13 then _ else none) = some e from he)) he
            · by_cases h140 : m < 140
              · by_cases h138 : m < 138
                · by_cases h137 : m < 137
                  · obtain rfl : m = 136 := by omega
                    exact lnN_ok n_136 (guard_ok (show (bif Nat.blt k 116 then _ else none) = some e from he)) he
                  · obtain rfl : m = 137 := by omega
                    exact lnN_ok n_137 (guard_ok (show (bif Nat.blt k 40 then _ else none) = some e from he)) he
                · by_cases h139 : m < 139
                  · obtain rfl : m = 138 := by omega
                    exact lnN_ok n_138 (guard_ok (show (bif Nat.blt k 73 then _ else none) = some e from he)) he
                  · obtain rfl : m = 139 := by omega
                    exact lnN_ok n_139 (guard_ok (show (bif Nat.blt k 51 then _ else none) = some e from he)) he
              · by_cases h142 : m < 142
                · by_cases h141 : m < 141
                  · obtain rfl : m = 140 := by omega
                    exact lnN_ok n_140 (guard_ok (show (bif Nat.blt k 25 then _ else none) = some e from he)) he
                  · obtain rfl : m = 141 := by omega
                    exact lnN_ok n_141 (guard_ok (show (bif Nat.blt k 29 then _ else none) = some e from he)) he
                · by_cases h143 : m < 143
                  · obtain rfl : m = 142 := by omega
                    exact lnN_ok n_142 (guard_ok (show (bif Nat.blt k 22 then _ else none) = some e from he)) he
                  · obtain rfl : m = 143 := by omega
                    exact lnN_ok n_143 (guard_ok (show (bif Nat.blt k 37 then _ else none) = some e from he)) he
          · by_cases h152 : m < 152
            · by_cases h148 : m < 148
              · by_cases h146 : m < 146
                · by_cases h145 : m < 145
                  · obtain rfl : m = 144 := by omega
                    exact lnN_ok n_144 (guard_ok (show (bif Nat.blt k 13 then _ else none) = some e from he)) he
                  · obtain rfl : m = 145 := by omega
                    exact lnN_ok n_145 (guard_ok (show (bif Nat.blt k 65 then _ else none) = some e from he)) he
                · by_cases h147 : m < 147
                  · obtain rfl : m = 146 := by omega
                    exact lnN_ok n_146 (guard_ok (show (bif Nat.blt k 21 then _ else none) = some e from he)) he
                  · obtain rfl : m = 147 := by omega
                    exact lnN_ok n_147 (guard_ok (show (bif Nat.blt k 53 then _ else none) = some e from he)) he
              · by_cases h150 : m < 150
                · by_cases h149 : m < 149
                  · obtain rfl : m = 148 := by omega
                    exact lnN_ok n_148 (guard_ok (show (bif Nat.blt k 73 then _ else none) = some e from he)) he
                  · obtain rfl : m = 149 := by omega
                    exact lnN_ok n_149 (guard_ok (show (bif Nat.blt k 110 then _ else none) = some e from he)) he
                · by_cases h151 : m < 151
                  · obtain rfl : m = 150 := by omega
                    exact lnN_ok n_150 (guard_ok (show (bif Nat.blt k 91 then _ else none) = some e from he)) he
                  · obtain rfl : m = 151 := by omega
                    exact lnN_ok n_151 (guard_ok (show (bif Nat.blt k 232 then _ else none) = some e from he)) he
            · by_cases h156 : m < 156
              · by_cases h154 : m < 154
                · by_cases h153 : m < 153
                  · obtain rfl : m = 152 := by omega
                    exact lnN_ok n_152 (guard_ok (show (bif Nat.blt k 70 then _ else none) = some e from he)) he
                  · obtain rfl : m = 153 := by omega
                    exact lnN_ok n_153 (guard_ok (show (bif Nat.blt k 46 then _ else none) = some e from he)) he
                · by_cases h155 : m < 155
                  · obtain rfl : m = 154 := by omega
                    exact lnN_ok n_154 (guard_ok (show (bif Nat.blt k 70 then _ else none) = some e from he)) he
                  · obtain rfl : m = 155 := by omega
                    exact lnN_ok n_155 (guard_ok (show (bif Nat.blt k 61 then _ else none) = some e from he)) he
              · by_cases h158 : m < 158
                · by_cases h157 : m < 157
                  · obtain rfl : m = 156 := by omega
                    exact lnN_ok n_156 (guard_ok (show (bif Nat.blt k 19 then _ else none) = some e from he)) he
                  · obtain rfl : m = 157 := by omega
                    exact lnN_ok n_157 (guard_ok (show (bif Nat.blt k 29 then _ else none) = some e from he)) he
                · by_cases h159 : m < 159
                  · obtain rfl : m = 158 := by omega
                    exact lnN_ok n_158 (guard_ok (show (bif Nat.blt k 44 then _ else none) = some e from he)) he
                  · obtain rfl : m = 159 := by omega
                    exact lnN_ok n_159 (guard_ok (show (bif Nat.blt k 76 then _ else none) = some e from he)) he
        · by_cases h176 : m < 176
          · by_cases h168 : m < 168
            · by_cases h164 : m < 164
              · by_cases h162 : m < 162
                · by_cases h161 : m < 161
                  · obtain rfl : m = 160 := by omega
                    exact lnN_ok n_160 (guard_ok (show (bif Nat.blt k 260 then _ else none) = some e from he)) he
                  · obtain rfl : m = 161 := by omega
                    exact lnN_ok n_161 (guard_ok (show (bif Nat.blt k 89 then _ else none) = some e from he)) he
                · by_cases h163 : m < 163
                  · obtain rfl : m = 162 := by omega
                    exact lnN_ok n_162 (guard_ok (show (bif Nat.blt k 39 then _ else none) = some e from he)) he
                  · obtain rfl : m = 163 := by omega
                    exact lnN_ok n_163 (guard_ok (show (bif Nat.blt k 55 then _ else none) = some e from he)) he
              · by_cases h166 : m < 166
                · by_cases h165 : m < 165
                  · obtain rfl : m = 164 := by omega
                    exact lnN_ok n_164 (guard_ok (show (bif Nat.blt k 47 then _ else none) = some e from he)) he
                  · obtain rfl : m = 165 := by omega
                    exact lnN_ok n_165 (guard_ok (show (bif Nat.blt k 9 then _ else none) = some e from he)) he
                · by_cases h167 : m < 167
                  · obtain rfl : m = 166 := by omega
                    exact lnN_ok n_166 (guard_ok (show (bif Nat.blt k 53 then _ else none) = some e from he)) he
                  · obtain rfl : m = 167 := by omega
                    exact lnN_ok n_167 (guard_ok (show (bif Nat.blt k 45 then _ else none) = some e from he)) he
            · by_cases h172 : m < 172
              · by_cases h170 : m < 170
                · by_cases h169 : m < 169
                  · obtain rfl : m = 168 := by omega
                    exact lnN_ok n_168 (guard_ok (show (bif Nat.blt k 84 then _ else none) = some e from he)) he
                  · obtain rfl : m = 169 := by omega
                    exact lnN_ok n_169 (guard_ok (show (bif Nat.blt k 44 then _ else none) = some e from he)) he
                · by_cases h171 : m < 171
                  · obtain rfl : m = 170 := by omega
                    exact lnN_ok n_170 (guard_ok (show (bif Nat.blt k 68 then _ else none) = some e from he)) he
                  · obtain rfl : m = 171 := by omega
                    exact lnN_ok n_171 (guard_ok (show (bif Nat.blt k 65 then _ else none) = some e from he)) he
              · by_cases h174 : m < 174
                · by_cases h173 : m < 173
                  · obtain rfl : m = 172 := by omega
                    exact lnN_ok n_172 (guard_ok (show (bif Nat.blt k 108 then _ else none) = some e from he)) he
                  · obtain rfl : m = 173 := by omega
                    exact lnN_ok n_173 (guard_ok (show (bif Nat.blt k 81 then _ else none) = some e from he)) he
                · by_cases h175 : m < 175
                  · obtain rfl : m = 174 := by omega
                    exact lnN_ok n_174 (guard_ok (show (bif Nat.blt k 56 then _ else none) = some e from he)) he
                  · obtain rfl : m = 175 := by omega
                    exact lnN_ok n_175 (guard_ok (show (bif Nat.blt k 49 then _ else none) = some e from he)) he
          · by_cases h184 : m < 184
            · by_cases h180 : m < 180
              · by_cases h178 : m < 178
                · by_cases h177 : m < 177
                  · obtain rfl : m = 176 := by omega
                    exact lnN_ok n_176 (guard_ok (show (bif Nat.blt k 40 then _ else none) = some e from he)) he
                  · obtain rfl : m = 177 := by omega
                    exact lnN_ok n_177 (guard_ok (show (bif Nat.blt k 77 then _ else none) = some e from he)) he
                · by_cases h179 : m < 179
                  · obtain rfl : m = 178 := by omega
                    exact lnN_ok n_178 (guard_ok (show (bif Nat.blt k 39 then _ else none) = some e from he)) he
                  · obtain rfl : m = 179 := by omega
                    exact lnN_ok n_179 (guard_ok (show (bif Nat.blt k 43 then _ else none) = some e from he)) he
              · by_cases h182 : m < 182
                · by_cases h181 : m < 181
                  · obtain rfl : m = 180 := by omega
                    exact lnN_ok n_180 (guard_ok (show (bif Nat.blt k 10 then _ else none) = some e from he)) he
                  · obtain rfl : m = 181 := by omega
                    exact lnN_ok n_181 (guard_ok (show (bif Nat.blt k 42 then _ else none) = some e from he)) he
                · by_cases h183 : m < 183
                  · obtain rfl : m = 182 := by omega
                    exact lnN_ok n_182 (guard_ok (show (bif Nat.blt k 27 then _ else none) = some e from he)) he
                  · obtain rfl : m = 183 := by omega
                    exact lnN_ok n_183 (guard_ok (show (bif Nat.blt k 88 then _ else none) = some e from he)) he
            · by_cases h188 : m < 188
              · by_cases h186 : m < 186
                · by_cases h185 : m < 185
                  · obtain rfl : m = 184 := by omega
                    exact lnN_ok n_184 (guard_ok (show (bif Nat.blt k 45 then _ else none) = some e from he)) he
                  · obtain rfl : m = 185 := by omega
                    exact lnN_ok n_185 (guard_ok (show (bif Nat.blt k 23 then _ else none) = some e from he)) he
                · by_cases h187 : m < 187
                  · obtain rfl : m = 186 := by omega
                    exact lnN_ok n_186 (guard_ok (show (bif Nat.blt k 31 then _ else none) = some e from he)) he
                  · obtain rfl : m = 187 := by omega
                    exact lnN_ok n_187 (guard_ok (show (bif Nat.blt k 134 then _ else none) = some e from he)) he
              · by_cases h190 : m < 190
                · by_cases h189 : m < 189
                  · obtain rfl : m = 188 := by omega
                    exact lnN_ok n_188 (guard_ok (show (bif Nat.blt k 60 then _ else none) = some e from he)) he
                  · obtain rfl : m = 189 := by omega
                    exact lnN_ok n_189 (guard_ok (show (bif Nat.blt k 58 then _ else none) = some e from he)) he
                · by_cases h191 : m < 191
                  · obtain rfl : m = 190 := by omega
                    exact lnN_ok n_190 (guard_ok (show (bif Nat.blt k 67 then _ else none) = some e from he)) he
                  · obtain rfl : m = 191 := by omega
                    exact lnN_ok n_191 (guard_ok (show (bif Nat.blt k 28 then _ else none) = some e from he)) he
      · by_cases h224 : m < 224
        · by_cases h208 : m < 208
          · by_cases h200 : m < 200
            · by_cases h196 : m < 196
              · by_cases h194 : m < 194
                · by_cases h193 : m < 193
                  · obtain rfl : m = 192 := by omega
                    exact lnN_ok n_192 (guard_ok (show (bif Nat.blt k 45 then _ else none) = some e from he)) he
                  · obtain rfl : m = 193 := by omega
                    exact lnN_ok n_193 (guard_ok (show (bif Nat.blt k 18 then _ else none) = some e from he)) he
                · by_cases h195 : m < 195
                  · obtain rfl : m = 194 := by omega
                    exact lnN_ok n_194 (guard_ok (show (bif Nat.blt k 44 then _ else none) = some e from he)) he
                  · obtain rfl : m = 195 := by omega
                    exact lnN_ok n_195 (guard_ok (show (bif Nat.blt k 93 then _ else none) = some e from he)) he
              · by_cases h198 : m < 198
                · by_cases h197 : m < 197
                  · obtain rfl : m = 196 := by omega
                    exact lnN_ok n_196 (guard_ok (show (bif Nat.blt k 117 then _ else none) = some e from he)) he
                  · obtain rfl : m = 197 := by omega
                    exact lnN_ok n_197 (guard_ok (show (bif Nat.blt k 76 then _ else none) = some e from he)) he
                · by_cases h199 : m < 199
                  · obtain rfl : m = 198 := by omega
                    exact lnN_ok n_198 (guard_ok (show (bif Nat.blt k 76 then _ else none) = some e from he)) he
                  · obtain rfl : m = 199 := by omega
                    exact lnN_ok n_199 (guard_ok (show (bif Nat.blt k 27 then _ else none) = some e from he)) he
            · by_cases h204 : m < 204
              · by_cases h202 : m < 202
                · by_cases h201 : m < 201
                  · obtain rfl : m = 200 := by omega
                    exact lnN_ok n_200 (guard_ok (show (bif Nat.blt k 103 then _ else none) = some e from he)) he
                  · obtain rfl : m = 201 := by omega
                    exact lnN_ok n_201 (guard_ok (show (bif Nat.blt k 102 then _ else none) = some e from he)) he
                · by_cases h203 : m < 203
                  · obtain rfl : m = 202 := by omega
                    exact lnN_ok n_202 (guard_ok (show (bif Nat.blt k 43 then _ else none) = some e from he)) he
                  · obtain rfl : m = 203 := by omega
                    exact lnN_ok n_203 (guard_ok (show (bif Nat.blt k 39 then _ else none) = some e from he)) he
              · by_cases h206 : m < 206
                · by_cases h205 : m < 205
                  · obtain rfl : m = 204 := by omega
                    exact lnN_ok n_204 (guard_ok (show (bif Nat.blt k 57 then _ else none) = some e from he)) he
                  · obtain rfl : m = 205 := by omega
                    exact lnN_ok n_205 (guard_ok (show (bif Nat.blt k 22 then _ else none) = some e from he)) he
                · by_cases h207 : m < 207
                  · obtain rfl : m = 206 := by omega
                    exact lnN_ok n_206 (guard_ok (show (bif Nat.blt k 117 then _ else none) = some e from he)) he
                  · obtain rfl : m = 207 := by omega
                    exact lnN_ok n_207 (guard_ok (show (bif Nat.blt k 30 then _ else none) = some e from he)) he
          · by_cases h216 : m < 216
            · by_cases h212 : m < 212
              · by_cases h210 : m < 210
                · by_cases h209 : m < 209
                  · obtain rfl : m = 208 := by omega
                    exact lnN_ok n_208 (guard_ok (show (bif Nat.blt k 72 then _ else none) = some e from he)) he
                  · obtain rfl : m = 209 := by omega
                    exact lnN_ok n_209 (guard_ok (show (bif Nat.blt k 69 then _ else none) = some e from he)) he
                · by_cases h211 : m < 211
                  · obtain rfl : m = 210 := by omega
                    exact lnN_ok n_210 (guard_ok (show (bif Nat.blt k 105 then _ else none) = some e from he)) he
                  · obtain rfl : m = 211 := by omega
                    exact lnN_ok n_211 (guard_ok (show (bif Nat.blt k 43 then _ else none) = some e from he)) he
              · by_cases h214 : m < 214
                · by_cases h213 : m < 213
                  · obtain rfl : m = 212 := by omega
                    exact lnN_ok n_212 (guard_ok (show (bif Nat.blt k 60 then _ else none) = some e from he)) he
                  · obtain rfl : m = 213 := by omega
                    exact lnN_ok n_213 (guard_ok (show (bif Nat.blt k 72 then _ else none) = some e from he)) he
                · by_cases h215 : m < 215
                  · obtain rfl : m = 214 := by omega
                    exact lnN_ok n_214 (guard_ok (show (bif Nat.blt k 28 then _ else none) = some e from he)) he
                  · obtain rfl : m = 215 := by omega
                    exact lnN_ok n_215 (guard_ok (show (bif Nat.blt k 26 then _ else none) = some e from he)) he
            · by_cases h220 : m < 220
              · by_cases h218 : m < 218
                · by_cases h217 : m < 217
                  · obtain rfl : m = 216 := by omega
                    exact lnN_ok n_216 (guard_ok (show (bif Nat.blt k 81 then _ else none) = some e from he)) he
                  · obtain rfl : m = 217 := by omega
                    exact lnN_ok n_217 (guard_ok (show (bif Nat.blt k 70 then _ else none) = some e from he)) he
                · by_cases h219 : m < 219
                  · obtain rfl : m = 218 := by omega
                    exact lnN_ok n_218 (guard_ok (show (bif Nat.blt k 59 then _ else none) = some e from he)) he
                  · obtain rfl : m = 219 := by omega
                    exact lnN_ok n_219 (guard_ok (show (bif Nat.blt k 108 then _ else none) = some e from he)) he
              · by_cases h222 : m < 222
                · by_cases h221 : m < 221
                  · obtain rfl : m = 220 := by omega
                    exact lnN_ok n_220 (guard_ok (show (bif Nat.blt k 99 then _ else none) = some e from he)) he
                  · obtain rfl : m = 221 := by omega
                    exact lnN_ok n_221 (guard_ok (show (bif Nat.blt k 301 then _ else none) = some e from he)) he
                · by_cases h223 : m < 223
                  · obtain rfl : m = 222 := by omega
                    exact lnN_ok n_222 (guard_ok (show (bif Nat.blt k 306 then _ else none) = some e from he)) he
                  · obtain rfl : m = 223 := by omega
                    exact lnN_ok n_223 (guard_ok (show (bif Nat.blt k 30 then _ else none) = some e from he)) he
        · by_cases h240 : m < 240
          · by_cases h232 : m < 232
            · by_cases h228 : m < 228
              · by_cases h226 : m < 226
                · by_cases h225 : m < 225
                  · obtain rfl : m = 224 := by omega
                    exact lnN_ok n_224 (guard_ok (show (bif Nat.blt k 10 then _ else none) = some e from he)) he
                  · obtain rfl : m = 225 := by omega
                    exact lnN_ok n_225 (guard_ok (show (bif Nat.blt k 96 then _ else none) = some e from he)) he
                · by_cases h227 : m < 227
                  · obtain rfl : m = 226 := by omega
                    exact lnN_ok n_226 (guard_ok (show (bif Nat.blt k 20 then _ else none) = some e from he)) he
                  · obtain rfl : m = 227 := by omega
                    exact lnN_ok n_227 (guard_ok (show (bif Nat.blt k 16 then _ else none) = some e from he)) he
              · by_cases h230 : m < 230
                · by_cases h229 : m < 229
                  · obtain rfl : m = 228 := by omega
                    exact lnN_ok n_228 (guard_ok (show (bif Nat.blt k 91 then _ else none) = some e from he)) he
                  · obtain rfl : m = 229 := by omega
                    exact lnN_ok n_229 (guard_ok (show (bif Nat.blt k 15 then _ else none) = some e from he)) he
                · by_cases h231 : m < 231
                  · obtain rfl : m = 230 := by omega
                    exact lnN_ok n_230 (guard_ok (show (bif Nat.blt k 80 then _ else none) = some e from he)) he
                  · obtain rfl : m = 231 := by omega
                    exact lnN_ok n_231 (guard_ok (show (bif Nat.blt k 59 then _ else none) = some e from he)) he
            · by_cases h236 : m < 236
              · by_cases h234 : m < 234
                · by_cases h233 : m < 233
                  · obtain rfl : m = 232 := by omega
                    exact lnN_ok n_232 (guard_ok (show (bif Nat.blt k 30 then _ else none) = some e from he)) he
                  · obtain rfl : m = 233 := by omega
                    exact lnN_ok n_233 (guard_ok (show (bif Nat.blt k 79 then _ else none) = some e from he)) he
                · by_cases h235 : m < 235
                  · obtain rfl : m = 234 := by omega
                    exact lnN_ok n_234 (guard_ok (show (bif Nat.blt k 91 then _ else none) = some e from he)) he
                  · obtain rfl : m = 235 := by omega
                    exact lnN_ok n_235 (guard_ok (show (bif Nat.blt k 8 then _ else none) = some e from he)) he
              · by_cases h238 : m < 238
                · by_cases h237 : m < 237
                  · obtain rfl : m = 236 := by omega
                    exact lnN_ok n_236 (guard_ok (show (bif Nat.blt k 97 then _ else none) = some e from he)) he
                  · obtain rfl : m = 237 := by omega
                    exact lnN_ok n_237 (guard_ok (show (bif Nat.blt k 55 then _ else none) = some e from he)) he
                · by_cases h239 : m < 239
                  · obtain rfl : m = 238 := by omega
                    exact lnN_ok n_238 (guard_ok (show (bif Nat.blt k 66 then _ else none) = some e from he)) he
                  · obtain rfl : m = 239 := by omega
                    exact lnN_ok n_239 (guard_ok (show (bif Nat.blt k 52 then _ else none) = some e from he)) he
          · by_cases h248 : m < 248
            · by_cases h244 : m < 244
              · by_cases h242 : m < 242
                · by_cases h241 : m < 241
                  · obtain rfl : m = 240 := by omega
                    exact lnN_ok n_240 (guard_ok (show (bif Nat.blt k 179 then _ else none) = some e from he)) he
                  · obtain rfl : m = 241 := by omega
                    exact lnN_ok n_241 (guard_ok (show (bif Nat.blt k 11 then _ else none) = some e from he)) he
                · by_cases h243 : m < 243
                  · obtain rfl : m = 242 := by omega
                    exact lnN_ok n_242 (guard_ok (show (bif Nat.blt k 25 then _ else none) = some e from he)) he
                  · obtain rfl : m = 243 := by omega
                    exact lnN_ok n_243 (guard_ok (show (bif Nat.blt k 7 then _ else none) = some e from he)) he
              · by_cases h246 : m < 246
                · by_cases h245 : m < 245
                  · obtain rfl : m = 244 := by omega
                    exact lnN_ok n_244 (guard_ok (show (bif Nat.blt k 37 then _ else none) = some e from he)) he
                  · obtain rfl : m = 245 := by omega
                    exact lnN_ok n_245 (guard_ok (show (bif Nat.blt k 15 then _ else none) = some e from he)) he
                · by_cases h247 : m < 247
                  · obtain rfl : m = 246 := by omega
                    exact lnN_ok n_246 (guard_ok (show (bif Nat.blt k 19 then _ else none) = some e from he)) he
                  · obtain rfl : m = 247 := by omega
                    exact lnN_ok n_247 (guard_ok (show (bif Nat.blt k 10 then _ else none) = some e from he)) he
            · by_cases h252 : m < 252
              · by_cases h250 : m < 250
                · by_cases h249 : m < 249
                  · obtain rfl : m = 248 := by omega
                    exact lnN_ok n_248 (guard_ok (show (bif Nat.blt k 15 then _ else none) = some e from he)) he
                  · obtain rfl : m = 249 := by omega
                    exact lnN_ok n_249 (guard_ok (show (bif Nat.blt k 17 then _ else none) = some e from he)) he
                · by_cases h251 : m < 251
                  · obtain rfl : m = 250 := by omega
                    exact lnN_ok n_250 (guard_ok (show (bif Nat.blt k 37 then _ else none) = some e from he)) he
                  · obtain rfl : m = 251 := by omega
                    exact lnN_ok n_251 (guard_ok (show (bif Nat.blt k 33 then _ else none) = some e from he)) he
              · by_cases h254 : m < 254
                · by_cases h253 : m < 253
                  · obtain rfl : m = 252 := by omega
                    exact lnN_ok n_252 (guard_ok (show (bif Nat.blt k 18 then _ else none) = some e from he)) he
                  · obtain rfl : m = 253 := by omega
                    exact lnN_ok n_253 (guard_ok (show (bif Nat.blt k 53 then _ else none) = some e from he)) he
                · by_cases h255 : m < 255
                  · obtain rfl : m = 254 := by omega
                    exact lnN_ok n_254 (guard_ok (show (bif Nat.blt k 23 then _ else none) = some e from he)) he
                  · by_cases h256 : m < 256
                    · obtain rfl : m = 255 := by omega
                      exact lnN_ok n_255 (guard_ok (show (bif Nat.blt k 21 then _ else none) = some e from he)) he
                    · obtain rfl : m = 256 := by omega
                      exact lnN_ok n_256 (guard_ok (show (bif Nat.blt k 20 then _ else none) = some e from he)) he
