/-! ===== all methods ===== -/
theorem zbl {P : Nat → Prop} {a m b : Nat} (h1 : ∀ y, a ≤ y → y < m → P y) (h2 : ∀ y, m ≤ y → y < b → P y) : ∀ y, a ≤ y → y < b → P y := fun y ha hb => by
  by_cases h : y < m
  · exact h1 y ha h
  · exact h2 y (by omega) hb
theorem zbe {P : Nat → Prop} {a b : Nat} (e : b = a + 1) (h : P a) : ∀ y, a ≤ y → y < b → P y := fun y ha hb => by
  have h1 : y = a := by omega
  rw [h1]; exact h
theorem zmoAll : ∀ y, 0 ≤ y → y < 214 → ∀ pc, zMo (zpr y pc) := (zbl (zbl (zbl (zbl (zbl (zbl (zbl (zbe rfl zmo_0) (zbl (zbe rfl zmo_1) (zbe rfl zmo_2))) (zbl (zbe rfl zmo_3) (zbl (zbe rfl zmo_4) (zbe rfl zmo_5)))) (zbl (zbl (zbe rfl zmo_6) (zbl (zbe rfl zmo_7) (zbe rfl zmo_8))) (zbl (zbl (zbe rfl zmo_9) (zbe rfl zmo_10)) (zbl (zbe rfl zmo_11) (zbe rfl zmo_12))))) (zbl (zbl (zbl (zbe rfl zmo_13) (zbl (zbe rfl zmo_14) (zbe rfl zmo_15))) (zbl (zbe rfl zmo_16) (zbl (zbe rfl zmo_17) (zbe rfl zmo_18)))) (zbl (zbl (zbe rfl zmo_19) (zbl (zbe rfl zmo_20) (zbe rfl zmo_21))) (zbl (zbl (zbe rfl zmo_22) (zbe rfl zmo_23)) (zbl (zbe rfl zmo_24) (zbe rfl zmo_25)))))) (zbl (zbl (zbl (zbl (zbe rfl zmo_26) (zbl (zbe rfl zmo_27) (zbe rfl zmo_28))) (zbl (zbe rfl zmo_29) (zbl (zbe rfl zmo_30) (zbe rfl zmo_31)))) (zbl (zbl (zbe rfl zmo_32) (zbl (zbe rfl zmo_33) (zbe rfl zmo_34))) (zbl (zbl (zbe rfl zmo_35) (zbe rfl zmo_36)) (zbl (zbe rfl zmo_37) (zbe rfl zmo_38))))) (zbl (zbl (zbl (zbe rfl zmo_39) (zbl (zbe rfl zmo_40) (zbe rfl zmo_41))) (zbl (zbl (zbe rfl zmo_42) (zbe rfl zmo_43)) (zbl (zbe rfl zmo_44) (zbe rfl zmo_45)))) (zbl (zbl (zbe rfl zmo_46) (zbl (zbe rfl zmo_47) (zbe rfl zmo_48))) (zbl (zbl (zbe rfl zmo_49) (zbe rfl zmo_50)) (zbl (zbe rfl zmo_51) (zbe rfl zmo_52))))))) (zbl (zbl (zbl (zbl (zbl (zbe rfl zmo_53) (zbl (zbe rfl zmo_54) (zbe rfl zmo_55))) (zbl (zbe rfl zmo_56) (zbl (zbe rfl zmo_57) (zbe rfl zmo_58)))) (zbl (zbl (zbe rfl zmo_59) (zbl (zbe rfl zmo_60) (zbe rfl zmo_61))) (zbl (zbl (zbe rfl zmo_62) (zbe rfl zmo_63)) (zbl (zbe rfl zmo_64) (zbe rfl zmo_65))))) (zbl (zbl (zbl (zbe rfl zmo_66) (zbl (zbe rfl zmo_67) (zbe rfl zmo_68))) (zbl (zbl (zbe rfl zmo_69) (zbe rfl zmo_70)) (zbl (zbe rfl zmo_71) (zbe rfl zmo_72)))) (zbl (zbl (zbe rfl zmo_73) (zbl (zbe rfl zmo_74) (zbe rfl zmo_75))) (zbl (zbl (zbe rfl zmo_76) (zbe rfl zmo_77)) (zbl (zbe rfl zmo_78) (zbe rfl zmo_79)))))) (zbl (zbl (zbl (zbl (zbe rfl zmo_80) (zbl (zbe rfl zmo_81) (zbe rfl zmo_82))) (zbl (zbe rfl zmo_83) (zbl (zbe rfl zmo_84) (zbe rfl zmo_85)))) (zbl (zbl (zbe rfl zmo_86) (zbl (zbe rfl zmo_87) (zbe rfl zmo_88))) (zbl (zbl (zbe rfl zmo_89) (zbe rfl zmo_90)) (zbl (zbe rfl zmo_91) (zbe rfl zmo_92))))) (zbl (zbl (zbl (zbe rfl zmo_93) (zbl (zbe rfl zmo_94) (zbe rfl zmo_95))) (zbl (zbl (zbe rfl zmo_96) (zbe rfl zmo_97)) (zbl (zbe rfl zmo_98) (zbe rfl zmo_99)))) (zbl (zbl (zbe rfl zmo_100) (zbl (zbe rfl zmo_101) (zbe rfl zmo_102))) (zbl (zbl (zbe rfl zmo_103) (zbe rfl zmo_104)) (zbl (zbe rfl zmo_105) (zbe rfl zmo_106)))))))) (zbl (zbl (zbl (zbl (zbl (zbl (zbe rfl zmo_107) (zbl (zbe rfl zmo_108) (zbe rfl zmo_109))) (zbl (zbe rfl zmo_110) (zbl (zbe rfl zmo_111) (zbe rfl zmo_112)))) (zbl (zbl (zbe rfl zmo_113) (zbl (zbe rfl zmo_114) (zbe rfl zmo_115))) (zbl (zbl (zbe rfl zmo_116) (zbe rfl zmo_117)) (zbl (zbe rfl zmo_118) (zbe rfl zmo_119))))) (zbl (zbl (zbl (zbe rfl zmo_120) (zbl (zbe rfl zmo_121) (zbe rfl zmo_122))) (zbl (zbe rfl zmo_123) (zbl (zbe rfl zmo_124) (zbe rfl zmo_125)))) (zbl (zbl (zbe rfl zmo_126) (zbl (zbe rfl zmo_127) (zbe rfl zmo_128))) (zbl (zbl (zbe rfl zmo_129) (zbe rfl zmo_130)) (zbl (zbe rfl zmo_131) (zbe rfl zmo_132)))))) (zbl (zbl (zbl (zbl (zbe rfl zmo_133) (zbl (zbe rfl zmo_134) (zbe rfl zmo_135))) (zbl (zbe rfl zmo_136) (zbl (zbe rfl zmo_137) (zbe rfl zmo_138)))) (zbl (zbl (zbe rfl zmo_139) (zbl (zbe rfl zmo_140) (zbe rfl zmo_141))) (zbl (zbl (zbe rfl zmo_142) (zbe rfl zmo_143)) (zbl (zbe rfl zmo_144) (zbe rfl zmo_145))))) (zbl (zbl (zbl (zbe rfl zmo_146) (zbl (zbe rfl zmo_147) (zbe rfl zmo_148))) (zbl (zbl (zbe rfl zmo_149) (zbe rfl zmo_150)) (zbl (zbe rfl zmo_151) (zbe rfl zmo_152)))) (zbl (zbl (zbe rfl zmo_153) (zbl (zbe rfl zmo_154) (zbe rfl zmo_155))) (zbl (zbl (zbe rfl zmo_156) (zbe rfl zmo_157)) (zbl (zbe rfl zmo_158) (zbe rfl zmo_159))))))) (zbl (zbl (zbl (zbl (zbl (zbe rfl zmo_160) (zbl (zbe rfl zmo_161) (zbe rfl zmo_162))) (zbl (zbe rfl zmo_163) (zbl (zbe rfl zmo_164) (zbe rfl zmo_165)))) (zbl (zbl (zbe rfl zmo_166) (zbl (zbe rfl zmo_167) (zbe rfl zmo_168))) (zbl (zbl (zbe rfl zmo_169) (zbe rfl zmo_170)) (zbl (zbe rfl zmo_171) (zbe rfl zmo_172))))) (zbl (zbl (zbl (zbe rfl zmo_173) (zbl (zbe rfl zmo_174) (zbe rfl zmo_175))) (zbl (zbl (zbe rfl zmo_176) (zbe rfl zmo_177)) (zbl (zbe rfl zmo_178) (zbe rfl zmo_179)))) (zbl (zbl (zbe rfl zmo_180) (zbl (zbe rfl zmo_181) (zbe rfl zmo_182))) (zbl (zbl (zbe rfl zmo_183) (zbe rfl zmo_184)) (zbl (zbe rfl zmo_185) (zbe rfl zmo_186)))))) (zbl (zbl (zbl (zbl (zbe rfl zmo_187) (zbl (zbe rfl zmo_188) (zbe rfl zmo_189))) (zbl (zbe rfl zmo_190) (zbl (zbe rfl zmo_191) (zbe rfl zmo_192)))) (zbl (zbl (zbe rfl zmo_193) (zbl (zbe rfl zmo_194) (zbe rfl zmo_195))) (zbl (zbl (zbe rfl zmo_196) (zbe rfl zmo_197)) (zbl (zbe rfl zmo_198) (zbe rfl zmo_199))))) (zbl (zbl (zbl (zbe rfl zmo_200) (zbl (zbe rfl zmo_201) (zbe rfl zmo_202))) (zbl (zbl (zbe rfl zmo_203) (zbe rfl zmo_204)) (zbl (zbe rfl zmo_205) (zbe rfl zmo_206)))) (zbl (zbl (zbe rfl zmo_207) (zbl (zbe rfl zmo_208) (zbe rfl zmo_209))) (zbl (zbl (zbe rfl zmo_210) (zbe rfl zmo_211)) (zbl (zbe rfl zmo_212) (zbe rfl zmo_213)))))))))
def zSOK (y : Nat) : Prop := ∀ {p : Program} {l : Launch} {e : Env} {R : Room} {s : State} {m : MethodId} {args : Array Value} {below : List Frame} {meth : Method} {c : Code} {G : zG} {L : Nat} {xs : Nat → Int32} {cl : zA} {d n0 nf : Nat} {Q : State → Prop} {Qp : Option Value → zW → Prop}, zCx zmt p l e R s m args below meth c G L xs (zby y) (znm y).cls (zrt y) cl d n0 nf Q Qp → c.maxLocals = zml y → meth.name = (znm y).name → ∀ pc, zSd p l e R s m args below meth c G L xs cl n0 nf Q Qp pc (zpr y pc)
theorem zsok_0 : zSOK 0 := fun C hm hN pc => zs_0 C hm hN pc
theorem zsok_1 : zSOK 1 := fun C hm hN pc => zs_1 C hm pc
theorem zsok_2 : zSOK 2 := fun C hm hN pc => zs_2 C hm pc
theorem zsok_3 : zSOK 3 := fun C hm hN pc => zs_3 C hm pc
theorem zsok_4 : zSOK 4 := fun C hm hN pc => zs_4 C hm pc
theorem zsok_5 : zSOK 5 := fun C hm hN pc => zs_5 C hm pc
theorem zsok_6 : zSOK 6 := fun C hm hN pc => zs_6 C hm hN pc
theorem zsok_7 : zSOK 7 := fun C hm hN pc => zs_7 C hm pc
theorem zsok_8 : zSOK 8 := fun C hm hN pc => zs_8 C hm pc
theorem zsok_9 : zSOK 9 := fun C hm hN pc => zs_9 C hm pc
theorem zsok_10 : zSOK 10 := fun C hm hN pc => zs_10 C hm pc
theorem zsok_11 : zSOK 11 := fun C hm hN pc => zs_11 C hm pc
theorem zsok_12 : zSOK 12 := fun C hm hN pc => zs_12 C hm hN pc
theorem zsok_13 : zSOK 13 := fun C hm hN pc => zs_13 C hm pc
theorem zsok_14 : zSOK 14 := fun C hm hN pc => zs_14 C hm pc
theorem zsok_15 : zSOK 15 := fun C hm hN pc => zs_15 C hm pc
theorem zsok_16 : zSOK 16 := fun C hm hN pc => zs_16 C hm pc
theorem zsok_17 : zSOK 17 := fun C hm hN pc => zs_17 C hm hN pc
theorem zsok_18 : zSOK 18 := fun C hm hN pc => zs_18 C hm pc
theorem zsok_19 : zSOK 19 := fun C hm hN pc => zs_19 C hm pc
theorem zsok_20 : zSOK 20 := fun C hm hN pc => zs_20 C hm pc
theorem zsok_21 : zSOK 21 := fun C hm hN pc => zs_21 C hm pc
theorem zsok_22 : zSOK 22 := fun C hm hN pc => zs_22 C hm pc
theorem zsok_23 : zSOK 23 := fun C hm hN pc => zs_23 C hm pc
theorem zsok_24 : zSOK 24 := fun C hm hN pc => zs_24 C hm pc
theorem zsok_25 : zSOK 25 := fun C hm hN pc => zs_25 C hm pc
theorem zsok_26 : zSOK 26 := fun C hm hN pc => zs_26 C hm pc
theorem zsok_27 : zSOK 27 := fun C hm hN pc => zs_27 C hm pc
theorem zsok_28 : zSOK 28 := fun C hm hN pc => zs_28 C hm hN pc
theorem zsok_29 : zSOK 29 := fun C hm hN pc => zs_29 C hm pc
theorem zsok_30 : zSOK 30 := fun C hm hN pc => zs_30 C hm pc
theorem zsok_31 : zSOK 31 := fun C hm hN pc => zs_31 C hm pc
theorem zsok_32 : zSOK 32 := fun C hm hN pc => zs_32 C hm pc
theorem zsok_33 : zSOK 33 := fun C hm hN pc => zs_33 C hm pc
theorem zsok_34 : zSOK 34 := fun C hm hN pc => zs_34 C hm pc
theorem zsok_35 : zSOK 35 := fun C hm hN pc => zs_35 C hm pc
theorem zsok_36 : zSOK 36 := fun C hm hN pc => zs_36 C hm pc
theorem zsok_37 : zSOK 37 := fun C hm hN pc => zs_37 C hm pc
theorem zsok_38 : zSOK 38 := fun C hm hN pc => zs_38 C hm pc
theorem zsok_39 : zSOK 39 := fun C hm hN pc => zs_39 C hm pc
theorem zsok_40 : zSOK 40 := fun C hm hN pc => zs_40 C hm pc
theorem zsok_41 : zSOK 41 := fun C hm hN pc => zs_41 C hm pc
theorem zsok_42 : zSOK 42 := fun C hm hN pc => zs_42 C hm pc
theorem zsok_43 : zSOK 43 := fun C hm hN pc => zs_43 C hm pc
theorem zsok_44 : zSOK 44 := fun C hm hN pc => zs_44 C hm pc
theorem zsok_45 : zSOK 45 := fun C hm hN pc => zs_45 C hm pc
theorem zsok_46 : zSOK 46 := fun C hm hN pc => zs_46 C hm hN pc
theorem zsok_47 : zSOK 47 := fun C hm hN pc => zs_47 C hm pc
theorem zsok_48 : zSOK 48 := fun C hm hN pc => zs_48 C hm pc
theorem zsok_49 : zSOK 49 := fun C hm hN pc => zs_49 C hm pc
theorem zsok_50 : zSOK 50 := fun C hm hN pc => zs_50 C hm pc
theorem zsok_51 : zSOK 51 := fun C hm hN pc => zs_51 C hm pc
theorem zsok_52 : zSOK 52 := fun C hm hN pc => zs_52 C hm pc
theorem zsok_53 : zSOK 53 := fun C hm hN pc => zs_53 C hm hN pc
theorem zsok_54 : zSOK 54 := fun C hm hN pc => zs_54 C hm pc
theorem zsok_55 : zSOK 55 := fun C hm hN pc => zs_55 C hm pc
theorem zsok_56 : zSOK 56 := fun C hm hN pc => zs_56 C hm pc
theorem zsok_57 : zSOK 57 := fun C hm hN pc => zs_57 C hm pc
theorem zsok_58 : zSOK 58 := fun C hm hN pc => zs_58 C hm pc
theorem zsok_59 : zSOK 59 := fun C hm hN pc => zs_59 C hm pc
theorem zsok_60 : zSOK 60 := fun C hm hN pc => zs_60 C hm pc
theorem zsok_61 : zSOK 61 := fun C hm hN pc => zs_61 C hm pc
theorem zsok_62 : zSOK 62 := fun C hm hN pc => zs_62 C hm pc
theorem zsok_63 : zSOK 63 := fun C hm hN pc => zs_63 C hm pc
theorem zsok_64 : zSOK 64 := fun C hm hN pc => zs_64 C hm pc
theorem zsok_65 : zSOK 65 := fun C hm hN pc => zs_65 C hm pc
theorem zsok_66 : zSOK 66 := fun C hm hN pc => zs_66 C hm pc
theorem zsok_67 : zSOK 67 := fun C hm hN pc => zs_67 C hm pc
theorem zsok_68 : zSOK 68 := fun C hm hN pc => zs_68 C hm pc
theorem zsok_69 : zSOK 69 := fun C hm hN pc => zs_69 C hm pc
theorem zsok_70 : zSOK 70 := fun C hm hN pc => zs_70 C hm pc
theorem zsok_71 : zSOK 71 := fun C hm hN pc => zs_71 C hm pc
theorem zsok_72 : zSOK 72 := fun C hm hN pc => zs_72 C hm pc
theorem zsok_73 : zSOK 73 := fun C hm hN pc => zs_73 C hm pc
theorem zsok_74 : zSOK 74 := fun C hm hN pc => zs_74 C hm pc
theorem zsok_75 : zSOK 75 := fun C hm hN pc => zs_75 C hm pc
theorem zsok_76 : zSOK 76 := fun C hm hN pc => zs_76 C hm pc
theorem zsok_77 : zSOK 77 := fun C hm hN pc => zs_77 C hm pc
theorem zsok_78 : zSOK 78 := fun C hm hN pc => zs_78 C hm pc
theorem zsok_79 : zSOK 79 := fun C hm hN pc => zs_79 C hm pc
theorem zsok_80 : zSOK 80 := fun C hm hN pc => zs_80 C hm pc
theorem zsok_81 : zSOK 81 := fun C hm hN pc => zs_81 C hm pc
theorem zsok_82 : zSOK 82 := fun C hm hN pc => zs_82 C hm pc
theorem zsok_83 : zSOK 83 := fun C hm hN pc => zs_83 C hm pc
theorem zsok_84 : zSOK 84 := fun C hm hN pc => zs_84 C hm pc
theorem zsok_85 : zSOK 85 := fun C hm hN pc => zs_85 C hm pc
theorem zsok_86 : zSOK 86 := fun C hm hN pc => zs_86 C hm pc
theorem zsok_87 : zSOK 87 := fun C hm hN pc => zs_87 C hm pc
theorem zsok_88 : zSOK 88 := fun C hm hN pc => zs_88 C hm pc
theorem zsok_89 : zSOK 89 := fun C hm hN pc => zs_89 C hm pc
theorem zsok_90 : zSOK 90 := fun C hm hN pc => zs_90 C hm pc
theorem zsok_91 : zSOK 91 := fun C hm hN pc => zs_91 C hm pc
theorem zsok_92 : zSOK 92 := fun C hm hN pc => zs_92 C hm pc
theorem zsok_93 : zSOK 93 := fun C hm hN pc => zs_93 C hm pc
theorem zsok_94 : zSOK 94 := fun C hm hN pc => zs_94 C hm pc
theorem zsok_95 : zSOK 95 := fun C hm hN pc => zs_95 C hm pc
theorem zsok_96 : zSOK 96 := fun C hm hN pc => zs_96 C hm pc
theorem zsok_97 : zSOK 97 := fun C hm hN pc => zs_97 C hm pc
theorem zsok_98 : zSOK 98 := fun C hm hN pc => zs_98 C hm pc
theorem zsok_99 : zSOK 99 := fun C hm hN pc => zs_99 C hm pc
theorem zsok_100 : zSOK 100 := fun C hm hN pc => zs_100 C hm pc
theorem zsok_101 : zSOK 101 := fun C hm hN pc => zs_101 C hm hN pc
theorem zsok_102 : zSOK 102 := fun C hm hN pc => zs_102 C hm pc
theorem zsok_103 : zSOK 103 := fun C hm hN pc => zs_103 C hm pc
theorem zsok_104 : zSOK 104 := fun C hm hN pc => zs_104 C hm pc
theorem zsok_105 : zSOK 105 := fun C hm hN pc => zs_105 C hm pc
theorem zsok_106 : zSOK 106 := fun C hm hN pc => zs_106 C hm pc
theorem zsok_107 : zSOK 107 := fun C hm hN pc => zs_107 C hm pc
theorem zsok_108 : zSOK 108 := fun C hm hN pc => zs_108 C hm pc
theorem zsok_109 : zSOK 109 := fun C hm hN pc => zs_109 C hm pc
theorem zsok_110 : zSOK 110 := fun C hm hN pc => zs_110 C hm pc
theorem zsok_111 : zSOK 111 := fun C hm hN pc => zs_111 C hm pc
theorem zsok_112 : zSOK 112 := fun C hm hN pc => zs_112 C hm pc
theorem zsok_113 : zSOK 113 := fun C hm hN pc => zs_113 C hm pc
theorem zsok_114 : zSOK 114 := fun C hm hN pc => zs_114 C hm pc
theorem zsok_115 : zSOK 115 := fun C hm hN pc => zs_115 C hm pc
theorem zsok_116 : zSOK 116 := fun C hm hN pc => zs_116 C hm pc
theorem zsok_117 : zSOK 117 := fun C hm hN pc => zs_117 C hm pc
theorem zsok_118 : zSOK 118 := fun C hm hN pc => zs_118 C hm pc
theorem zsok_119 : zSOK 119 := fun C hm hN pc => zs_119 C hm pc
theorem zsok_120 : zSOK 120 := fun C hm hN pc => zs_120 C hm pc
theorem zsok_121 : zSOK 121 := fun C hm hN pc => zs_121 C hm pc
theorem zsok_122 : zSOK 122 := fun C hm hN pc => zs_122 C hm pc
theorem zsok_123 : zSOK 123 := fun C hm hN pc => zs_123 C hm pc
theorem zsok_124 : zSOK 124 := fun C hm hN pc => zs_124 C hm pc
theorem zsok_125 : zSOK 125 := fun C hm hN pc => zs_125 C hm pc
theorem zsok_126 : zSOK 126 := fun C hm hN pc => zs_126 C hm pc
theorem zsok_127 : zSOK 127 := fun C hm hN pc => zs_127 C hm pc
theorem zsok_128 : zSOK 128 := fun C hm hN pc => zs_128 C hm pc
theorem zsok_129 : zSOK 129 := fun C hm hN pc => zs_129 C hm pc
theorem zsok_130 : zSOK 130 := fun C hm hN pc => zs_130 C hm pc
theorem zsok_131 : zSOK 131 := fun C hm hN pc => zs_131 C hm pc
theorem zsok_132 : zSOK 132 := fun C hm hN pc => zs_132 C hm pc
theorem zsok_133 : zSOK 133 := fun C hm hN pc => zs_133 C hm pc
theorem zsok_134 : zSOK 134 := fun C hm hN pc => zs_134 C hm pc
theorem zsok_135 : zSOK 135 := fun C hm hN pc => zs_135 C hm pc
theorem zsok_136 : zSOK 136 := fun C hm hN pc => zs_136 C hm pc
theorem zsok_137 : zSOK 137 := fun C hm hN pc => zs_137 C hm pc
theorem zsok_138 : zSOK 138 := fun C hm hN pc => zs_138 C hm pc
theorem zsok_139 : zSOK 139 := fun C hm hN pc => zs_139 C hm pc
theorem zsok_140 : zSOK 140 := fun C hm hN pc => zs_140 C hm pc
theorem zsok_141 : zSOK 141 := fun C hm hN pc => zs_141 C hm pc
theorem zsok_142 : zSOK 142 := fun C hm hN pc => zs_142 C hm pc
theorem zsok_143 : zSOK 143 := fun C hm hN pc => zs_143 C hm pc
theorem zsok_144 : zSOK 144 := fun C hm hN pc => zs_144 C hm pc
theorem zsok_145 : zSOK 145 := fun C hm hN pc => zs_145 C hm pc
theorem zsok_146 : zSOK 146 := fun C hm hN pc => zs_146 C hm pc
theorem zsok_147 : zSOK 147 := fun C hm hN pc => zs_147 C hm pc
theorem zsok_148 : zSOK 148 := fun C hm hN pc => zs_148 C hm pc
theorem zsok_149 : zSOK 149 := fun C hm hN pc => zs_149 C hm pc
theorem zsok_150 : zSOK 150 := fun C hm hN pc => zs_150 C hm pc
theorem zsok_151 : zSOK 151 := fun C hm hN pc => zs_151 C hm pc
theorem zsok_152 : zSOK 152 := fun C hm hN pc => zs_152 C hm pc
theorem zsok_153 : zSOK 153 := fun C hm hN pc => zs_153 C hm pc
theorem zsok_154 : zSOK 154 := fun C hm hN pc => zs_154 C hm pc
theorem zsok_155 : zSOK 155 := fun C hm hN pc => zs_155 C hm pc
theorem zsok_156 : zSOK 156 := fun C hm hN pc => zs_156 C hm pc
theorem zsok_157 : zSOK 157 := fun C hm hN pc => zs_157 C hm pc
theorem zsok_158 : zSOK 158 := fun C hm hN pc => zs_158 C hm pc
theorem zsok_159 : zSOK 159 := fun C hm hN pc => zs_159 C hm pc
theorem zsok_160 : zSOK 160 := fun C hm hN pc => zs_160 C hm pc
theorem zsok_161 : zSOK 161 := fun C hm hN pc => zs_161 C hm pc
theorem zsok_162 : zSOK 162 := fun C hm hN pc => zs_162 C hm pc
theorem zsok_163 : zSOK 163 := fun C hm hN pc => zs_163 C hm pc
theorem zsok_164 : zSOK 164 := fun C hm hN pc => zs_164 C hm pc
theorem zsok_165 : zSOK 165 := fun C hm hN pc => zs_165 C hm pc
theorem zsok_166 : zSOK 166 := fun C hm hN pc => zs_166 C hm pc
theorem zsok_167 : zSOK 167 := fun C hm hN pc => zs_167 C hm pc
theorem zsok_168 : zSOK 168 := fun C hm hN pc => zs_168 C hm pc
theorem zsok_169 : zSOK 169 := fun C hm hN pc => zs_169 C hm pc
theorem zsok_170 : zSOK 170 := fun C hm hN pc => zs_170 C hm pc
theorem zsok_171 : zSOK 171 := fun C hm hN pc => zs_171 C hm pc
theorem zsok_172 : zSOK 172 := fun C hm hN pc => zs_172 C hm pc
theorem zsok_173 : zSOK 173 := fun C hm hN pc => zs_173 C hm pc
theorem zsok_174 : zSOK 174 := fun C hm hN pc => zs_174 C hm pc
theorem zsok_175 : zSOK 175 := fun C hm hN pc => zs_175 C hm pc
theorem zsok_176 : zSOK 176 := fun C hm hN pc => zs_176 C hm pc
theorem zsok_177 : zSOK 177 := fun C hm hN pc => zs_177 C hm pc
theorem zsok_178 : zSOK 178 := fun C hm hN pc => zs_178 C hm pc
theorem zsok_179 : zSOK 179 := fun C hm hN pc => zs_179 C hm pc
theorem zsok_180 : zSOK 180 := fun C hm hN pc => zs_180 C hm pc
theorem zsok_181 : zSOK 181 := fun C hm hN pc => zs_181 C hm pc
theorem zsok_182 : zSOK 182 := fun C hm hN pc => zs_182 C hm pc
theorem zsok_183 : zSOK 183 := fun C hm hN pc => zs_183 C hm pc
theorem zsok_184 : zSOK 184 := fun C hm hN pc => zs_184 C hm pc
theorem zsok_185 : zSOK 185 := fun C hm hN pc => zs_185 C hm pc
theorem zsok_186 : zSOK 186 := fun C hm hN pc => zs_186 C hm pc
theorem zsok_187 : zSOK 187 := fun C hm hN pc => zs_187 C hm pc
theorem zsok_188 : zSOK 188 := fun C hm hN pc => zs_188 C hm pc
theorem zsok_189 : zSOK 189 := fun C hm hN pc => zs_189 C hm pc
theorem zsok_190 : zSOK 190 := fun C hm hN pc => zs_190 C hm pc
theorem zsok_191 : zSOK 191 := fun C hm hN pc => zs_191 C hm pc
theorem zsok_192 : zSOK 192 := fun C hm hN pc => zs_192 C hm pc
theorem zsok_193 : zSOK 193 := fun C hm hN pc => zs_193 C hm pc
theorem zsok_194 : zSOK 194 := fun C hm hN pc => zs_194 C hm pc
theorem zsok_195 : zSOK 195 := fun C hm hN pc => zs_195 C hm pc
theorem zsok_196 : zSOK 196 := fun C hm hN pc => zs_196 C hm pc
theorem zsok_197 : zSOK 197 := fun C hm hN pc => zs_197 C hm pc
theorem zsok_198 : zSOK 198 := fun C hm hN pc => zs_198 C hm pc
theorem zsok_199 : zSOK 199 := fun C hm hN pc => zs_199 C hm pc
theorem zsok_200 : zSOK 200 := fun C hm hN pc => zs_200 C hm pc
theorem zsok_201 : zSOK 201 := fun C hm hN pc => zs_201 C hm pc
theorem zsok_202 : zSOK 202 := fun C hm hN pc => zs_202 C hm pc
theorem zsok_203 : zSOK 203 := fun C hm hN pc => zs_203 C hm pc
theorem zsok_204 : zSOK 204 := fun C hm hN pc => zs_204 C hm pc
theorem zsok_205 : zSOK 205 := fun C hm hN pc => zs_205 C hm pc
theorem zsok_206 : zSOK 206 := fun C hm hN pc => zs_206 C hm pc
theorem zsok_207 : zSOK 207 := fun C hm hN pc => zs_207 C hm pc
theorem zsok_208 : zSOK 208 := fun C hm hN pc => zs_208 C hm pc
theorem zsok_209 : zSOK 209 := fun C hm hN pc => zs_209 C hm pc
theorem zsok_210 : zSOK 210 := fun C hm hN pc => zs_210 C hm pc
theorem zsok_211 : zSOK 211 := fun C hm hN pc => zs_211 C hm pc
theorem zsok_212 : zSOK 212 := fun C hm hN pc => zs_212 C hm pc
theorem zsok_213 : zSOK 213 := fun C hm hN pc => zs_213 C hm pc
theorem zsAll : ∀ y, 0 ≤ y → y < 214 → zSOK y := (zbl (zbl (zbl (zbl (zbl (zbl (zbl (zbe rfl zsok_0) (zbl (zbe rfl zsok_1) (zbe rfl zsok_2))) (zbl (zbe rfl zsok_3) (zbl (zbe rfl zsok_4) (zbe rfl zsok_5)))) (zbl (zbl (zbe rfl zsok_6) (zbl (zbe rfl zsok_7) (zbe rfl zsok_8))) (zbl (zbl (zbe rfl zsok_9) (zbe rfl zsok_10)) (zbl (zbe rfl zsok_11) (zbe rfl zsok_12))))) (zbl (zbl (zbl (zbe rfl zsok_13) (zbl (zbe rfl zsok_14) (zbe rfl zsok_15))) (zbl (zbe rfl zsok_16) (zbl (zbe rfl zsok_17) (zbe rfl zsok_18)))) (zbl (zbl (zbe rfl zsok_19) (zbl (zbe rfl zsok_20) (zbe rfl zsok_21))) (zbl (zbl (zbe rfl zsok_22) (zbe rfl zsok_23)) (zbl (zbe rfl zsok_24) (zbe rfl zsok_25)))))) (zbl (zbl (zbl (zbl (zbe rfl zsok_26) (zbl (zbe rfl zsok_27) (zbe rfl zsok_28))) (zbl (zbe rfl zsok_29) (zbl (zbe rfl zsok_30) (zbe rfl zsok_31)))) (zbl (zbl (zbe rfl zsok_32) (zbl (zbe rfl zsok_33) (zbe rfl zsok_34))) (zbl (zbl (zbe rfl zsok_35) (zbe rfl zsok_36)) (zbl (zbe rfl zsok_37) (zbe rfl zsok_38))))) (zbl (zbl (zbl (zbe rfl zsok_39) (zbl (zbe rfl zsok_40) (zbe rfl zsok_41))) (zbl (zbl (zbe rfl zsok_42) (zbe rfl zsok_43)) (zbl (zbe rfl zsok_44) (zbe rfl zsok_45)))) (zbl (zbl (zbe rfl zsok_46) (zbl (zbe rfl zsok_47) (zbe rfl zsok_48))) (zbl (zbl (zbe rfl zsok_49) (zbe rfl zsok_50)) (zbl (zbe rfl zsok_51) (zbe rfl zsok_52))))))) (zbl (zbl (zbl (zbl (zbl (zbe rfl zsok_53) (zbl (zbe rfl zsok_54) (zbe rfl zsok_55))) (zbl (zbe rfl zsok_56) (zbl (zbe rfl zsok_57) (zbe rfl zsok_58)))) (zbl (zbl (zbe rfl zsok_59) (zbl (zbe rfl zsok_60) (zbe rfl zsok_61))) (zbl (zbl (zbe rfl zsok_62) (zbe rfl zsok_63)) (zbl (zbe rfl zsok_64) (zbe rfl zsok_65))))) (zbl (zbl (zbl (zbe rfl zsok_66) (zbl (zbe rfl zsok_67) (zbe rfl zsok_68))) (zbl (zbl (zbe rfl zsok_69) (zbe rfl zsok_70)) (zbl (zbe rfl zsok_71) (zbe rfl zsok_72)))) (zbl (zbl (zbe rfl zsok_73) (zbl (zbe rfl zsok_74) (zbe rfl zsok_75))) (zbl (zbl (zbe rfl zsok_76) (zbe rfl zsok_77)) (zbl (zbe rfl zsok_78) (zbe rfl zsok_79)))))) (zbl (zbl (zbl (zbl (zbe rfl zsok_80) (zbl (zbe rfl zsok_81) (zbe rfl zsok_82))) (zbl (zbe rfl zsok_83) (zbl (zbe rfl zsok_84) (zbe rfl zsok_85)))) (zbl (zbl (zbe rfl zsok_86) (zbl (zbe rfl zsok_87) (zbe rfl zsok_88))) (zbl (zbl (zbe rfl zsok_89) (zbe rfl zsok_90)) (zbl (zbe rfl zsok_91) (zbe rfl zsok_92))))) (zbl (zbl (zbl (zbe rfl zsok_93) (zbl (zbe rfl zsok_94) (zbe rfl zsok_95))) (zbl (zbl (zbe rfl zsok_96) (zbe rfl zsok_97)) (zbl (zbe rfl zsok_98) (zbe rfl zsok_99)))) (zbl (zbl (zbe rfl zsok_100) (zbl (zbe rfl zsok_101) (zbe rfl zsok_102))) (zbl (zbl (zbe rfl zsok_103) (zbe rfl zsok_104)) (zbl (zbe rfl zsok_105) (zbe rfl zsok_106)))))))) (zbl (zbl (zbl (zbl (zbl (zbl (zbe rfl zsok_107) (zbl (zbe rfl zsok_108) (zbe rfl zsok_109))) (zbl (zbe rfl zsok_110) (zbl (zbe rfl zsok_111) (zbe rfl zsok_112)))) (zbl (zbl (zbe rfl zsok_113) (zbl (zbe rfl zsok_114) (zbe rfl zsok_115))) (zbl (zbl (zbe rfl zsok_116) (zbe rfl zsok_117)) (zbl (zbe rfl zsok_118) (zbe rfl zsok_119))))) (zbl (zbl (zbl (zbe rfl zsok_120) (zbl (zbe rfl zsok_121) (zbe rfl zsok_122))) (zbl (zbe rfl zsok_123) (zbl (zbe rfl zsok_124) (zbe rfl zsok_125)))) (zbl (zbl (zbe rfl zsok_126) (zbl (zbe rfl zsok_127) (zbe rfl zsok_128))) (zbl (zbl (zbe rfl zsok_129) (zbe rfl zsok_130)) (zbl (zbe rfl zsok_131) (zbe rfl zsok_132)))))) (zbl (zbl (zbl (zbl (zbe rfl zsok_133) (zbl (zbe rfl zsok_134) (zbe rfl zsok_135))) (zbl (zbe rfl zsok_136) (zbl (zbe rfl zsok_137) (zbe rfl zsok_138)))) (zbl (zbl (zbe rfl zsok_139) (zbl (zbe rfl zsok_140) (zbe rfl zsok_141))) (zbl (zbl (zbe rfl zsok_142) (zbe rfl zsok_143)) (zbl (zbe rfl zsok_144) (zbe rfl zsok_145))))) (zbl (zbl (zbl (zbe rfl zsok_146) (zbl (zbe rfl zsok_147) (zbe rfl zsok_148))) (zbl (zbl (zbe rfl zsok_149) (zbe rfl zsok_150)) (zbl (zbe rfl zsok_151) (zbe rfl zsok_152)))) (zbl (zbl (zbe rfl zsok_153) (zbl (zbe rfl zsok_154) (zbe rfl zsok_155))) (zbl (zbl (zbe rfl zsok_156) (zbe rfl zsok_157)) (zbl (zbe rfl zsok_158) (zbe rfl zsok_159))))))) (zbl (zbl (zbl (zbl (zbl (zbe rfl zsok_160) (zbl (zbe rfl zsok_161) (zbe rfl zsok_162))) (zbl (zbe rfl zsok_163) (zbl (zbe rfl zsok_164) (zbe rfl zsok_165)))) (zbl (zbl (zbe rfl zsok_166) (zbl (zbe rfl zsok_167) (zbe rfl zsok_168))) (zbl (zbl (zbe rfl zsok_169) (zbe rfl zsok_170)) (zbl (zbe rfl zsok_171) (zbe rfl zsok_172))))) (zbl (zbl (zbl (zbe rfl zsok_173) (zbl (zbe rfl zsok_174) (zbe rfl zsok_175))) (zbl (zbl (zbe rfl zsok_176) (zbe rfl zsok_177)) (zbl (zbe rfl zsok_178) (zbe rfl zsok_179)))) (zbl (zbl (zbe rfl zsok_180) (zbl (zbe rfl zsok_181) (zbe rfl zsok_182))) (zbl (zbl (zbe rfl zsok_183) (zbe rfl zsok_184)) (zbl (zbe rfl zsok_185) (zbe rfl zsok_186)))))) (zbl (zbl (zbl (zbl (zbe rfl zsok_187) (zbl (zbe rfl zsok_188) (zbe rfl zsok_189))) (zbl (zbe rfl zsok_190) (zbl (zbe rfl zsok_191) (zbe rfl zsok_192)))) (zbl (zbl (zbe rfl zsok_193) (zbl (zbe rfl zsok_194) (zbe rfl zsok_195))) (zbl (zbl (zbe rfl zsok_196) (zbe rfl zsok_197)) (zbl (zbe rfl zsok_198) (zbe rfl zsok_199))))) (zbl (zbl (zbl (zbe rfl zsok_200) (zbl (zbe rfl zsok_201) (zbe rfl zsok_202))) (zbl (zbl (zbe rfl zsok_203) (zbe rfl zsok_204)) (zbl (zbe rfl zsok_205) (zbe rfl zsok_206)))) (zbl (zbl (zbe rfl zsok_207) (zbl (zbe rfl zsok_208) (zbe rfl zsok_209))) (zbl (zbl (zbe rfl zsok_210) (zbe rfl zsok_211)) (zbl (zbe rfl zsok_212) (zbe rfl zsok_213)))))))))
theorem zplain : ∀ y, y < 214 → plainName (znm y).cls = true := by decide +kernel
theorem zpr_big {y : Nat} (h : ¬ y < 214) : zpr y = fun _ => o_bad := by
  unfold zpr
  repeat rw [if_neg (by omega)]
