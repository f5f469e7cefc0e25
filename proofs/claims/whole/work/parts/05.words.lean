def tl_0_240 : List Cond := []
def tl_0_239 : List Cond := (Cond.methodLink RJ0 498 yJ2_charAt_3b067) :: tl_0_240
def tl_0_238 : List Cond := (Cond.code yJ3_checkIndex_8e157 cJ3_checkIndex_8e157 3 (some (.int))) :: tl_0_239
def tl_0_237 : List Cond := (Cond.static yJ3_checkIndex_8e157) :: tl_0_238
def tl_0_236 : List Cond := (Cond.methodLink RJ0 1059 yJ3_checkIndex_8e157) :: tl_0_237
def tl_0_235 : List Cond := ((Jvm.Cond.laysStatic "jdk/internal/util/Preconditions" "SIOOBE_FORMATTER" "Ljava/util/function/BiFunction;")) :: tl_0_236
def tl_0_234 : List Cond := (Cond.fieldLink "java/lang/String" 1053 "jdk/internal/util/Preconditions" "SIOOBE_FORMATTER" "Ljava/util/function/BiFunction;") :: tl_0_235
def tl_0_233 : List Cond := (Cond.code yJ0_checkIndex_df160 cJ0_checkIndex_df160 2 (none)) :: tl_0_234
def tl_0_232 : List Cond := (Cond.static yJ0_checkIndex_df160) :: tl_0_233
def tl_0_231 : List Cond := (Cond.methodLink RJ1 9 yJ0_checkIndex_df160) :: tl_0_232
def tl_0_230 : List Cond := (Cond.code yJ1_charAt_3b067 cJ1_charAt_3b067 2 (some (.char))) :: tl_0_231
def tl_0_229 : List Cond := (Cond.static yJ1_charAt_3b067) :: tl_0_230
def tl_0_228 : List Cond := (Cond.methodLink RJ0 495 yJ1_charAt_3b067) :: tl_0_229
def tl_0_227 : List Cond := (Cond.code yJ0_isLatin1_aae02 cJ0_isLatin1_aae02 1 (some (.boolean))) :: tl_0_228
def tl_0_226 : List Cond := (Cond.selects RJ0 yJ0_isLatin1_aae02 yJ0_isLatin1_aae02) :: tl_0_227
def tl_0_225 : List Cond := (Cond.instanceMethod yJ0_isLatin1_aae02) :: tl_0_226
def tl_0_224 : List Cond := (Cond.methodLink RJ0 492 yJ0_isLatin1_aae02) :: tl_0_225
def tl_0_223 : List Cond := (Cond.code yJ0_charAt_5068e cJ0_charAt_5068e 2 (some (.char))) :: tl_0_224
def tl_0_222 : List Cond := (Cond.selects RJ0 yJ0_charAt_5068e yJ0_charAt_5068e) :: tl_0_223
def tl_0_221 : List Cond := (Cond.instanceMethod yJ0_charAt_5068e) :: tl_0_222
def tl_0_220 : List Cond := (Cond.methodLink RX10 75 yJ0_charAt_5068e) :: tl_0_221
def tl_0_219 : List Cond := ((Jvm.Cond.laysStatic "java/lang/String" "COMPACT_STRINGS" "Z")) :: tl_0_220
def tl_0_218 : List Cond := (Cond.fieldLink "java/lang/String" 38 "java/lang/String" "COMPACT_STRINGS" "Z") :: tl_0_219
def tl_0_217 : List Cond := (Cond.code yJ0_coder_7d493 cJ0_coder_7d493 1 (some (.byte))) :: tl_0_218
def tl_0_216 : List Cond := (Cond.selects RJ0 yJ0_coder_7d493 yJ0_coder_7d493) :: tl_0_217
def tl_0_215 : List Cond := (Cond.instanceMethod yJ0_coder_7d493) :: tl_0_216
def tl_0_214 : List Cond := (Cond.methodLink RJ0 335 yJ0_coder_7d493) :: tl_0_215
def tl_0_213 : List Cond := (Cond.code yJ0_length_8abf5 cJ0_length_8abf5 1 (some (.int))) :: tl_0_214
def tl_0_212 : List Cond := (Cond.selects RJ0 yJ0_length_8abf5 yJ0_length_8abf5) :: tl_0_213
def tl_0_211 : List Cond := (Cond.instanceMethod yJ0_length_8abf5) :: tl_0_212
def tl_0_210 : List Cond := (Cond.methodLink RX10 69 yJ0_length_8abf5) :: tl_0_211
def tl_0_209 : List Cond := ((Jvm.Cond.stringRef "CrierOfBorough" (67 : Nat) "curious 50 ; dreads bad ; goes 0 ;")) :: tl_0_210
def tl_0_208 : List Cond := (Cond.superclass RX9 "java/lang/Object") :: tl_0_209
def tl_0_207 : List Cond := ((Jvm.Cond.soleField "CrierOfBorough$World" "names")) :: tl_0_208
def tl_0_206 : List Cond := (Cond.laysFinal "CrierOfBorough$World" "CrierOfBorough$World" "names" "[I") :: tl_0_207
def tl_0_205 : List Cond := ((Jvm.Cond.soleField "CrierOfBorough$World" "more")) :: tl_0_206
def tl_0_204 : List Cond := (Cond.laysFinal "CrierOfBorough$World" "CrierOfBorough$World" "more" "[I") :: tl_0_205
def tl_0_203 : List Cond := ((Jvm.Cond.soleField "CrierOfBorough$World" "kind")) :: tl_0_204
def tl_0_202 : List Cond := (Cond.laysFinal "CrierOfBorough$World" "CrierOfBorough$World" "kind" "[I") :: tl_0_203
def tl_0_201 : List Cond := ((Jvm.Cond.soleField "CrierOfBorough$World" "window")) :: tl_0_202
def tl_0_200 : List Cond := (Cond.laysFinal "CrierOfBorough$World" "CrierOfBorough$World" "window" "[I") :: tl_0_201
def tl_0_199 : List Cond := ((Jvm.Cond.soleField "CrierOfBorough$World" "known")) :: tl_0_200
def tl_0_198 : List Cond := (Cond.laysFinal "CrierOfBorough$World" "CrierOfBorough$World" "known" "[I") :: tl_0_199
def tl_0_197 : List Cond := ((Jvm.Cond.soleField "CrierOfBorough$World" "wanted")) :: tl_0_198
def tl_0_196 : List Cond := (Cond.laysFinal "CrierOfBorough$World" "CrierOfBorough$World" "wanted" "[I") :: tl_0_197
def tl_0_195 : List Cond := ((Jvm.Cond.soleField "CrierOfBorough$World" "at")) :: tl_0_196
def tl_0_194 : List Cond := (Cond.laysFinal "CrierOfBorough$World" "CrierOfBorough$World" "at" "[I") :: tl_0_195
def tl_0_193 : List Cond := ((Jvm.Cond.soleField "CrierOfBorough$World" "evil")) :: tl_0_194
def tl_0_192 : List Cond := (Cond.laysFinal "CrierOfBorough$World" "CrierOfBorough$World" "evil" "[I") :: tl_0_193
def tl_0_191 : List Cond := ((Jvm.Cond.soleField "CrierOfBorough$World" "people")) :: tl_0_192
def tl_0_190 : List Cond := (Cond.lays "CrierOfBorough$World" "CrierOfBorough$World" "people" "I") :: tl_0_191
def tl_0_189 : List Cond := ((Jvm.Cond.soleField "CrierOfBorough$World" "law")) :: tl_0_190
def tl_0_188 : List Cond := (Cond.lays "CrierOfBorough$World" "CrierOfBorough$World" "law" "I") :: tl_0_189
def tl_0_187 : List Cond := ((Jvm.Cond.soleField "CrierOfBorough$World" "news")) :: tl_0_188
def tl_0_186 : List Cond := (Cond.lays "CrierOfBorough$World" "CrierOfBorough$World" "news" "I") :: tl_0_187
def tl_0_185 : List Cond := ((Jvm.Cond.soleField "CrierOfBorough$World" "corner")) :: tl_0_186
def tl_0_184 : List Cond := (Cond.lays "CrierOfBorough$World" "CrierOfBorough$World" "corner" "I") :: tl_0_185
def tl_0_183 : List Cond := ((Jvm.Cond.soleField "CrierOfBorough$World" "hour")) :: tl_0_184
def tl_0_182 : List Cond := (Cond.lays "CrierOfBorough$World" "CrierOfBorough$World" "hour" "I") :: tl_0_183
def tl_0_181 : List Cond := ((Jvm.Cond.soleField "CrierOfBorough$World" "natures")) :: tl_0_182
def tl_0_180 : List Cond := (Cond.laysFinal "CrierOfBorough$World" "CrierOfBorough$World" "natures" "[LCrierOfBorough$Citizen;") :: tl_0_181
def tl_0_179 : List Cond := ((Jvm.Cond.soleField "CrierOfBorough$World" "texts")) :: tl_0_180
def tl_0_178 : List Cond := (Cond.laysFinal "CrierOfBorough$World" "CrierOfBorough$World" "texts" "[LCrierOfBorough$Text;") :: tl_0_179
def tl_0_177 : List Cond := (Cond.fieldLink "CrierOfBorough$World" 37 "CrierOfBorough$World" "names" "[I") :: tl_0_178
def tl_0_176 : List Cond := ((Jvm.Cond.fieldLinkNest "CrierOfBorough" (222 : Nat) "CrierOfBorough$World" "more" "[I" "CrierOfBorough")) :: tl_0_177
def tl_0_175 : List Cond := (Cond.fieldLink "CrierOfBorough$World" 34 "CrierOfBorough$World" "more" "[I") :: tl_0_176
def tl_0_174 : List Cond := ((Jvm.Cond.fieldLinkNest "CrierOfBorough" (219 : Nat) "CrierOfBorough$World" "kind" "[I" "CrierOfBorough")) :: tl_0_175
def tl_0_173 : List Cond := (Cond.fieldLink "CrierOfBorough$World" 31 "CrierOfBorough$World" "kind" "[I") :: tl_0_174
def tl_0_172 : List Cond := ((Jvm.Cond.fieldLinkNest "CrierOfBorough" (193 : Nat) "CrierOfBorough$World" "window" "[I" "CrierOfBorough")) :: tl_0_173
def tl_0_171 : List Cond := (Cond.fieldLink "CrierOfBorough$World" 28 "CrierOfBorough$World" "window" "[I") :: tl_0_172
def tl_0_170 : List Cond := ((Jvm.Cond.fieldLinkNest "CrierOfBorough" (187 : Nat) "CrierOfBorough$World" "known" "[I" "CrierOfBorough")) :: tl_0_171
def tl_0_169 : List Cond := (Cond.fieldLink "CrierOfBorough$World" 25 "CrierOfBorough$World" "known" "[I") :: tl_0_170
def tl_0_168 : List Cond := ((Jvm.Cond.fieldLinkNest "CrierOfBorough" (273 : Nat) "CrierOfBorough$World" "wanted" "[I" "CrierOfBorough")) :: tl_0_169
def tl_0_167 : List Cond := (Cond.fieldLink "CrierOfBorough$World" 22 "CrierOfBorough$World" "wanted" "[I") :: tl_0_168
def tl_0_166 : List Cond := ((Jvm.Cond.fieldLinkNest "CrierOfBorough" (184 : Nat) "CrierOfBorough$World" "at" "[I" "CrierOfBorough")) :: tl_0_167
def tl_0_165 : List Cond := (Cond.fieldLink "CrierOfBorough$World" 19 "CrierOfBorough$World" "at" "[I") :: tl_0_166
def tl_0_164 : List Cond := ((Jvm.Cond.fieldLinkNest "CrierOfBorough" (125 : Nat) "CrierOfBorough$World" "evil" "[I" "CrierOfBorough")) :: tl_0_165
def tl_0_163 : List Cond := (Cond.fieldLink "CrierOfBorough$World" 15 "CrierOfBorough$World" "evil" "[I") :: tl_0_164
def tl_0_162 : List Cond := ((Jvm.Cond.fieldLinkNest "CrierOfBorough" (94 : Nat) "CrierOfBorough$World" "people" "I" "CrierOfBorough")) :: tl_0_163
def tl_0_161 : List Cond := (Cond.fieldLink "CrierOfBorough$World" 57 "CrierOfBorough$World" "people" "I") :: tl_0_162
def tl_0_160 : List Cond := ((Jvm.Cond.fieldLinkNest "CrierOfBorough" (109 : Nat) "CrierOfBorough$World" "law" "I" "CrierOfBorough")) :: tl_0_161
def tl_0_159 : List Cond := (Cond.fieldLink "CrierOfBorough$World" 54 "CrierOfBorough$World" "law" "I") :: tl_0_160
def tl_0_158 : List Cond := ((Jvm.Cond.fieldLinkNest "CrierOfBorough" (100 : Nat) "CrierOfBorough$World" "news" "I" "CrierOfBorough")) :: tl_0_159
def tl_0_157 : List Cond := (Cond.fieldLink "CrierOfBorough$World" 9 "CrierOfBorough$World" "news" "I") :: tl_0_158
def tl_0_156 : List Cond := ((Jvm.Cond.fieldLinkNest "CrierOfBorough" (122 : Nat) "CrierOfBorough$World" "corner" "I" "CrierOfBorough")) :: tl_0_157
def tl_0_155 : List Cond := (Cond.fieldLink "CrierOfBorough$World" 51 "CrierOfBorough$World" "corner" "I") :: tl_0_156
def tl_0_154 : List Cond := ((Jvm.Cond.fieldLinkNest "CrierOfBorough" (97 : Nat) "CrierOfBorough$World" "hour" "I" "CrierOfBorough")) :: tl_0_155
def tl_0_153 : List Cond := (Cond.fieldLink "CrierOfBorough$World" 48 "CrierOfBorough$World" "hour" "I") :: tl_0_154
def tl_0_152 : List Cond := (Cond.fieldLink "CrierOfBorough$World" 44 "CrierOfBorough$World" "natures" "[LCrierOfBorough$Citizen;") :: tl_0_153
def tl_0_151 : List Cond := (Cond.fieldLink "CrierOfBorough$World" 40 "CrierOfBorough$World" "texts" "[LCrierOfBorough$Text;") :: tl_0_152
def tl_0_150 : List Cond := (Cond.methodLink RX9 3 ⟨"java/lang/Object", "<init>", "()V"⟩) :: tl_0_151
def tl_0_149 : List Cond := (Cond.code yX9_init cX9_init 3 (none)) :: tl_0_150
def tl_0_148 : List Cond := (Cond.instanceMethod yX9_init) :: tl_0_149
def tl_0_147 : List Cond := ((Jvm.Cond.methodLinkNest "CrierOfBorough" (54 : Nat) ({ cls := "CrierOfBorough$World", name := "<init>", desc := "([LCrierOfBorough$Text;[LCrierOfBorough$Citizen;)V" } : Jvm.MethodName) "CrierOfBorough")) :: tl_0_148
def tl_0_146 : List Cond := (Cond.instantiable RX9 15) :: tl_0_147
def tl_0_145 : List Cond := (Cond.classLink RX10 52 "CrierOfBorough$World") :: tl_0_146
def tl_0_144 : List Cond := (Cond.superclass RX5 RX0) :: tl_0_145
def tl_0_143 : List Cond := ((Jvm.Cond.methodLinkNest "CrierOfBorough$Stranger" (1 : Nat) ({ cls := "CrierOfBorough$Citizen", name := "<init>", desc := "()V" } : Jvm.MethodName) "CrierOfBorough")) :: tl_0_144
def tl_0_142 : List Cond := (Cond.code yX5_init cX5_init 1 (none)) :: tl_0_143
def tl_0_141 : List Cond := (Cond.instanceMethod yX5_init) :: tl_0_142
def tl_0_140 : List Cond := ((Jvm.Cond.methodLinkNest "CrierOfBorough" (51 : Nat) ({ cls := "CrierOfBorough$Stranger", name := "<init>", desc := "()V" } : Jvm.MethodName) "CrierOfBorough")) :: tl_0_141
def tl_0_139 : List Cond := (Cond.instantiable RX5 0) :: tl_0_140
def tl_0_138 : List Cond := (Cond.classLink RX10 49 "CrierOfBorough$Stranger") :: tl_0_139
def tl_0_137 : List Cond := (Cond.superclass RX2 RX1) :: tl_0_138
def tl_0_136 : List Cond := ((Jvm.Cond.methodLinkNest "CrierOfBorough$Hummer" (1 : Nat) ({ cls := "CrierOfBorough$Deaf", name := "<init>", desc := "()V" } : Jvm.MethodName) "CrierOfBorough")) :: tl_0_137
def tl_0_135 : List Cond := (Cond.code yX2_init cX2_init 1 (none)) :: tl_0_136
def tl_0_134 : List Cond := (Cond.instanceMethod yX2_init) :: tl_0_135
def tl_0_133 : List Cond := ((Jvm.Cond.methodLinkNest "CrierOfBorough" (48 : Nat) ({ cls := "CrierOfBorough$Hummer", name := "<init>", desc := "()V" } : Jvm.MethodName) "CrierOfBorough")) :: tl_0_134
def tl_0_132 : List Cond := (Cond.instantiable RX2 0) :: tl_0_133
def tl_0_131 : List Cond := (Cond.classLink RX10 46 "CrierOfBorough$Hummer") :: tl_0_132
def tl_0_130 : List Cond := (Cond.superclass RX8 RX3) :: tl_0_131
def tl_0_129 : List Cond := ((Jvm.Cond.methodLinkNest "CrierOfBorough$Wife" (1 : Nat) ({ cls := "CrierOfBorough$Mother", name := "<init>", desc := "()V" } : Jvm.MethodName) "CrierOfBorough")) :: tl_0_130
def tl_0_128 : List Cond := (Cond.code yX8_init cX8_init 1 (none)) :: tl_0_129
def tl_0_127 : List Cond := (Cond.instanceMethod yX8_init) :: tl_0_128
def tl_0_126 : List Cond := ((Jvm.Cond.methodLinkNest "CrierOfBorough" (45 : Nat) ({ cls := "CrierOfBorough$Wife", name := "<init>", desc := "()V" } : Jvm.MethodName) "CrierOfBorough")) :: tl_0_127
def tl_0_125 : List Cond := (Cond.instantiable RX8 0) :: tl_0_126
def tl_0_124 : List Cond := (Cond.classLink RX10 43 "CrierOfBorough$Wife") :: tl_0_125
def tl_0_123 : List Cond := (Cond.superclass RX1 RX0) :: tl_0_124
def tl_0_122 : List Cond := ((Jvm.Cond.methodLinkNest "CrierOfBorough$Deaf" (1 : Nat) ({ cls := "CrierOfBorough$Citizen", name := "<init>", desc := "()V" } : Jvm.MethodName) "CrierOfBorough")) :: tl_0_123
def tl_0_121 : List Cond := (Cond.code yX1_init cX1_init 1 (none)) :: tl_0_122
def tl_0_120 : List Cond := (Cond.instanceMethod yX1_init) :: tl_0_121
def tl_0_119 : List Cond := ((Jvm.Cond.methodLinkNest "CrierOfBorough" (42 : Nat) ({ cls := "CrierOfBorough$Deaf", name := "<init>", desc := "()V" } : Jvm.MethodName) "CrierOfBorough")) :: tl_0_120
def tl_0_118 : List Cond := (Cond.instantiable RX1 0) :: tl_0_119
def tl_0_117 : List Cond := (Cond.classLink RX10 40 "CrierOfBorough$Deaf") :: tl_0_118
def tl_0_116 : List Cond := (Cond.superclass RX3 RX0) :: tl_0_117
def tl_0_115 : List Cond := ((Jvm.Cond.methodLinkNest "CrierOfBorough$Mother" (1 : Nat) ({ cls := "CrierOfBorough$Citizen", name := "<init>", desc := "()V" } : Jvm.MethodName) "CrierOfBorough")) :: tl_0_116
def tl_0_114 : List Cond := (Cond.code yX3_init cX3_init 1 (none)) :: tl_0_115
def tl_0_113 : List Cond := (Cond.instanceMethod yX3_init) :: tl_0_114
def tl_0_112 : List Cond := ((Jvm.Cond.methodLinkNest "CrierOfBorough" (39 : Nat) ({ cls := "CrierOfBorough$Mother", name := "<init>", desc := "()V" } : Jvm.MethodName) "CrierOfBorough")) :: tl_0_113
def tl_0_111 : List Cond := (Cond.instantiable RX3 0) :: tl_0_112
def tl_0_110 : List Cond := (Cond.classLink RX10 37 "CrierOfBorough$Mother") :: tl_0_111
def tl_0_109 : List Cond := (Cond.superclass RX0 "java/lang/Object") :: tl_0_110
def tl_0_108 : List Cond := (Cond.methodLink RX0 1 ⟨"java/lang/Object", "<init>", "()V"⟩) :: tl_0_109
def tl_0_107 : List Cond := (Cond.code yX0_init cX0_init 1 (none)) :: tl_0_108
def tl_0_106 : List Cond := (Cond.instanceMethod yX0_init) :: tl_0_107
def tl_0_105 : List Cond := ((Jvm.Cond.methodLinkNest "CrierOfBorough" (36 : Nat) ({ cls := "CrierOfBorough$Citizen", name := "<init>", desc := "()V" } : Jvm.MethodName) "CrierOfBorough")) :: tl_0_106
def tl_0_104 : List Cond := (Cond.instantiable RX0 0) :: tl_0_105
def tl_0_103 : List Cond := ((Jvm.Cond.arrayOver (Jvm.ClassFile.FieldType.object "CrierOfBorough$Citizen"))) :: tl_0_104
def tl_0_102 : List Cond := (Cond.classLink RX10 34 "CrierOfBorough$Citizen") :: tl_0_103
def tl_0_101 : List Cond := (Cond.superclass RX4 "java/lang/Object") :: tl_0_102
def tl_0_100 : List Cond := ((Jvm.Cond.soleField "CrierOfBorough$Sheet" "size")) :: tl_0_101
def tl_0_99 : List Cond := (Cond.lays "CrierOfBorough$Sheet" "CrierOfBorough$Sheet" "size" "I") :: tl_0_100
def tl_0_98 : List Cond := ((Jvm.Cond.soleField "CrierOfBorough$Sheet" "sort")) :: tl_0_99
def tl_0_97 : List Cond := (Cond.lays "CrierOfBorough$Sheet" "CrierOfBorough$Sheet" "sort" "I") :: tl_0_98
def tl_0_96 : List Cond := ((Jvm.Cond.soleField "CrierOfBorough$Sheet" "numbers")) :: tl_0_97
def tl_0_95 : List Cond := (Cond.laysFinal "CrierOfBorough$Sheet" "CrierOfBorough$Sheet" "numbers" "[I") :: tl_0_96
def tl_0_94 : List Cond := ((Jvm.Cond.fieldLinkNest "CrierOfBorough" (242 : Nat) "CrierOfBorough$Sheet" "size" "I" "CrierOfBorough")) :: tl_0_95
def tl_0_93 : List Cond := (Cond.fieldLink "CrierOfBorough$Sheet" 19 "CrierOfBorough$Sheet" "size" "I") :: tl_0_94
def tl_0_92 : List Cond := ((Jvm.Cond.fieldLinkNest "CrierOfBorough" (239 : Nat) "CrierOfBorough$Sheet" "sort" "I" "CrierOfBorough")) :: tl_0_93
def tl_0_91 : List Cond := (Cond.fieldLink "CrierOfBorough$Sheet" 15 "CrierOfBorough$Sheet" "sort" "I") :: tl_0_92
def tl_0_90 : List Cond := ((Jvm.Cond.fieldLinkNest "CrierOfBorough" (246 : Nat) "CrierOfBorough$Sheet" "numbers" "[I" "CrierOfBorough")) :: tl_0_91
def tl_0_89 : List Cond := (Cond.fieldLink "CrierOfBorough$Sheet" 9 "CrierOfBorough$Sheet" "numbers" "[I") :: tl_0_90
def tl_0_88 : List Cond := (Cond.methodLink RX4 3 ⟨"java/lang/Object", "<init>", "()V"⟩) :: tl_0_89
def tl_0_87 : List Cond := (Cond.code yX4_init cX4_init 1 (none)) :: tl_0_88
def tl_0_86 : List Cond := (Cond.instanceMethod yX4_init) :: tl_0_87
def tl_0_85 : List Cond := ((Jvm.Cond.methodLinkNest "CrierOfBorough" (33 : Nat) ({ cls := "CrierOfBorough$Sheet", name := "<init>", desc := "()V" } : Jvm.MethodName) "CrierOfBorough")) :: tl_0_86
def tl_0_84 : List Cond := (Cond.instantiable RX4 3) :: tl_0_85
def tl_0_83 : List Cond := (Cond.superclass RX7 "java/lang/Object") :: tl_0_84
def tl_0_82 : List Cond := ((Jvm.Cond.soleField "CrierOfBorough$Text" "size")) :: tl_0_83
def tl_0_81 : List Cond := (Cond.lays "CrierOfBorough$Text" "CrierOfBorough$Text" "size" "I") :: tl_0_82
def tl_0_80 : List Cond := ((Jvm.Cond.soleField "CrierOfBorough$Text" "values")) :: tl_0_81
def tl_0_79 : List Cond := (Cond.laysFinal "CrierOfBorough$Text" "CrierOfBorough$Text" "values" "[I") :: tl_0_80
def tl_0_78 : List Cond := ((Jvm.Cond.soleField "CrierOfBorough$Text" "ends")) :: tl_0_79
def tl_0_77 : List Cond := (Cond.laysFinal "CrierOfBorough$Text" "CrierOfBorough$Text" "ends" "[I") :: tl_0_78
def tl_0_76 : List Cond := ((Jvm.Cond.soleField "CrierOfBorough$Text" "steps")) :: tl_0_77
def tl_0_75 : List Cond := (Cond.laysFinal "CrierOfBorough$Text" "CrierOfBorough$Text" "steps" "[I") :: tl_0_76
def tl_0_74 : List Cond := ((Jvm.Cond.fieldLinkNest "CrierOfBorough$Tape" (23 : Nat) "CrierOfBorough$Text" "size" "I" "CrierOfBorough")) :: tl_0_75
def tl_0_73 : List Cond := (Cond.fieldLink "CrierOfBorough$Text" 21 "CrierOfBorough$Text" "size" "I") :: tl_0_74
def tl_0_72 : List Cond := (Cond.fieldLink "CrierOfBorough$Text" 18 "CrierOfBorough$Text" "values" "[I") :: tl_0_73
def tl_0_71 : List Cond := ((Jvm.Cond.fieldLinkNest "CrierOfBorough$Tape" (42 : Nat) "CrierOfBorough$Text" "ends" "[I" "CrierOfBorough")) :: tl_0_72
def tl_0_70 : List Cond := (Cond.fieldLink "CrierOfBorough$Text" 15 "CrierOfBorough$Text" "ends" "[I") :: tl_0_71
def tl_0_69 : List Cond := (Cond.fieldLink "CrierOfBorough$Text" 9 "CrierOfBorough$Text" "steps" "[I") :: tl_0_70
def tl_0_68 : List Cond := (Cond.methodLink RX7 3 ⟨"java/lang/Object", "<init>", "()V"⟩) :: tl_0_69
def tl_0_67 : List Cond := (Cond.code yX7_init cX7_init 1 (none)) :: tl_0_68
def tl_0_66 : List Cond := (Cond.instanceMethod yX7_init) :: tl_0_67
def tl_0_65 : List Cond := ((Jvm.Cond.methodLinkNest "CrierOfBorough" (32 : Nat) ({ cls := "CrierOfBorough$Text", name := "<init>", desc := "()V" } : Jvm.MethodName) "CrierOfBorough")) :: tl_0_66
def tl_0_64 : List Cond := (Cond.instantiable RX7 4) :: tl_0_65
def tl_0_63 : List Cond := ((Jvm.Cond.arrayClass Jvm.ClassFile.FieldType.int)) :: tl_0_64
def tl_0_62 : List Cond := (Cond.superclass RX6 "java/lang/Object") :: tl_0_63
def tl_0_61 : List Cond := ((Jvm.Cond.soleField "CrierOfBorough$Tape" "into")) :: tl_0_62
def tl_0_60 : List Cond := (Cond.lays "CrierOfBorough$Tape" "CrierOfBorough$Tape" "into" "LCrierOfBorough$Text;") :: tl_0_61
def tl_0_59 : List Cond := ((Jvm.Cond.soleField "CrierOfBorough$Tape" "number")) :: tl_0_60
def tl_0_58 : List Cond := (Cond.lays "CrierOfBorough$Tape" "CrierOfBorough$Tape" "number" "I") :: tl_0_59
def tl_0_57 : List Cond := ((Jvm.Cond.soleField "CrierOfBorough$Tape" "tokenEnd")) :: tl_0_58
def tl_0_56 : List Cond := (Cond.lays "CrierOfBorough$Tape" "CrierOfBorough$Tape" "tokenEnd" "I") :: tl_0_57
def tl_0_55 : List Cond := ((Jvm.Cond.soleField "CrierOfBorough$Tape" "tokenAt")) :: tl_0_56
def tl_0_54 : List Cond := (Cond.lays "CrierOfBorough$Tape" "CrierOfBorough$Tape" "tokenAt" "I") :: tl_0_55
def tl_0_53 : List Cond := ((Jvm.Cond.soleField "CrierOfBorough$Tape" "token")) :: tl_0_54
def tl_0_52 : List Cond := (Cond.lays "CrierOfBorough$Tape" "CrierOfBorough$Tape" "token" "I") :: tl_0_53
def tl_0_51 : List Cond := ((Jvm.Cond.soleField "CrierOfBorough$Tape" "size")) :: tl_0_52
def tl_0_50 : List Cond := (Cond.lays "CrierOfBorough$Tape" "CrierOfBorough$Tape" "size" "I") :: tl_0_51
def tl_0_49 : List Cond := ((Jvm.Cond.soleField "CrierOfBorough$Tape" "bytes")) :: tl_0_50
def tl_0_48 : List Cond := (Cond.laysFinal "CrierOfBorough$Tape" "CrierOfBorough$Tape" "bytes" "[I") :: tl_0_49
def tl_0_47 : List Cond := (Cond.fieldLink "CrierOfBorough$Tape" 19 "CrierOfBorough$Tape" "into" "LCrierOfBorough$Text;") :: tl_0_48
def tl_0_46 : List Cond := (Cond.fieldLink "CrierOfBorough$Tape" 68 "CrierOfBorough$Tape" "number" "I") :: tl_0_47
def tl_0_45 : List Cond := (Cond.fieldLink "CrierOfBorough$Tape" 26 "CrierOfBorough$Tape" "tokenEnd" "I") :: tl_0_46
def tl_0_44 : List Cond := (Cond.fieldLink "CrierOfBorough$Tape" 35 "CrierOfBorough$Tape" "tokenAt" "I") :: tl_0_45
def tl_0_43 : List Cond := (Cond.fieldLink "CrierOfBorough$Tape" 32 "CrierOfBorough$Tape" "token" "I") :: tl_0_44
def tl_0_42 : List Cond := (Cond.fieldLink "CrierOfBorough$Tape" 15 "CrierOfBorough$Tape" "size" "I") :: tl_0_43
def tl_0_41 : List Cond := ((Jvm.Cond.fieldLinkNest "CrierOfBorough" (87 : Nat) "CrierOfBorough$Tape" "size" "I" "CrierOfBorough")) :: tl_0_42
def tl_0_40 : List Cond := (Cond.fieldLink "CrierOfBorough$Tape" 9 "CrierOfBorough$Tape" "bytes" "[I") :: tl_0_41
def tl_0_39 : List Cond := (Cond.methodLink RX6 3 ⟨"java/lang/Object", "<init>", "()V"⟩) :: tl_0_40
def tl_0_38 : List Cond := (Cond.code yX6_init cX6_init 1 (none)) :: tl_0_39
def tl_0_37 : List Cond := (Cond.instanceMethod yX6_init) :: tl_0_38
def tl_0_36 : List Cond := ((Jvm.Cond.methodLinkNest "CrierOfBorough" (23 : Nat) ({ cls := "CrierOfBorough$Tape", name := "<init>", desc := "()V" } : Jvm.MethodName) "CrierOfBorough")) :: tl_0_37
def tl_0_35 : List Cond := (Cond.instantiable RX6 7) :: tl_0_36
def tl_0_34 : List Cond := (Cond.classLink RX10 21 "CrierOfBorough$Tape") :: tl_0_35
def tl_0_33 : List Cond := ((Jvm.Cond.arrayOver (Jvm.ClassFile.FieldType.object "CrierOfBorough$Sheet"))) :: tl_0_34
def tl_0_32 : List Cond := (Cond.classLink RX10 15 "CrierOfBorough$Sheet") :: tl_0_33
def tl_0_31 : List Cond := ((Jvm.Cond.arrayOver (Jvm.ClassFile.FieldType.object "CrierOfBorough$Text"))) :: tl_0_32
def tl_0_30 : List Cond := (Cond.classLink RX10 9 "CrierOfBorough$Text") :: tl_0_31
def tl_0_29 : List Cond := (Cond.code ⟨"java/lang/Object", "<init>", "()V"⟩ object_method_1_code 1 (none)) :: tl_0_30
def tl_0_28 : List Cond := (Cond.instanceMethod ⟨"java/lang/Object", "<init>", "()V"⟩) :: tl_0_29
def tl_0_27 : List Cond := (Cond.methodLink RX10 1 ⟨"java/lang/Object", "<init>", "()V"⟩) :: tl_0_28
def tl_0_26 : List Cond := (Cond.code yX10_init cX10_init 3 (none)) :: tl_0_27
def tl_0_25 : List Cond := (Cond.instanceMethod yX10_init) :: tl_0_26
def tl_0_24 : List Cond := (Cond.methodLink RL 9 yX10_init) :: tl_0_25
def tl_0_23 : List Cond := (Cond.instantiable RX10 9) :: tl_0_24
def tl_0_22 : List Cond := (Cond.classLink RL 7 "CrierOfBorough") :: tl_0_23
def tl_0_21 : List Cond := (Cond.initialized RJ7) :: tl_0_22
def tl_0_20 : List Cond := (Cond.initialized RJ10) :: tl_0_21
def tl_0_19 : List Cond := (Cond.initialized RJ6) :: tl_0_20
def tl_0_18 : List Cond := (Cond.initialized RX11) :: tl_0_19
def tl_0_17 : List Cond := (Cond.initialized RJ11) :: tl_0_18
def tl_0_16 : List Cond := (Cond.initialized RJ9) :: tl_0_17
def tl_0_15 : List Cond := (Cond.initialized RJ2) :: tl_0_16
def tl_0_14 : List Cond := (Cond.initialized RJ3) :: tl_0_15
def tl_0_13 : List Cond := (Cond.initialized RJ1) :: tl_0_14
def tl_0_12 : List Cond := (Cond.initialized RJ0) :: tl_0_13
def tl_0_11 : List Cond := (Cond.initialized RX9) :: tl_0_12
def tl_0_10 : List Cond := (Cond.initialized RX5) :: tl_0_11
def tl_0_9 : List Cond := (Cond.initialized RX2) :: tl_0_10
def tl_0_8 : List Cond := (Cond.initialized RX8) :: tl_0_9
def tl_0_7 : List Cond := (Cond.initialized RX1) :: tl_0_8
def tl_0_6 : List Cond := (Cond.initialized RX3) :: tl_0_7
def tl_0_5 : List Cond := (Cond.initialized RX0) :: tl_0_6
def tl_0_4 : List Cond := (Cond.initialized RX4) :: tl_0_5
def tl_0_3 : List Cond := (Cond.initialized RX7) :: tl_0_4
def tl_0_2 : List Cond := (Cond.initialized RX6) :: tl_0_3
def tl_0_1 : List Cond := (Cond.initialized RX10) :: tl_0_2
def tl_0_0 : List Cond := (Cond.initialized RL) :: tl_0_1
set_option maxRecDepth 100000 in
theorem te_0 : tables_1_1 = tl_0_0 := rfl
theorem tm_0_0 : ∀ w ∈ tl_0_0, w ∈ lw_tbl := fun w h => by
  rw [← te_0] at h
  unfold lw_tbl tables_1
  exact List.mem_append_right _ (List.mem_append_left _ h)
theorem w_0 : Cond.initialized RL ∈ gTB := gTB_of (tm_0_0 _ List.mem_cons_self) rfl
theorem tm_0_1 : ∀ w ∈ tl_0_1, w ∈ lw_tbl := fun w h => tm_0_0 w (List.mem_cons_of_mem _ h)
theorem w_1 : Cond.initialized RX10 ∈ gTB := gTB_of (tm_0_1 _ List.mem_cons_self) rfl
theorem tm_0_2 : ∀ w ∈ tl_0_2, w ∈ lw_tbl := fun w h => tm_0_1 w (List.mem_cons_of_mem _ h)
theorem w_2 : Cond.initialized RX6 ∈ gTB := gTB_of (tm_0_2 _ List.mem_cons_self) rfl
theorem tm_0_3 : ∀ w ∈ tl_0_3, w ∈ lw_tbl := fun w h => tm_0_2 w (List.mem_cons_of_mem _ h)
theorem w_3 : Cond.initialized RX7 ∈ gTB := gTB_of (tm_0_3 _ List.mem_cons_self) rfl
theorem tm_0_4 : ∀ w ∈ tl_0_4, w ∈ lw_tbl := fun w h => tm_0_3 w (List.mem_cons_of_mem _ h)
theorem w_4 : Cond.initialized RX4 ∈ gTB := gTB_of (tm_0_4 _ List.mem_cons_self) rfl
theorem tm_0_5 : ∀ w ∈ tl_0_5, w ∈ lw_tbl := fun w h => tm_0_4 w (List.mem_cons_of_mem _ h)
theorem w_5 : Cond.initialized RX0 ∈ gTB := gTB_of (tm_0_5 _ List.mem_cons_self) rfl
theorem tm_0_6 : ∀ w ∈ tl_0_6, w ∈ lw_tbl := fun w h => tm_0_5 w (List.mem_cons_of_mem _ h)
theorem w_6 : Cond.initialized RX3 ∈ gTB := gTB_of (tm_0_6 _ List.mem_cons_self) rfl
theorem tm_0_7 : ∀ w ∈ tl_0_7, w ∈ lw_tbl := fun w h => tm_0_6 w (List.mem_cons_of_mem _ h)
theorem w_7 : Cond.initialized RX1 ∈ gTB := gTB_of (tm_0_7 _ List.mem_cons_self) rfl
theorem tm_0_8 : ∀ w ∈ tl_0_8, w ∈ lw_tbl := fun w h => tm_0_7 w (List.mem_cons_of_mem _ h)
theorem w_8 : Cond.initialized RX8 ∈ gTB := gTB_of (tm_0_8 _ List.mem_cons_self) rfl
theorem tm_0_9 : ∀ w ∈ tl_0_9, w ∈ lw_tbl := fun w h => tm_0_8 w (List.mem_cons_of_mem _ h)
theorem w_9 : Cond.initialized RX2 ∈ gTB := gTB_of (tm_0_9 _ List.mem_cons_self) rfl
theorem tm_0_10 : ∀ w ∈ tl_0_10, w ∈ lw_tbl := fun w h => tm_0_9 w (List.mem_cons_of_mem _ h)
theorem w_10 : Cond.initialized RX5 ∈ gTB := gTB_of (tm_0_10 _ List.mem_cons_self) rfl
theorem tm_0_11 : ∀ w ∈ tl_0_11, w ∈ lw_tbl := fun w h => tm_0_10 w (List.mem_cons_of_mem _ h)
theorem w_11 : Cond.initialized RX9 ∈ gTB := gTB_of (tm_0_11 _ List.mem_cons_self) rfl
theorem tm_0_12 : ∀ w ∈ tl_0_12, w ∈ lw_tbl := fun w h => tm_0_11 w (List.mem_cons_of_mem _ h)
theorem w_12 : Cond.initialized RJ0 ∈ gTB := gTB_of (tm_0_12 _ List.mem_cons_self) rfl
theorem tm_0_13 : ∀ w ∈ tl_0_13, w ∈ lw_tbl := fun w h => tm_0_12 w (List.mem_cons_of_mem _ h)
theorem w_13 : Cond.initialized RJ1 ∈ gTB := gTB_of (tm_0_13 _ List.mem_cons_self) rfl
theorem tm_0_14 : ∀ w ∈ tl_0_14, w ∈ lw_tbl := fun w h => tm_0_13 w (List.mem_cons_of_mem _ h)
theorem w_14 : Cond.initialized RJ3 ∈ gTB := gTB_of (tm_0_14 _ List.mem_cons_self) rfl
theorem tm_0_15 : ∀ w ∈ tl_0_15, w ∈ lw_tbl := fun w h => tm_0_14 w (List.mem_cons_of_mem _ h)
theorem w_15 : Cond.initialized RJ2 ∈ gTB := gTB_of (tm_0_15 _ List.mem_cons_self) rfl
theorem tm_0_16 : ∀ w ∈ tl_0_16, w ∈ lw_tbl := fun w h => tm_0_15 w (List.mem_cons_of_mem _ h)
theorem w_16 : Cond.initialized RJ9 ∈ gTB := gTB_of (tm_0_16 _ List.mem_cons_self) rfl
theorem tm_0_17 : ∀ w ∈ tl_0_17, w ∈ lw_tbl := fun w h => tm_0_16 w (List.mem_cons_of_mem _ h)
theorem w_17 : Cond.initialized RJ11 ∈ gTB := gTB_of (tm_0_17 _ List.mem_cons_self) rfl
theorem tm_0_18 : ∀ w ∈ tl_0_18, w ∈ lw_tbl := fun w h => tm_0_17 w (List.mem_cons_of_mem _ h)
theorem w_18 : Cond.initialized RX11 ∈ gTB := gTB_of (tm_0_18 _ List.mem_cons_self) rfl
theorem tm_0_19 : ∀ w ∈ tl_0_19, w ∈ lw_tbl := fun w h => tm_0_18 w (List.mem_cons_of_mem _ h)
theorem w_19 : Cond.initialized RJ6 ∈ gTB := gTB_of (tm_0_19 _ List.mem_cons_self) rfl
theorem tm_0_20 : ∀ w ∈ tl_0_20, w ∈ lw_tbl := fun w h => tm_0_19 w (List.mem_cons_of_mem _ h)
theorem w_20 : Cond.initialized RJ10 ∈ gTB := gTB_of (tm_0_20 _ List.mem_cons_self) rfl
theorem tm_0_21 : ∀ w ∈ tl_0_21, w ∈ lw_tbl := fun w h => tm_0_20 w (List.mem_cons_of_mem _ h)
theorem w_21 : Cond.initialized RJ7 ∈ gTB := gTB_of (tm_0_21 _ List.mem_cons_self) rfl
theorem tm_0_22 : ∀ w ∈ tl_0_22, w ∈ lw_tbl := fun w h => tm_0_21 w (List.mem_cons_of_mem _ h)
theorem w_22 : Cond.classLink RL 7 "CrierOfBorough" ∈ gTB := gTB_of (tm_0_22 _ List.mem_cons_self) rfl
theorem tm_0_23 : ∀ w ∈ tl_0_23, w ∈ lw_tbl := fun w h => tm_0_22 w (List.mem_cons_of_mem _ h)
theorem w_23 : Cond.instantiable RX10 9 ∈ gTB := gTB_of (tm_0_23 _ List.mem_cons_self) rfl
theorem tm_0_24 : ∀ w ∈ tl_0_24, w ∈ lw_tbl := fun w h => tm_0_23 w (List.mem_cons_of_mem _ h)
theorem w_24 : Cond.methodLink RL 9 yX10_init ∈ gTB := gTB_of (tm_0_24 _ List.mem_cons_self) rfl
theorem tm_0_25 : ∀ w ∈ tl_0_25, w ∈ lw_tbl := fun w h => tm_0_24 w (List.mem_cons_of_mem _ h)
theorem w_25 : Cond.instanceMethod yX10_init ∈ gTB := gTB_of (tm_0_25 _ List.mem_cons_self) rfl
theorem tm_0_26 : ∀ w ∈ tl_0_26, w ∈ lw_tbl := fun w h => tm_0_25 w (List.mem_cons_of_mem _ h)
theorem w_26 : Cond.code yX10_init cX10_init 3 (none) ∈ gTB := gTB_of (tm_0_26 _ List.mem_cons_self) rfl
theorem tm_0_27 : ∀ w ∈ tl_0_27, w ∈ lw_tbl := fun w h => tm_0_26 w (List.mem_cons_of_mem _ h)
theorem w_27 : Cond.methodLink RX10 1 ⟨"java/lang/Object", "<init>", "()V"⟩ ∈ gTB := gTB_of (tm_0_27 _ List.mem_cons_self) rfl
theorem tm_0_28 : ∀ w ∈ tl_0_28, w ∈ lw_tbl := fun w h => tm_0_27 w (List.mem_cons_of_mem _ h)
theorem w_28 : Cond.instanceMethod ⟨"java/lang/Object", "<init>", "()V"⟩ ∈ gTB := gTB_of (tm_0_28 _ List.mem_cons_self) rfl
theorem tm_0_29 : ∀ w ∈ tl_0_29, w ∈ lw_tbl := fun w h => tm_0_28 w (List.mem_cons_of_mem _ h)
theorem w_29 : Cond.code ⟨"java/lang/Object", "<init>", "()V"⟩ object_method_1_code 1 (none) ∈ gTB := gTB_of (tm_0_29 _ List.mem_cons_self) rfl
theorem tm_0_30 : ∀ w ∈ tl_0_30, w ∈ lw_tbl := fun w h => tm_0_29 w (List.mem_cons_of_mem _ h)
theorem w_30 : Cond.classLink RX10 9 "CrierOfBorough$Text" ∈ gTB := gTB_of (tm_0_30 _ List.mem_cons_self) rfl
theorem tm_0_31 : ∀ w ∈ tl_0_31, w ∈ lw_tbl := fun w h => tm_0_30 w (List.mem_cons_of_mem _ h)
theorem tm_0_32 : ∀ w ∈ tl_0_32, w ∈ lw_tbl := fun w h => tm_0_31 w (List.mem_cons_of_mem _ h)
theorem w_32 : Cond.classLink RX10 15 "CrierOfBorough$Sheet" ∈ gTB := gTB_of (tm_0_32 _ List.mem_cons_self) rfl
theorem tm_0_33 : ∀ w ∈ tl_0_33, w ∈ lw_tbl := fun w h => tm_0_32 w (List.mem_cons_of_mem _ h)
theorem tm_0_34 : ∀ w ∈ tl_0_34, w ∈ lw_tbl := fun w h => tm_0_33 w (List.mem_cons_of_mem _ h)
theorem w_34 : Cond.classLink RX10 21 "CrierOfBorough$Tape" ∈ gTB := gTB_of (tm_0_34 _ List.mem_cons_self) rfl
theorem tm_0_35 : ∀ w ∈ tl_0_35, w ∈ lw_tbl := fun w h => tm_0_34 w (List.mem_cons_of_mem _ h)
theorem w_35 : Cond.instantiable RX6 7 ∈ gTB := gTB_of (tm_0_35 _ List.mem_cons_self) rfl
theorem tm_0_36 : ∀ w ∈ tl_0_36, w ∈ lw_tbl := fun w h => tm_0_35 w (List.mem_cons_of_mem _ h)
theorem w_36 : Cond.methodLinkNest RX10 23 yX6_init RX10 ∈ lw_tbl := tm_0_36 _ List.mem_cons_self
theorem tm_0_37 : ∀ w ∈ tl_0_37, w ∈ lw_tbl := fun w h => tm_0_36 w (List.mem_cons_of_mem _ h)
theorem w_37 : Cond.instanceMethod yX6_init ∈ gTB := gTB_of (tm_0_37 _ List.mem_cons_self) rfl
theorem tm_0_38 : ∀ w ∈ tl_0_38, w ∈ lw_tbl := fun w h => tm_0_37 w (List.mem_cons_of_mem _ h)
theorem w_38 : Cond.code yX6_init cX6_init 1 (none) ∈ gTB := gTB_of (tm_0_38 _ List.mem_cons_self) rfl
theorem tm_0_39 : ∀ w ∈ tl_0_39, w ∈ lw_tbl := fun w h => tm_0_38 w (List.mem_cons_of_mem _ h)
theorem w_39 : Cond.methodLink RX6 3 ⟨"java/lang/Object", "<init>", "()V"⟩ ∈ gTB := gTB_of (tm_0_39 _ List.mem_cons_self) rfl
theorem tm_0_40 : ∀ w ∈ tl_0_40, w ∈ lw_tbl := fun w h => tm_0_39 w (List.mem_cons_of_mem _ h)
theorem w_40 : Cond.fieldLink "CrierOfBorough$Tape" 9 "CrierOfBorough$Tape" "bytes" "[I" ∈ gTB := gTB_of (tm_0_40 _ List.mem_cons_self) rfl
theorem tm_0_41 : ∀ w ∈ tl_0_41, w ∈ lw_tbl := fun w h => tm_0_40 w (List.mem_cons_of_mem _ h)
theorem w_41 : Cond.fieldLinkNest "CrierOfBorough" 87 "CrierOfBorough$Tape" "size" "I" "CrierOfBorough" ∈ lw_tbl := tm_0_41 _ List.mem_cons_self
theorem tm_0_42 : ∀ w ∈ tl_0_42, w ∈ lw_tbl := fun w h => tm_0_41 w (List.mem_cons_of_mem _ h)
theorem w_42 : Cond.fieldLink "CrierOfBorough$Tape" 15 "CrierOfBorough$Tape" "size" "I" ∈ gTB := gTB_of (tm_0_42 _ List.mem_cons_self) rfl
theorem tm_0_43 : ∀ w ∈ tl_0_43, w ∈ lw_tbl := fun w h => tm_0_42 w (List.mem_cons_of_mem _ h)
theorem w_43 : Cond.fieldLink "CrierOfBorough$Tape" 32 "CrierOfBorough$Tape" "token" "I" ∈ gTB := gTB_of (tm_0_43 _ List.mem_cons_self) rfl
theorem tm_0_44 : ∀ w ∈ tl_0_44, w ∈ lw_tbl := fun w h => tm_0_43 w (List.mem_cons_of_mem _ h)
theorem w_44 : Cond.fieldLink "CrierOfBorough$Tape" 35 "CrierOfBorough$Tape" "tokenAt" "I" ∈ gTB := gTB_of (tm_0_44 _ List.mem_cons_self) rfl
theorem tm_0_45 : ∀ w ∈ tl_0_45, w ∈ lw_tbl := fun w h => tm_0_44 w (List.mem_cons_of_mem _ h)
theorem w_45 : Cond.fieldLink "CrierOfBorough$Tape" 26 "CrierOfBorough$Tape" "tokenEnd" "I" ∈ gTB := gTB_of (tm_0_45 _ List.mem_cons_self) rfl
theorem tm_0_46 : ∀ w ∈ tl_0_46, w ∈ lw_tbl := fun w h => tm_0_45 w (List.mem_cons_of_mem _ h)
theorem w_46 : Cond.fieldLink "CrierOfBorough$Tape" 68 "CrierOfBorough$Tape" "number" "I" ∈ gTB := gTB_of (tm_0_46 _ List.mem_cons_self) rfl
theorem tm_0_47 : ∀ w ∈ tl_0_47, w ∈ lw_tbl := fun w h => tm_0_46 w (List.mem_cons_of_mem _ h)
theorem w_47 : Cond.fieldLink "CrierOfBorough$Tape" 19 "CrierOfBorough$Tape" "into" "LCrierOfBorough$Text;" ∈ gTB := gTB_of (tm_0_47 _ List.mem_cons_self) rfl
theorem tm_0_48 : ∀ w ∈ tl_0_48, w ∈ lw_tbl := fun w h => tm_0_47 w (List.mem_cons_of_mem _ h)
theorem w_48 : Cond.laysFinal "CrierOfBorough$Tape" "CrierOfBorough$Tape" "bytes" "[I" ∈ gTB := gTB_of (tm_0_48 _ List.mem_cons_self) rfl
theorem tm_0_49 : ∀ w ∈ tl_0_49, w ∈ lw_tbl := fun w h => tm_0_48 w (List.mem_cons_of_mem _ h)
theorem tm_0_50 : ∀ w ∈ tl_0_50, w ∈ lw_tbl := fun w h => tm_0_49 w (List.mem_cons_of_mem _ h)
theorem w_50 : Cond.lays "CrierOfBorough$Tape" "CrierOfBorough$Tape" "size" "I" ∈ gTB := gTB_of (tm_0_50 _ List.mem_cons_self) rfl
theorem tm_0_51 : ∀ w ∈ tl_0_51, w ∈ lw_tbl := fun w h => tm_0_50 w (List.mem_cons_of_mem _ h)
theorem tm_0_52 : ∀ w ∈ tl_0_52, w ∈ lw_tbl := fun w h => tm_0_51 w (List.mem_cons_of_mem _ h)
theorem w_52 : Cond.lays "CrierOfBorough$Tape" "CrierOfBorough$Tape" "token" "I" ∈ gTB := gTB_of (tm_0_52 _ List.mem_cons_self) rfl
theorem tm_0_53 : ∀ w ∈ tl_0_53, w ∈ lw_tbl := fun w h => tm_0_52 w (List.mem_cons_of_mem _ h)
theorem tm_0_54 : ∀ w ∈ tl_0_54, w ∈ lw_tbl := fun w h => tm_0_53 w (List.mem_cons_of_mem _ h)
theorem w_54 : Cond.lays "CrierOfBorough$Tape" "CrierOfBorough$Tape" "tokenAt" "I" ∈ gTB := gTB_of (tm_0_54 _ List.mem_cons_self) rfl
theorem tm_0_55 : ∀ w ∈ tl_0_55, w ∈ lw_tbl := fun w h => tm_0_54 w (List.mem_cons_of_mem _ h)
theorem tm_0_56 : ∀ w ∈ tl_0_56, w ∈ lw_tbl := fun w h => tm_0_55 w (List.mem_cons_of_mem _ h)
theorem w_56 : Cond.lays "CrierOfBorough$Tape" "CrierOfBorough$Tape" "tokenEnd" "I" ∈ gTB := gTB_of (tm_0_56 _ List.mem_cons_self) rfl
theorem tm_0_57 : ∀ w ∈ tl_0_57, w ∈ lw_tbl := fun w h => tm_0_56 w (List.mem_cons_of_mem _ h)
theorem tm_0_58 : ∀ w ∈ tl_0_58, w ∈ lw_tbl := fun w h => tm_0_57 w (List.mem_cons_of_mem _ h)
theorem w_58 : Cond.lays "CrierOfBorough$Tape" "CrierOfBorough$Tape" "number" "I" ∈ gTB := gTB_of (tm_0_58 _ List.mem_cons_self) rfl
theorem tm_0_59 : ∀ w ∈ tl_0_59, w ∈ lw_tbl := fun w h => tm_0_58 w (List.mem_cons_of_mem _ h)
theorem tm_0_60 : ∀ w ∈ tl_0_60, w ∈ lw_tbl := fun w h => tm_0_59 w (List.mem_cons_of_mem _ h)
theorem w_60 : Cond.lays "CrierOfBorough$Tape" "CrierOfBorough$Tape" "into" "LCrierOfBorough$Text;" ∈ gTB := gTB_of (tm_0_60 _ List.mem_cons_self) rfl
theorem tm_0_61 : ∀ w ∈ tl_0_61, w ∈ lw_tbl := fun w h => tm_0_60 w (List.mem_cons_of_mem _ h)
theorem tm_0_62 : ∀ w ∈ tl_0_62, w ∈ lw_tbl := fun w h => tm_0_61 w (List.mem_cons_of_mem _ h)
theorem w_62 : Cond.superclass RX6 "java/lang/Object" ∈ gTB := gTB_of (tm_0_62 _ List.mem_cons_self) rfl
theorem tm_0_63 : ∀ w ∈ tl_0_63, w ∈ lw_tbl := fun w h => tm_0_62 w (List.mem_cons_of_mem _ h)
theorem tm_0_64 : ∀ w ∈ tl_0_64, w ∈ lw_tbl := fun w h => tm_0_63 w (List.mem_cons_of_mem _ h)
theorem w_64 : Cond.instantiable RX7 4 ∈ gTB := gTB_of (tm_0_64 _ List.mem_cons_self) rfl
theorem tm_0_65 : ∀ w ∈ tl_0_65, w ∈ lw_tbl := fun w h => tm_0_64 w (List.mem_cons_of_mem _ h)
theorem w_65 : Cond.methodLinkNest RX10 32 yX7_init RX10 ∈ lw_tbl := tm_0_65 _ List.mem_cons_self
theorem tm_0_66 : ∀ w ∈ tl_0_66, w ∈ lw_tbl := fun w h => tm_0_65 w (List.mem_cons_of_mem _ h)
theorem w_66 : Cond.instanceMethod yX7_init ∈ gTB := gTB_of (tm_0_66 _ List.mem_cons_self) rfl
theorem tm_0_67 : ∀ w ∈ tl_0_67, w ∈ lw_tbl := fun w h => tm_0_66 w (List.mem_cons_of_mem _ h)
theorem w_67 : Cond.code yX7_init cX7_init 1 (none) ∈ gTB := gTB_of (tm_0_67 _ List.mem_cons_self) rfl
theorem tm_0_68 : ∀ w ∈ tl_0_68, w ∈ lw_tbl := fun w h => tm_0_67 w (List.mem_cons_of_mem _ h)
theorem w_68 : Cond.methodLink RX7 3 ⟨"java/lang/Object", "<init>", "()V"⟩ ∈ gTB := gTB_of (tm_0_68 _ List.mem_cons_self) rfl
theorem tm_0_69 : ∀ w ∈ tl_0_69, w ∈ lw_tbl := fun w h => tm_0_68 w (List.mem_cons_of_mem _ h)
theorem w_69 : Cond.fieldLink "CrierOfBorough$Text" 9 "CrierOfBorough$Text" "steps" "[I" ∈ gTB := gTB_of (tm_0_69 _ List.mem_cons_self) rfl
theorem tm_0_70 : ∀ w ∈ tl_0_70, w ∈ lw_tbl := fun w h => tm_0_69 w (List.mem_cons_of_mem _ h)
theorem w_70 : Cond.fieldLink "CrierOfBorough$Text" 15 "CrierOfBorough$Text" "ends" "[I" ∈ gTB := gTB_of (tm_0_70 _ List.mem_cons_self) rfl
theorem tm_0_71 : ∀ w ∈ tl_0_71, w ∈ lw_tbl := fun w h => tm_0_70 w (List.mem_cons_of_mem _ h)
theorem w_71 : Cond.fieldLinkNest "CrierOfBorough$Tape" 42 "CrierOfBorough$Text" "ends" "[I" "CrierOfBorough" ∈ lw_tbl := tm_0_71 _ List.mem_cons_self
theorem tm_0_72 : ∀ w ∈ tl_0_72, w ∈ lw_tbl := fun w h => tm_0_71 w (List.mem_cons_of_mem _ h)
theorem w_72 : Cond.fieldLink "CrierOfBorough$Text" 18 "CrierOfBorough$Text" "values" "[I" ∈ gTB := gTB_of (tm_0_72 _ List.mem_cons_self) rfl
theorem tm_0_73 : ∀ w ∈ tl_0_73, w ∈ lw_tbl := fun w h => tm_0_72 w (List.mem_cons_of_mem _ h)
theorem w_73 : Cond.fieldLink "CrierOfBorough$Text" 21 "CrierOfBorough$Text" "size" "I" ∈ gTB := gTB_of (tm_0_73 _ List.mem_cons_self) rfl
theorem tm_0_74 : ∀ w ∈ tl_0_74, w ∈ lw_tbl := fun w h => tm_0_73 w (List.mem_cons_of_mem _ h)
theorem w_74 : Cond.fieldLinkNest "CrierOfBorough$Tape" 23 "CrierOfBorough$Text" "size" "I" "CrierOfBorough" ∈ lw_tbl := tm_0_74 _ List.mem_cons_self
theorem tm_0_75 : ∀ w ∈ tl_0_75, w ∈ lw_tbl := fun w h => tm_0_74 w (List.mem_cons_of_mem _ h)
theorem w_75 : Cond.laysFinal "CrierOfBorough$Text" "CrierOfBorough$Text" "steps" "[I" ∈ gTB := gTB_of (tm_0_75 _ List.mem_cons_self) rfl
theorem tm_0_76 : ∀ w ∈ tl_0_76, w ∈ lw_tbl := fun w h => tm_0_75 w (List.mem_cons_of_mem _ h)
theorem tm_0_77 : ∀ w ∈ tl_0_77, w ∈ lw_tbl := fun w h => tm_0_76 w (List.mem_cons_of_mem _ h)
theorem w_77 : Cond.laysFinal "CrierOfBorough$Text" "CrierOfBorough$Text" "ends" "[I" ∈ gTB := gTB_of (tm_0_77 _ List.mem_cons_self) rfl
theorem tm_0_78 : ∀ w ∈ tl_0_78, w ∈ lw_tbl := fun w h => tm_0_77 w (List.mem_cons_of_mem _ h)
theorem tm_0_79 : ∀ w ∈ tl_0_79, w ∈ lw_tbl := fun w h => tm_0_78 w (List.mem_cons_of_mem _ h)
theorem w_79 : Cond.laysFinal "CrierOfBorough$Text" "CrierOfBorough$Text" "values" "[I" ∈ gTB := gTB_of (tm_0_79 _ List.mem_cons_self) rfl
theorem tm_0_80 : ∀ w ∈ tl_0_80, w ∈ lw_tbl := fun w h => tm_0_79 w (List.mem_cons_of_mem _ h)
theorem tm_0_81 : ∀ w ∈ tl_0_81, w ∈ lw_tbl := fun w h => tm_0_80 w (List.mem_cons_of_mem _ h)
theorem w_81 : Cond.lays "CrierOfBorough$Text" "CrierOfBorough$Text" "size" "I" ∈ gTB := gTB_of (tm_0_81 _ List.mem_cons_self) rfl
theorem tm_0_82 : ∀ w ∈ tl_0_82, w ∈ lw_tbl := fun w h => tm_0_81 w (List.mem_cons_of_mem _ h)
theorem tm_0_83 : ∀ w ∈ tl_0_83, w ∈ lw_tbl := fun w h => tm_0_82 w (List.mem_cons_of_mem _ h)
theorem w_83 : Cond.superclass RX7 "java/lang/Object" ∈ gTB := gTB_of (tm_0_83 _ List.mem_cons_self) rfl
theorem tm_0_84 : ∀ w ∈ tl_0_84, w ∈ lw_tbl := fun w h => tm_0_83 w (List.mem_cons_of_mem _ h)
theorem w_84 : Cond.instantiable RX4 3 ∈ gTB := gTB_of (tm_0_84 _ List.mem_cons_self) rfl
theorem tm_0_85 : ∀ w ∈ tl_0_85, w ∈ lw_tbl := fun w h => tm_0_84 w (List.mem_cons_of_mem _ h)
theorem w_85 : Cond.methodLinkNest RX10 33 yX4_init RX10 ∈ lw_tbl := tm_0_85 _ List.mem_cons_self
theorem tm_0_86 : ∀ w ∈ tl_0_86, w ∈ lw_tbl := fun w h => tm_0_85 w (List.mem_cons_of_mem _ h)
theorem w_86 : Cond.instanceMethod yX4_init ∈ gTB := gTB_of (tm_0_86 _ List.mem_cons_self) rfl
theorem tm_0_87 : ∀ w ∈ tl_0_87, w ∈ lw_tbl := fun w h => tm_0_86 w (List.mem_cons_of_mem _ h)
theorem w_87 : Cond.code yX4_init cX4_init 1 (none) ∈ gTB := gTB_of (tm_0_87 _ List.mem_cons_self) rfl
theorem tm_0_88 : ∀ w ∈ tl_0_88, w ∈ lw_tbl := fun w h => tm_0_87 w (List.mem_cons_of_mem _ h)
theorem w_88 : Cond.methodLink RX4 3 ⟨"java/lang/Object", "<init>", "()V"⟩ ∈ gTB := gTB_of (tm_0_88 _ List.mem_cons_self) rfl
theorem tm_0_89 : ∀ w ∈ tl_0_89, w ∈ lw_tbl := fun w h => tm_0_88 w (List.mem_cons_of_mem _ h)
theorem w_89 : Cond.fieldLink "CrierOfBorough$Sheet" 9 "CrierOfBorough$Sheet" "numbers" "[I" ∈ gTB := gTB_of (tm_0_89 _ List.mem_cons_self) rfl
theorem tm_0_90 : ∀ w ∈ tl_0_90, w ∈ lw_tbl := fun w h => tm_0_89 w (List.mem_cons_of_mem _ h)
theorem w_90 : Cond.fieldLinkNest "CrierOfBorough" 246 "CrierOfBorough$Sheet" "numbers" "[I" "CrierOfBorough" ∈ lw_tbl := tm_0_90 _ List.mem_cons_self
theorem tm_0_91 : ∀ w ∈ tl_0_91, w ∈ lw_tbl := fun w h => tm_0_90 w (List.mem_cons_of_mem _ h)
theorem w_91 : Cond.fieldLink "CrierOfBorough$Sheet" 15 "CrierOfBorough$Sheet" "sort" "I" ∈ gTB := gTB_of (tm_0_91 _ List.mem_cons_self) rfl
theorem tm_0_92 : ∀ w ∈ tl_0_92, w ∈ lw_tbl := fun w h => tm_0_91 w (List.mem_cons_of_mem _ h)
theorem w_92 : Cond.fieldLinkNest "CrierOfBorough" 239 "CrierOfBorough$Sheet" "sort" "I" "CrierOfBorough" ∈ lw_tbl := tm_0_92 _ List.mem_cons_self
theorem tm_0_93 : ∀ w ∈ tl_0_93, w ∈ lw_tbl := fun w h => tm_0_92 w (List.mem_cons_of_mem _ h)
theorem w_93 : Cond.fieldLink "CrierOfBorough$Sheet" 19 "CrierOfBorough$Sheet" "size" "I" ∈ gTB := gTB_of (tm_0_93 _ List.mem_cons_self) rfl
theorem tm_0_94 : ∀ w ∈ tl_0_94, w ∈ lw_tbl := fun w h => tm_0_93 w (List.mem_cons_of_mem _ h)
theorem w_94 : Cond.fieldLinkNest "CrierOfBorough" 242 "CrierOfBorough$Sheet" "size" "I" "CrierOfBorough" ∈ lw_tbl := tm_0_94 _ List.mem_cons_self
theorem tm_0_95 : ∀ w ∈ tl_0_95, w ∈ lw_tbl := fun w h => tm_0_94 w (List.mem_cons_of_mem _ h)
theorem w_95 : Cond.laysFinal "CrierOfBorough$Sheet" "CrierOfBorough$Sheet" "numbers" "[I" ∈ gTB := gTB_of (tm_0_95 _ List.mem_cons_self) rfl
theorem tm_0_96 : ∀ w ∈ tl_0_96, w ∈ lw_tbl := fun w h => tm_0_95 w (List.mem_cons_of_mem _ h)
theorem tm_0_97 : ∀ w ∈ tl_0_97, w ∈ lw_tbl := fun w h => tm_0_96 w (List.mem_cons_of_mem _ h)
theorem w_97 : Cond.lays "CrierOfBorough$Sheet" "CrierOfBorough$Sheet" "sort" "I" ∈ gTB := gTB_of (tm_0_97 _ List.mem_cons_self) rfl
theorem tm_0_98 : ∀ w ∈ tl_0_98, w ∈ lw_tbl := fun w h => tm_0_97 w (List.mem_cons_of_mem _ h)
theorem tm_0_99 : ∀ w ∈ tl_0_99, w ∈ lw_tbl := fun w h => tm_0_98 w (List.mem_cons_of_mem _ h)
theorem w_99 : Cond.lays "CrierOfBorough$Sheet" "CrierOfBorough$Sheet" "size" "I" ∈ gTB := gTB_of (tm_0_99 _ List.mem_cons_self) rfl
theorem tm_0_100 : ∀ w ∈ tl_0_100, w ∈ lw_tbl := fun w h => tm_0_99 w (List.mem_cons_of_mem _ h)
theorem tm_0_101 : ∀ w ∈ tl_0_101, w ∈ lw_tbl := fun w h => tm_0_100 w (List.mem_cons_of_mem _ h)
theorem w_101 : Cond.superclass RX4 "java/lang/Object" ∈ gTB := gTB_of (tm_0_101 _ List.mem_cons_self) rfl
theorem tm_0_102 : ∀ w ∈ tl_0_102, w ∈ lw_tbl := fun w h => tm_0_101 w (List.mem_cons_of_mem _ h)
theorem w_102 : Cond.classLink RX10 34 "CrierOfBorough$Citizen" ∈ gTB := gTB_of (tm_0_102 _ List.mem_cons_self) rfl
theorem tm_0_103 : ∀ w ∈ tl_0_103, w ∈ lw_tbl := fun w h => tm_0_102 w (List.mem_cons_of_mem _ h)
theorem tm_0_104 : ∀ w ∈ tl_0_104, w ∈ lw_tbl := fun w h => tm_0_103 w (List.mem_cons_of_mem _ h)
theorem w_104 : Cond.instantiable RX0 0 ∈ gTB := gTB_of (tm_0_104 _ List.mem_cons_self) rfl
theorem tm_0_105 : ∀ w ∈ tl_0_105, w ∈ lw_tbl := fun w h => tm_0_104 w (List.mem_cons_of_mem _ h)
theorem w_105 : Cond.methodLinkNest RX10 36 yX0_init RX10 ∈ lw_tbl := tm_0_105 _ List.mem_cons_self
theorem tm_0_106 : ∀ w ∈ tl_0_106, w ∈ lw_tbl := fun w h => tm_0_105 w (List.mem_cons_of_mem _ h)
theorem w_106 : Cond.instanceMethod yX0_init ∈ gTB := gTB_of (tm_0_106 _ List.mem_cons_self) rfl
theorem tm_0_107 : ∀ w ∈ tl_0_107, w ∈ lw_tbl := fun w h => tm_0_106 w (List.mem_cons_of_mem _ h)
theorem w_107 : Cond.code yX0_init cX0_init 1 (none) ∈ gTB := gTB_of (tm_0_107 _ List.mem_cons_self) rfl
theorem tm_0_108 : ∀ w ∈ tl_0_108, w ∈ lw_tbl := fun w h => tm_0_107 w (List.mem_cons_of_mem _ h)
theorem w_108 : Cond.methodLink RX0 1 ⟨"java/lang/Object", "<init>", "()V"⟩ ∈ gTB := gTB_of (tm_0_108 _ List.mem_cons_self) rfl
theorem tm_0_109 : ∀ w ∈ tl_0_109, w ∈ lw_tbl := fun w h => tm_0_108 w (List.mem_cons_of_mem _ h)
theorem w_109 : Cond.superclass RX0 "java/lang/Object" ∈ gTB := gTB_of (tm_0_109 _ List.mem_cons_self) rfl
theorem tm_0_110 : ∀ w ∈ tl_0_110, w ∈ lw_tbl := fun w h => tm_0_109 w (List.mem_cons_of_mem _ h)
theorem w_110 : Cond.classLink RX10 37 "CrierOfBorough$Mother" ∈ gTB := gTB_of (tm_0_110 _ List.mem_cons_self) rfl
theorem tm_0_111 : ∀ w ∈ tl_0_111, w ∈ lw_tbl := fun w h => tm_0_110 w (List.mem_cons_of_mem _ h)
theorem w_111 : Cond.instantiable RX3 0 ∈ gTB := gTB_of (tm_0_111 _ List.mem_cons_self) rfl
theorem tm_0_112 : ∀ w ∈ tl_0_112, w ∈ lw_tbl := fun w h => tm_0_111 w (List.mem_cons_of_mem _ h)
theorem w_112 : Cond.methodLinkNest RX10 39 yX3_init RX10 ∈ lw_tbl := tm_0_112 _ List.mem_cons_self
theorem tm_0_113 : ∀ w ∈ tl_0_113, w ∈ lw_tbl := fun w h => tm_0_112 w (List.mem_cons_of_mem _ h)
theorem w_113 : Cond.instanceMethod yX3_init ∈ gTB := gTB_of (tm_0_113 _ List.mem_cons_self) rfl
theorem tm_0_114 : ∀ w ∈ tl_0_114, w ∈ lw_tbl := fun w h => tm_0_113 w (List.mem_cons_of_mem _ h)
theorem w_114 : Cond.code yX3_init cX3_init 1 (none) ∈ gTB := gTB_of (tm_0_114 _ List.mem_cons_self) rfl
theorem tm_0_115 : ∀ w ∈ tl_0_115, w ∈ lw_tbl := fun w h => tm_0_114 w (List.mem_cons_of_mem _ h)
theorem w_115 : Cond.methodLinkNest RX3 1 yX0_init RX10 ∈ lw_tbl := tm_0_115 _ List.mem_cons_self
theorem tm_0_116 : ∀ w ∈ tl_0_116, w ∈ lw_tbl := fun w h => tm_0_115 w (List.mem_cons_of_mem _ h)
theorem w_116 : Cond.superclass RX3 RX0 ∈ gTB := gTB_of (tm_0_116 _ List.mem_cons_self) rfl
theorem tm_0_117 : ∀ w ∈ tl_0_117, w ∈ lw_tbl := fun w h => tm_0_116 w (List.mem_cons_of_mem _ h)
theorem w_117 : Cond.classLink RX10 40 "CrierOfBorough$Deaf" ∈ gTB := gTB_of (tm_0_117 _ List.mem_cons_self) rfl
theorem tm_0_118 : ∀ w ∈ tl_0_118, w ∈ lw_tbl := fun w h => tm_0_117 w (List.mem_cons_of_mem _ h)
theorem w_118 : Cond.instantiable RX1 0 ∈ gTB := gTB_of (tm_0_118 _ List.mem_cons_self) rfl
theorem tm_0_119 : ∀ w ∈ tl_0_119, w ∈ lw_tbl := fun w h => tm_0_118 w (List.mem_cons_of_mem _ h)
theorem w_119 : Cond.methodLinkNest RX10 42 yX1_init RX10 ∈ lw_tbl := tm_0_119 _ List.mem_cons_self
theorem tm_0_120 : ∀ w ∈ tl_0_120, w ∈ lw_tbl := fun w h => tm_0_119 w (List.mem_cons_of_mem _ h)
theorem w_120 : Cond.instanceMethod yX1_init ∈ gTB := gTB_of (tm_0_120 _ List.mem_cons_self) rfl
theorem tm_0_121 : ∀ w ∈ tl_0_121, w ∈ lw_tbl := fun w h => tm_0_120 w (List.mem_cons_of_mem _ h)
theorem w_121 : Cond.code yX1_init cX1_init 1 (none) ∈ gTB := gTB_of (tm_0_121 _ List.mem_cons_self) rfl
theorem tm_0_122 : ∀ w ∈ tl_0_122, w ∈ lw_tbl := fun w h => tm_0_121 w (List.mem_cons_of_mem _ h)
theorem w_122 : Cond.methodLinkNest RX1 1 yX0_init RX10 ∈ lw_tbl := tm_0_122 _ List.mem_cons_self
theorem tm_0_123 : ∀ w ∈ tl_0_123, w ∈ lw_tbl := fun w h => tm_0_122 w (List.mem_cons_of_mem _ h)
theorem w_123 : Cond.superclass RX1 RX0 ∈ gTB := gTB_of (tm_0_123 _ List.mem_cons_self) rfl
theorem tm_0_124 : ∀ w ∈ tl_0_124, w ∈ lw_tbl := fun w h => tm_0_123 w (List.mem_cons_of_mem _ h)
theorem w_124 : Cond.classLink RX10 43 "CrierOfBorough$Wife" ∈ gTB := gTB_of (tm_0_124 _ List.mem_cons_self) rfl
theorem tm_0_125 : ∀ w ∈ tl_0_125, w ∈ lw_tbl := fun w h => tm_0_124 w (List.mem_cons_of_mem _ h)
theorem w_125 : Cond.instantiable RX8 0 ∈ gTB := gTB_of (tm_0_125 _ List.mem_cons_self) rfl
theorem tm_0_126 : ∀ w ∈ tl_0_126, w ∈ lw_tbl := fun w h => tm_0_125 w (List.mem_cons_of_mem _ h)
theorem w_126 : Cond.methodLinkNest RX10 45 yX8_init RX10 ∈ lw_tbl := tm_0_126 _ List.mem_cons_self
theorem tm_0_127 : ∀ w ∈ tl_0_127, w ∈ lw_tbl := fun w h => tm_0_126 w (List.mem_cons_of_mem _ h)
theorem w_127 : Cond.instanceMethod yX8_init ∈ gTB := gTB_of (tm_0_127 _ List.mem_cons_self) rfl
theorem tm_0_128 : ∀ w ∈ tl_0_128, w ∈ lw_tbl := fun w h => tm_0_127 w (List.mem_cons_of_mem _ h)
theorem w_128 : Cond.code yX8_init cX8_init 1 (none) ∈ gTB := gTB_of (tm_0_128 _ List.mem_cons_self) rfl
theorem tm_0_129 : ∀ w ∈ tl_0_129, w ∈ lw_tbl := fun w h => tm_0_128 w (List.mem_cons_of_mem _ h)
theorem w_129 : Cond.methodLinkNest RX8 1 yX3_init RX10 ∈ lw_tbl := tm_0_129 _ List.mem_cons_self
theorem tm_0_130 : ∀ w ∈ tl_0_130, w ∈ lw_tbl := fun w h => tm_0_129 w (List.mem_cons_of_mem _ h)
theorem w_130 : Cond.superclass RX8 RX3 ∈ gTB := gTB_of (tm_0_130 _ List.mem_cons_self) rfl
theorem tm_0_131 : ∀ w ∈ tl_0_131, w ∈ lw_tbl := fun w h => tm_0_130 w (List.mem_cons_of_mem _ h)
theorem w_131 : Cond.classLink RX10 46 "CrierOfBorough$Hummer" ∈ gTB := gTB_of (tm_0_131 _ List.mem_cons_self) rfl
theorem tm_0_132 : ∀ w ∈ tl_0_132, w ∈ lw_tbl := fun w h => tm_0_131 w (List.mem_cons_of_mem _ h)
theorem w_132 : Cond.instantiable RX2 0 ∈ gTB := gTB_of (tm_0_132 _ List.mem_cons_self) rfl
theorem tm_0_133 : ∀ w ∈ tl_0_133, w ∈ lw_tbl := fun w h => tm_0_132 w (List.mem_cons_of_mem _ h)
theorem w_133 : Cond.methodLinkNest RX10 48 yX2_init RX10 ∈ lw_tbl := tm_0_133 _ List.mem_cons_self
theorem tm_0_134 : ∀ w ∈ tl_0_134, w ∈ lw_tbl := fun w h => tm_0_133 w (List.mem_cons_of_mem _ h)
theorem w_134 : Cond.instanceMethod yX2_init ∈ gTB := gTB_of (tm_0_134 _ List.mem_cons_self) rfl
theorem tm_0_135 : ∀ w ∈ tl_0_135, w ∈ lw_tbl := fun w h => tm_0_134 w (List.mem_cons_of_mem _ h)
theorem w_135 : Cond.code yX2_init cX2_init 1 (none) ∈ gTB := gTB_of (tm_0_135 _ List.mem_cons_self) rfl
theorem tm_0_136 : ∀ w ∈ tl_0_136, w ∈ lw_tbl := fun w h => tm_0_135 w (List.mem_cons_of_mem _ h)
theorem w_136 : Cond.methodLinkNest RX2 1 yX1_init RX10 ∈ lw_tbl := tm_0_136 _ List.mem_cons_self
theorem tm_0_137 : ∀ w ∈ tl_0_137, w ∈ lw_tbl := fun w h => tm_0_136 w (List.mem_cons_of_mem _ h)
theorem w_137 : Cond.superclass RX2 RX1 ∈ gTB := gTB_of (tm_0_137 _ List.mem_cons_self) rfl
theorem tm_0_138 : ∀ w ∈ tl_0_138, w ∈ lw_tbl := fun w h => tm_0_137 w (List.mem_cons_of_mem _ h)
theorem w_138 : Cond.classLink RX10 49 "CrierOfBorough$Stranger" ∈ gTB := gTB_of (tm_0_138 _ List.mem_cons_self) rfl
theorem tm_0_139 : ∀ w ∈ tl_0_139, w ∈ lw_tbl := fun w h => tm_0_138 w (List.mem_cons_of_mem _ h)
theorem w_139 : Cond.instantiable RX5 0 ∈ gTB := gTB_of (tm_0_139 _ List.mem_cons_self) rfl
theorem tm_0_140 : ∀ w ∈ tl_0_140, w ∈ lw_tbl := fun w h => tm_0_139 w (List.mem_cons_of_mem _ h)
theorem w_140 : Cond.methodLinkNest RX10 51 yX5_init RX10 ∈ lw_tbl := tm_0_140 _ List.mem_cons_self
theorem tm_0_141 : ∀ w ∈ tl_0_141, w ∈ lw_tbl := fun w h => tm_0_140 w (List.mem_cons_of_mem _ h)
theorem w_141 : Cond.instanceMethod yX5_init ∈ gTB := gTB_of (tm_0_141 _ List.mem_cons_self) rfl
theorem tm_0_142 : ∀ w ∈ tl_0_142, w ∈ lw_tbl := fun w h => tm_0_141 w (List.mem_cons_of_mem _ h)
theorem w_142 : Cond.code yX5_init cX5_init 1 (none) ∈ gTB := gTB_of (tm_0_142 _ List.mem_cons_self) rfl
theorem tm_0_143 : ∀ w ∈ tl_0_143, w ∈ lw_tbl := fun w h => tm_0_142 w (List.mem_cons_of_mem _ h)
theorem w_143 : Cond.methodLinkNest RX5 1 yX0_init RX10 ∈ lw_tbl := tm_0_143 _ List.mem_cons_self
theorem tm_0_144 : ∀ w ∈ tl_0_144, w ∈ lw_tbl := fun w h => tm_0_143 w (List.mem_cons_of_mem _ h)
theorem w_144 : Cond.superclass RX5 RX0 ∈ gTB := gTB_of (tm_0_144 _ List.mem_cons_self) rfl
theorem tm_0_145 : ∀ w ∈ tl_0_145, w ∈ lw_tbl := fun w h => tm_0_144 w (List.mem_cons_of_mem _ h)
theorem w_145 : Cond.classLink RX10 52 "CrierOfBorough$World" ∈ gTB := gTB_of (tm_0_145 _ List.mem_cons_self) rfl
theorem tm_0_146 : ∀ w ∈ tl_0_146, w ∈ lw_tbl := fun w h => tm_0_145 w (List.mem_cons_of_mem _ h)
theorem w_146 : Cond.instantiable RX9 15 ∈ gTB := gTB_of (tm_0_146 _ List.mem_cons_self) rfl
theorem tm_0_147 : ∀ w ∈ tl_0_147, w ∈ lw_tbl := fun w h => tm_0_146 w (List.mem_cons_of_mem _ h)
theorem w_147 : Cond.methodLinkNest RX10 54 yX9_init RX10 ∈ lw_tbl := tm_0_147 _ List.mem_cons_self
theorem tm_0_148 : ∀ w ∈ tl_0_148, w ∈ lw_tbl := fun w h => tm_0_147 w (List.mem_cons_of_mem _ h)
theorem w_148 : Cond.instanceMethod yX9_init ∈ gTB := gTB_of (tm_0_148 _ List.mem_cons_self) rfl
theorem tm_0_149 : ∀ w ∈ tl_0_149, w ∈ lw_tbl := fun w h => tm_0_148 w (List.mem_cons_of_mem _ h)
theorem w_149 : Cond.code yX9_init cX9_init 3 (none) ∈ gTB := gTB_of (tm_0_149 _ List.mem_cons_self) rfl
theorem tm_0_150 : ∀ w ∈ tl_0_150, w ∈ lw_tbl := fun w h => tm_0_149 w (List.mem_cons_of_mem _ h)
theorem w_150 : Cond.methodLink RX9 3 ⟨"java/lang/Object", "<init>", "()V"⟩ ∈ gTB := gTB_of (tm_0_150 _ List.mem_cons_self) rfl
theorem tm_0_151 : ∀ w ∈ tl_0_151, w ∈ lw_tbl := fun w h => tm_0_150 w (List.mem_cons_of_mem _ h)
theorem w_151 : Cond.fieldLink "CrierOfBorough$World" 40 "CrierOfBorough$World" "texts" "[LCrierOfBorough$Text;" ∈ gTB := gTB_of (tm_0_151 _ List.mem_cons_self) rfl
theorem tm_0_152 : ∀ w ∈ tl_0_152, w ∈ lw_tbl := fun w h => tm_0_151 w (List.mem_cons_of_mem _ h)
theorem w_152 : Cond.fieldLink "CrierOfBorough$World" 44 "CrierOfBorough$World" "natures" "[LCrierOfBorough$Citizen;" ∈ gTB := gTB_of (tm_0_152 _ List.mem_cons_self) rfl
theorem tm_0_153 : ∀ w ∈ tl_0_153, w ∈ lw_tbl := fun w h => tm_0_152 w (List.mem_cons_of_mem _ h)
theorem w_153 : Cond.fieldLink "CrierOfBorough$World" 48 "CrierOfBorough$World" "hour" "I" ∈ gTB := gTB_of (tm_0_153 _ List.mem_cons_self) rfl
theorem tm_0_154 : ∀ w ∈ tl_0_154, w ∈ lw_tbl := fun w h => tm_0_153 w (List.mem_cons_of_mem _ h)
theorem w_154 : Cond.fieldLinkNest "CrierOfBorough" 97 "CrierOfBorough$World" "hour" "I" "CrierOfBorough" ∈ lw_tbl := tm_0_154 _ List.mem_cons_self
theorem tm_0_155 : ∀ w ∈ tl_0_155, w ∈ lw_tbl := fun w h => tm_0_154 w (List.mem_cons_of_mem _ h)
theorem w_155 : Cond.fieldLink "CrierOfBorough$World" 51 "CrierOfBorough$World" "corner" "I" ∈ gTB := gTB_of (tm_0_155 _ List.mem_cons_self) rfl
theorem tm_0_156 : ∀ w ∈ tl_0_156, w ∈ lw_tbl := fun w h => tm_0_155 w (List.mem_cons_of_mem _ h)
theorem w_156 : Cond.fieldLinkNest "CrierOfBorough" 122 "CrierOfBorough$World" "corner" "I" "CrierOfBorough" ∈ lw_tbl := tm_0_156 _ List.mem_cons_self
theorem tm_0_157 : ∀ w ∈ tl_0_157, w ∈ lw_tbl := fun w h => tm_0_156 w (List.mem_cons_of_mem _ h)
theorem w_157 : Cond.fieldLink "CrierOfBorough$World" 9 "CrierOfBorough$World" "news" "I" ∈ gTB := gTB_of (tm_0_157 _ List.mem_cons_self) rfl
theorem tm_0_158 : ∀ w ∈ tl_0_158, w ∈ lw_tbl := fun w h => tm_0_157 w (List.mem_cons_of_mem _ h)
theorem w_158 : Cond.fieldLinkNest "CrierOfBorough" 100 "CrierOfBorough$World" "news" "I" "CrierOfBorough" ∈ lw_tbl := tm_0_158 _ List.mem_cons_self
theorem tm_0_159 : ∀ w ∈ tl_0_159, w ∈ lw_tbl := fun w h => tm_0_158 w (List.mem_cons_of_mem _ h)
theorem w_159 : Cond.fieldLink "CrierOfBorough$World" 54 "CrierOfBorough$World" "law" "I" ∈ gTB := gTB_of (tm_0_159 _ List.mem_cons_self) rfl
theorem tm_0_160 : ∀ w ∈ tl_0_160, w ∈ lw_tbl := fun w h => tm_0_159 w (List.mem_cons_of_mem _ h)
theorem w_160 : Cond.fieldLinkNest "CrierOfBorough" 109 "CrierOfBorough$World" "law" "I" "CrierOfBorough" ∈ lw_tbl := tm_0_160 _ List.mem_cons_self
theorem tm_0_161 : ∀ w ∈ tl_0_161, w ∈ lw_tbl := fun w h => tm_0_160 w (List.mem_cons_of_mem _ h)
theorem w_161 : Cond.fieldLink "CrierOfBorough$World" 57 "CrierOfBorough$World" "people" "I" ∈ gTB := gTB_of (tm_0_161 _ List.mem_cons_self) rfl
theorem tm_0_162 : ∀ w ∈ tl_0_162, w ∈ lw_tbl := fun w h => tm_0_161 w (List.mem_cons_of_mem _ h)
theorem w_162 : Cond.fieldLinkNest "CrierOfBorough" 94 "CrierOfBorough$World" "people" "I" "CrierOfBorough" ∈ lw_tbl := tm_0_162 _ List.mem_cons_self
theorem tm_0_163 : ∀ w ∈ tl_0_163, w ∈ lw_tbl := fun w h => tm_0_162 w (List.mem_cons_of_mem _ h)
theorem w_163 : Cond.fieldLink "CrierOfBorough$World" 15 "CrierOfBorough$World" "evil" "[I" ∈ gTB := gTB_of (tm_0_163 _ List.mem_cons_self) rfl
theorem tm_0_164 : ∀ w ∈ tl_0_164, w ∈ lw_tbl := fun w h => tm_0_163 w (List.mem_cons_of_mem _ h)
theorem w_164 : Cond.fieldLinkNest "CrierOfBorough" 125 "CrierOfBorough$World" "evil" "[I" "CrierOfBorough" ∈ lw_tbl := tm_0_164 _ List.mem_cons_self
theorem tm_0_165 : ∀ w ∈ tl_0_165, w ∈ lw_tbl := fun w h => tm_0_164 w (List.mem_cons_of_mem _ h)
theorem w_165 : Cond.fieldLink "CrierOfBorough$World" 19 "CrierOfBorough$World" "at" "[I" ∈ gTB := gTB_of (tm_0_165 _ List.mem_cons_self) rfl
theorem tm_0_166 : ∀ w ∈ tl_0_166, w ∈ lw_tbl := fun w h => tm_0_165 w (List.mem_cons_of_mem _ h)
theorem w_166 : Cond.fieldLinkNest "CrierOfBorough" 184 "CrierOfBorough$World" "at" "[I" "CrierOfBorough" ∈ lw_tbl := tm_0_166 _ List.mem_cons_self
theorem tm_0_167 : ∀ w ∈ tl_0_167, w ∈ lw_tbl := fun w h => tm_0_166 w (List.mem_cons_of_mem _ h)
theorem w_167 : Cond.fieldLink "CrierOfBorough$World" 22 "CrierOfBorough$World" "wanted" "[I" ∈ gTB := gTB_of (tm_0_167 _ List.mem_cons_self) rfl
theorem tm_0_168 : ∀ w ∈ tl_0_168, w ∈ lw_tbl := fun w h => tm_0_167 w (List.mem_cons_of_mem _ h)
theorem w_168 : Cond.fieldLinkNest "CrierOfBorough" 273 "CrierOfBorough$World" "wanted" "[I" "CrierOfBorough" ∈ lw_tbl := tm_0_168 _ List.mem_cons_self
theorem tm_0_169 : ∀ w ∈ tl_0_169, w ∈ lw_tbl := fun w h => tm_0_168 w (List.mem_cons_of_mem _ h)
theorem w_169 : Cond.fieldLink "CrierOfBorough$World" 25 "CrierOfBorough$World" "known" "[I" ∈ gTB := gTB_of (tm_0_169 _ List.mem_cons_self) rfl
theorem tm_0_170 : ∀ w ∈ tl_0_170, w ∈ lw_tbl := fun w h => tm_0_169 w (List.mem_cons_of_mem _ h)
theorem w_170 : Cond.fieldLinkNest "CrierOfBorough" 187 "CrierOfBorough$World" "known" "[I" "CrierOfBorough" ∈ lw_tbl := tm_0_170 _ List.mem_cons_self
theorem tm_0_171 : ∀ w ∈ tl_0_171, w ∈ lw_tbl := fun w h => tm_0_170 w (List.mem_cons_of_mem _ h)
theorem w_171 : Cond.fieldLink "CrierOfBorough$World" 28 "CrierOfBorough$World" "window" "[I" ∈ gTB := gTB_of (tm_0_171 _ List.mem_cons_self) rfl
theorem tm_0_172 : ∀ w ∈ tl_0_172, w ∈ lw_tbl := fun w h => tm_0_171 w (List.mem_cons_of_mem _ h)
theorem w_172 : Cond.fieldLinkNest "CrierOfBorough" 193 "CrierOfBorough$World" "window" "[I" "CrierOfBorough" ∈ lw_tbl := tm_0_172 _ List.mem_cons_self
theorem tm_0_173 : ∀ w ∈ tl_0_173, w ∈ lw_tbl := fun w h => tm_0_172 w (List.mem_cons_of_mem _ h)
theorem w_173 : Cond.fieldLink "CrierOfBorough$World" 31 "CrierOfBorough$World" "kind" "[I" ∈ gTB := gTB_of (tm_0_173 _ List.mem_cons_self) rfl
theorem tm_0_174 : ∀ w ∈ tl_0_174, w ∈ lw_tbl := fun w h => tm_0_173 w (List.mem_cons_of_mem _ h)
theorem w_174 : Cond.fieldLinkNest "CrierOfBorough" 219 "CrierOfBorough$World" "kind" "[I" "CrierOfBorough" ∈ lw_tbl := tm_0_174 _ List.mem_cons_self
theorem tm_0_175 : ∀ w ∈ tl_0_175, w ∈ lw_tbl := fun w h => tm_0_174 w (List.mem_cons_of_mem _ h)
theorem w_175 : Cond.fieldLink "CrierOfBorough$World" 34 "CrierOfBorough$World" "more" "[I" ∈ gTB := gTB_of (tm_0_175 _ List.mem_cons_self) rfl
theorem tm_0_176 : ∀ w ∈ tl_0_176, w ∈ lw_tbl := fun w h => tm_0_175 w (List.mem_cons_of_mem _ h)
theorem w_176 : Cond.fieldLinkNest "CrierOfBorough" 222 "CrierOfBorough$World" "more" "[I" "CrierOfBorough" ∈ lw_tbl := tm_0_176 _ List.mem_cons_self
theorem tm_0_177 : ∀ w ∈ tl_0_177, w ∈ lw_tbl := fun w h => tm_0_176 w (List.mem_cons_of_mem _ h)
theorem w_177 : Cond.fieldLink "CrierOfBorough$World" 37 "CrierOfBorough$World" "names" "[I" ∈ gTB := gTB_of (tm_0_177 _ List.mem_cons_self) rfl
theorem tm_0_178 : ∀ w ∈ tl_0_178, w ∈ lw_tbl := fun w h => tm_0_177 w (List.mem_cons_of_mem _ h)
theorem w_178 : Cond.laysFinal "CrierOfBorough$World" "CrierOfBorough$World" "texts" "[LCrierOfBorough$Text;" ∈ gTB := gTB_of (tm_0_178 _ List.mem_cons_self) rfl
theorem tm_0_179 : ∀ w ∈ tl_0_179, w ∈ lw_tbl := fun w h => tm_0_178 w (List.mem_cons_of_mem _ h)
theorem tm_0_180 : ∀ w ∈ tl_0_180, w ∈ lw_tbl := fun w h => tm_0_179 w (List.mem_cons_of_mem _ h)
theorem w_180 : Cond.laysFinal "CrierOfBorough$World" "CrierOfBorough$World" "natures" "[LCrierOfBorough$Citizen;" ∈ gTB := gTB_of (tm_0_180 _ List.mem_cons_self) rfl
theorem tm_0_181 : ∀ w ∈ tl_0_181, w ∈ lw_tbl := fun w h => tm_0_180 w (List.mem_cons_of_mem _ h)
theorem tm_0_182 : ∀ w ∈ tl_0_182, w ∈ lw_tbl := fun w h => tm_0_181 w (List.mem_cons_of_mem _ h)
theorem w_182 : Cond.lays "CrierOfBorough$World" "CrierOfBorough$World" "hour" "I" ∈ gTB := gTB_of (tm_0_182 _ List.mem_cons_self) rfl
theorem tm_0_183 : ∀ w ∈ tl_0_183, w ∈ lw_tbl := fun w h => tm_0_182 w (List.mem_cons_of_mem _ h)
theorem tm_0_184 : ∀ w ∈ tl_0_184, w ∈ lw_tbl := fun w h => tm_0_183 w (List.mem_cons_of_mem _ h)
theorem w_184 : Cond.lays "CrierOfBorough$World" "CrierOfBorough$World" "corner" "I" ∈ gTB := gTB_of (tm_0_184 _ List.mem_cons_self) rfl
theorem tm_0_185 : ∀ w ∈ tl_0_185, w ∈ lw_tbl := fun w h => tm_0_184 w (List.mem_cons_of_mem _ h)
theorem tm_0_186 : ∀ w ∈ tl_0_186, w ∈ lw_tbl := fun w h => tm_0_185 w (List.mem_cons_of_mem _ h)
theorem w_186 : Cond.lays "CrierOfBorough$World" "CrierOfBorough$World" "news" "I" ∈ gTB := gTB_of (tm_0_186 _ List.mem_cons_self) rfl
theorem tm_0_187 : ∀ w ∈ tl_0_187, w ∈ lw_tbl := fun w h => tm_0_186 w (List.mem_cons_of_mem _ h)
theorem tm_0_188 : ∀ w ∈ tl_0_188, w ∈ lw_tbl := fun w h => tm_0_187 w (List.mem_cons_of_mem _ h)
theorem w_188 : Cond.lays "CrierOfBorough$World" "CrierOfBorough$World" "law" "I" ∈ gTB := gTB_of (tm_0_188 _ List.mem_cons_self) rfl
theorem tm_0_189 : ∀ w ∈ tl_0_189, w ∈ lw_tbl := fun w h => tm_0_188 w (List.mem_cons_of_mem _ h)
theorem tm_0_190 : ∀ w ∈ tl_0_190, w ∈ lw_tbl := fun w h => tm_0_189 w (List.mem_cons_of_mem _ h)
theorem w_190 : Cond.lays "CrierOfBorough$World" "CrierOfBorough$World" "people" "I" ∈ gTB := gTB_of (tm_0_190 _ List.mem_cons_self) rfl
theorem tm_0_191 : ∀ w ∈ tl_0_191, w ∈ lw_tbl := fun w h => tm_0_190 w (List.mem_cons_of_mem _ h)
theorem tm_0_192 : ∀ w ∈ tl_0_192, w ∈ lw_tbl := fun w h => tm_0_191 w (List.mem_cons_of_mem _ h)
theorem w_192 : Cond.laysFinal "CrierOfBorough$World" "CrierOfBorough$World" "evil" "[I" ∈ gTB := gTB_of (tm_0_192 _ List.mem_cons_self) rfl
theorem tm_0_193 : ∀ w ∈ tl_0_193, w ∈ lw_tbl := fun w h => tm_0_192 w (List.mem_cons_of_mem _ h)
theorem tm_0_194 : ∀ w ∈ tl_0_194, w ∈ lw_tbl := fun w h => tm_0_193 w (List.mem_cons_of_mem _ h)
theorem w_194 : Cond.laysFinal "CrierOfBorough$World" "CrierOfBorough$World" "at" "[I" ∈ gTB := gTB_of (tm_0_194 _ List.mem_cons_self) rfl
theorem tm_0_195 : ∀ w ∈ tl_0_195, w ∈ lw_tbl := fun w h => tm_0_194 w (List.mem_cons_of_mem _ h)
theorem tm_0_196 : ∀ w ∈ tl_0_196, w ∈ lw_tbl := fun w h => tm_0_195 w (List.mem_cons_of_mem _ h)
theorem w_196 : Cond.laysFinal "CrierOfBorough$World" "CrierOfBorough$World" "wanted" "[I" ∈ gTB := gTB_of (tm_0_196 _ List.mem_cons_self) rfl
theorem tm_0_197 : ∀ w ∈ tl_0_197, w ∈ lw_tbl := fun w h => tm_0_196 w (List.mem_cons_of_mem _ h)
theorem tm_0_198 : ∀ w ∈ tl_0_198, w ∈ lw_tbl := fun w h => tm_0_197 w (List.mem_cons_of_mem _ h)
theorem w_198 : Cond.laysFinal "CrierOfBorough$World" "CrierOfBorough$World" "known" "[I" ∈ gTB := gTB_of (tm_0_198 _ List.mem_cons_self) rfl
theorem tm_0_199 : ∀ w ∈ tl_0_199, w ∈ lw_tbl := fun w h => tm_0_198 w (List.mem_cons_of_mem _ h)
theorem tm_0_200 : ∀ w ∈ tl_0_200, w ∈ lw_tbl := fun w h => tm_0_199 w (List.mem_cons_of_mem _ h)
theorem w_200 : Cond.laysFinal "CrierOfBorough$World" "CrierOfBorough$World" "window" "[I" ∈ gTB := gTB_of (tm_0_200 _ List.mem_cons_self) rfl
theorem tm_0_201 : ∀ w ∈ tl_0_201, w ∈ lw_tbl := fun w h => tm_0_200 w (List.mem_cons_of_mem _ h)
theorem tm_0_202 : ∀ w ∈ tl_0_202, w ∈ lw_tbl := fun w h => tm_0_201 w (List.mem_cons_of_mem _ h)
theorem w_202 : Cond.laysFinal "CrierOfBorough$World" "CrierOfBorough$World" "kind" "[I" ∈ gTB := gTB_of (tm_0_202 _ List.mem_cons_self) rfl
theorem tm_0_203 : ∀ w ∈ tl_0_203, w ∈ lw_tbl := fun w h => tm_0_202 w (List.mem_cons_of_mem _ h)
theorem tm_0_204 : ∀ w ∈ tl_0_204, w ∈ lw_tbl := fun w h => tm_0_203 w (List.mem_cons_of_mem _ h)
theorem w_204 : Cond.laysFinal "CrierOfBorough$World" "CrierOfBorough$World" "more" "[I" ∈ gTB := gTB_of (tm_0_204 _ List.mem_cons_self) rfl
theorem tm_0_205 : ∀ w ∈ tl_0_205, w ∈ lw_tbl := fun w h => tm_0_204 w (List.mem_cons_of_mem _ h)
theorem tm_0_206 : ∀ w ∈ tl_0_206, w ∈ lw_tbl := fun w h => tm_0_205 w (List.mem_cons_of_mem _ h)
theorem w_206 : Cond.laysFinal "CrierOfBorough$World" "CrierOfBorough$World" "names" "[I" ∈ gTB := gTB_of (tm_0_206 _ List.mem_cons_self) rfl
theorem tm_0_207 : ∀ w ∈ tl_0_207, w ∈ lw_tbl := fun w h => tm_0_206 w (List.mem_cons_of_mem _ h)
theorem tm_0_208 : ∀ w ∈ tl_0_208, w ∈ lw_tbl := fun w h => tm_0_207 w (List.mem_cons_of_mem _ h)
theorem w_208 : Cond.superclass RX9 "java/lang/Object" ∈ gTB := gTB_of (tm_0_208 _ List.mem_cons_self) rfl
theorem tm_0_209 : ∀ w ∈ tl_0_209, w ∈ lw_tbl := fun w h => tm_0_208 w (List.mem_cons_of_mem _ h)
theorem w_209 : Cond.stringRef "CrierOfBorough" 67 "curious 50 ; dreads bad ; goes 0 ;" ∈ lw_tbl := tm_0_209 _ List.mem_cons_self
theorem tm_0_210 : ∀ w ∈ tl_0_210, w ∈ lw_tbl := fun w h => tm_0_209 w (List.mem_cons_of_mem _ h)
theorem w_210 : Cond.methodLink RX10 69 yJ0_length_8abf5 ∈ gTB := gTB_of (tm_0_210 _ List.mem_cons_self) rfl
theorem tm_0_211 : ∀ w ∈ tl_0_211, w ∈ lw_tbl := fun w h => tm_0_210 w (List.mem_cons_of_mem _ h)
theorem w_211 : Cond.instanceMethod yJ0_length_8abf5 ∈ gTB := gTB_of (tm_0_211 _ List.mem_cons_self) rfl
theorem tm_0_212 : ∀ w ∈ tl_0_212, w ∈ lw_tbl := fun w h => tm_0_211 w (List.mem_cons_of_mem _ h)
theorem w_212 : Cond.selects RJ0 yJ0_length_8abf5 yJ0_length_8abf5 ∈ gTB := gTB_of (tm_0_212 _ List.mem_cons_self) rfl
theorem tm_0_213 : ∀ w ∈ tl_0_213, w ∈ lw_tbl := fun w h => tm_0_212 w (List.mem_cons_of_mem _ h)
theorem w_213 : Cond.code yJ0_length_8abf5 cJ0_length_8abf5 1 (some (.int)) ∈ gTB := gTB_of (tm_0_213 _ List.mem_cons_self) rfl
theorem tm_0_214 : ∀ w ∈ tl_0_214, w ∈ lw_tbl := fun w h => tm_0_213 w (List.mem_cons_of_mem _ h)
theorem w_214 : Cond.methodLink RJ0 335 yJ0_coder_7d493 ∈ gTB := gTB_of (tm_0_214 _ List.mem_cons_self) rfl
theorem tm_0_215 : ∀ w ∈ tl_0_215, w ∈ lw_tbl := fun w h => tm_0_214 w (List.mem_cons_of_mem _ h)
theorem w_215 : Cond.instanceMethod yJ0_coder_7d493 ∈ gTB := gTB_of (tm_0_215 _ List.mem_cons_self) rfl
theorem tm_0_216 : ∀ w ∈ tl_0_216, w ∈ lw_tbl := fun w h => tm_0_215 w (List.mem_cons_of_mem _ h)
theorem w_216 : Cond.selects RJ0 yJ0_coder_7d493 yJ0_coder_7d493 ∈ gTB := gTB_of (tm_0_216 _ List.mem_cons_self) rfl
theorem tm_0_217 : ∀ w ∈ tl_0_217, w ∈ lw_tbl := fun w h => tm_0_216 w (List.mem_cons_of_mem _ h)
theorem w_217 : Cond.code yJ0_coder_7d493 cJ0_coder_7d493 1 (some (.byte)) ∈ gTB := gTB_of (tm_0_217 _ List.mem_cons_self) rfl
theorem tm_0_218 : ∀ w ∈ tl_0_218, w ∈ lw_tbl := fun w h => tm_0_217 w (List.mem_cons_of_mem _ h)
theorem w_218 : Cond.fieldLink "java/lang/String" 38 "java/lang/String" "COMPACT_STRINGS" "Z" ∈ gTB := gTB_of (tm_0_218 _ List.mem_cons_self) rfl
theorem tm_0_219 : ∀ w ∈ tl_0_219, w ∈ lw_tbl := fun w h => tm_0_218 w (List.mem_cons_of_mem _ h)
theorem w_219 : Cond.laysStatic "java/lang/String" "COMPACT_STRINGS" "Z" ∈ lw_tbl := tm_0_219 _ List.mem_cons_self
theorem tm_0_220 : ∀ w ∈ tl_0_220, w ∈ lw_tbl := fun w h => tm_0_219 w (List.mem_cons_of_mem _ h)
theorem w_220 : Cond.methodLink RX10 75 yJ0_charAt_5068e ∈ gTB := gTB_of (tm_0_220 _ List.mem_cons_self) rfl
theorem tm_0_221 : ∀ w ∈ tl_0_221, w ∈ lw_tbl := fun w h => tm_0_220 w (List.mem_cons_of_mem _ h)
theorem w_221 : Cond.instanceMethod yJ0_charAt_5068e ∈ gTB := gTB_of (tm_0_221 _ List.mem_cons_self) rfl
theorem tm_0_222 : ∀ w ∈ tl_0_222, w ∈ lw_tbl := fun w h => tm_0_221 w (List.mem_cons_of_mem _ h)
theorem w_222 : Cond.selects RJ0 yJ0_charAt_5068e yJ0_charAt_5068e ∈ gTB := gTB_of (tm_0_222 _ List.mem_cons_self) rfl
theorem tm_0_223 : ∀ w ∈ tl_0_223, w ∈ lw_tbl := fun w h => tm_0_222 w (List.mem_cons_of_mem _ h)
theorem w_223 : Cond.code yJ0_charAt_5068e cJ0_charAt_5068e 2 (some (.char)) ∈ gTB := gTB_of (tm_0_223 _ List.mem_cons_self) rfl
theorem tm_0_224 : ∀ w ∈ tl_0_224, w ∈ lw_tbl := fun w h => tm_0_223 w (List.mem_cons_of_mem _ h)
theorem w_224 : Cond.methodLink RJ0 492 yJ0_isLatin1_aae02 ∈ gTB := gTB_of (tm_0_224 _ List.mem_cons_self) rfl
theorem tm_0_225 : ∀ w ∈ tl_0_225, w ∈ lw_tbl := fun w h => tm_0_224 w (List.mem_cons_of_mem _ h)
theorem w_225 : Cond.instanceMethod yJ0_isLatin1_aae02 ∈ gTB := gTB_of (tm_0_225 _ List.mem_cons_self) rfl
theorem tm_0_226 : ∀ w ∈ tl_0_226, w ∈ lw_tbl := fun w h => tm_0_225 w (List.mem_cons_of_mem _ h)
theorem w_226 : Cond.selects RJ0 yJ0_isLatin1_aae02 yJ0_isLatin1_aae02 ∈ gTB := gTB_of (tm_0_226 _ List.mem_cons_self) rfl
theorem tm_0_227 : ∀ w ∈ tl_0_227, w ∈ lw_tbl := fun w h => tm_0_226 w (List.mem_cons_of_mem _ h)
theorem w_227 : Cond.code yJ0_isLatin1_aae02 cJ0_isLatin1_aae02 1 (some (.boolean)) ∈ gTB := gTB_of (tm_0_227 _ List.mem_cons_self) rfl
theorem tm_0_228 : ∀ w ∈ tl_0_228, w ∈ lw_tbl := fun w h => tm_0_227 w (List.mem_cons_of_mem _ h)
theorem w_228 : Cond.methodLink RJ0 495 yJ1_charAt_3b067 ∈ gTB := gTB_of (tm_0_228 _ List.mem_cons_self) rfl
theorem tm_0_229 : ∀ w ∈ tl_0_229, w ∈ lw_tbl := fun w h => tm_0_228 w (List.mem_cons_of_mem _ h)
theorem w_229 : Cond.static yJ1_charAt_3b067 ∈ gTB := gTB_of (tm_0_229 _ List.mem_cons_self) rfl
theorem tm_0_230 : ∀ w ∈ tl_0_230, w ∈ lw_tbl := fun w h => tm_0_229 w (List.mem_cons_of_mem _ h)
theorem w_230 : Cond.code yJ1_charAt_3b067 cJ1_charAt_3b067 2 (some (.char)) ∈ gTB := gTB_of (tm_0_230 _ List.mem_cons_self) rfl
theorem tm_0_231 : ∀ w ∈ tl_0_231, w ∈ lw_tbl := fun w h => tm_0_230 w (List.mem_cons_of_mem _ h)
theorem w_231 : Cond.methodLink RJ1 9 yJ0_checkIndex_df160 ∈ gTB := gTB_of (tm_0_231 _ List.mem_cons_self) rfl
theorem tm_0_232 : ∀ w ∈ tl_0_232, w ∈ lw_tbl := fun w h => tm_0_231 w (List.mem_cons_of_mem _ h)
theorem w_232 : Cond.static yJ0_checkIndex_df160 ∈ gTB := gTB_of (tm_0_232 _ List.mem_cons_self) rfl
theorem tm_0_233 : ∀ w ∈ tl_0_233, w ∈ lw_tbl := fun w h => tm_0_232 w (List.mem_cons_of_mem _ h)
theorem w_233 : Cond.code yJ0_checkIndex_df160 cJ0_checkIndex_df160 2 (none) ∈ gTB := gTB_of (tm_0_233 _ List.mem_cons_self) rfl
theorem tm_0_234 : ∀ w ∈ tl_0_234, w ∈ lw_tbl := fun w h => tm_0_233 w (List.mem_cons_of_mem _ h)
theorem w_234 : Cond.fieldLink "java/lang/String" 1053 "jdk/internal/util/Preconditions" "SIOOBE_FORMATTER" "Ljava/util/function/BiFunction;" ∈ gTB := gTB_of (tm_0_234 _ List.mem_cons_self) rfl
theorem tm_0_235 : ∀ w ∈ tl_0_235, w ∈ lw_tbl := fun w h => tm_0_234 w (List.mem_cons_of_mem _ h)
theorem w_235 : Cond.laysStatic "jdk/internal/util/Preconditions" "SIOOBE_FORMATTER" "Ljava/util/function/BiFunction;" ∈ lw_tbl := tm_0_235 _ List.mem_cons_self
theorem tm_0_236 : ∀ w ∈ tl_0_236, w ∈ lw_tbl := fun w h => tm_0_235 w (List.mem_cons_of_mem _ h)
theorem w_236 : Cond.methodLink RJ0 1059 yJ3_checkIndex_8e157 ∈ gTB := gTB_of (tm_0_236 _ List.mem_cons_self) rfl
theorem tm_0_237 : ∀ w ∈ tl_0_237, w ∈ lw_tbl := fun w h => tm_0_236 w (List.mem_cons_of_mem _ h)
theorem w_237 : Cond.static yJ3_checkIndex_8e157 ∈ gTB := gTB_of (tm_0_237 _ List.mem_cons_self) rfl
theorem tm_0_238 : ∀ w ∈ tl_0_238, w ∈ lw_tbl := fun w h => tm_0_237 w (List.mem_cons_of_mem _ h)
theorem w_238 : Cond.code yJ3_checkIndex_8e157 cJ3_checkIndex_8e157 3 (some (.int)) ∈ gTB := gTB_of (tm_0_238 _ List.mem_cons_self) rfl
theorem tm_0_239 : ∀ w ∈ tl_0_239, w ∈ lw_tbl := fun w h => tm_0_238 w (List.mem_cons_of_mem _ h)
theorem w_239 : Cond.methodLink RJ0 498 yJ2_charAt_3b067 ∈ gTB := gTB_of (tm_0_239 _ List.mem_cons_self) rfl
def tl_1_480 : List Cond := []
def tl_1_479 : List Cond := (Cond.static yX10_isIn) :: tl_1_480
def tl_1_478 : List Cond := ((Jvm.Cond.methodLinkNest "CrierOfBorough$World" (82 : Nat) ({ cls := "CrierOfBorough", name := "isIn", desc := "(II)Z" } : Jvm.MethodName) "CrierOfBorough")) :: tl_1_479
def tl_1_477 : List Cond := (Cond.methodLink RX9 76 yJ6_bitCount_0f7a4) :: tl_1_478
def tl_1_476 : List Cond := (Cond.code yX9_name cX9_name 3 (none)) :: tl_1_477
def tl_1_475 : List Cond := (Cond.instanceMethod yX9_name) :: tl_1_476
def tl_1_474 : List Cond := ((Jvm.Cond.privateMethod ({ cls := "CrierOfBorough$World", name := "name", desc := "(II)V" } : Jvm.MethodName))) :: tl_1_475
def tl_1_473 : List Cond := (Cond.methodLink RX9 66 yX9_name) :: tl_1_474
def tl_1_472 : List Cond := (Cond.code yX9_wishedBy cX9_wishedBy 8 (some (.int))) :: tl_1_473
def tl_1_471 : List Cond := (Cond.selects RX9 yX9_wishedBy yX9_wishedBy) :: tl_1_472
def tl_1_470 : List Cond := (Cond.instanceMethod yX9_wishedBy) :: tl_1_471
def tl_1_469 : List Cond := (Cond.methodLink RX9 112 yX9_wishedBy) :: tl_1_470
def tl_1_468 : List Cond := (Cond.code yX0_hears cX0_hears 4 (some (.boolean))) :: tl_1_469
def tl_1_467 : List Cond := (Cond.code yX8_hears cX8_hears 4 (some (.boolean))) :: tl_1_468
def tl_1_466 : List Cond := (Cond.instanceMethod yX8_hears) :: tl_1_467
def tl_1_465 : List Cond := (Cond.selects RX8 yX0_hears yX8_hears) :: tl_1_466
def tl_1_464 : List Cond := (Cond.selects RX5 yX0_hears yX0_hears) :: tl_1_465
def tl_1_463 : List Cond := (Cond.selects RX3 yX0_hears yX0_hears) :: tl_1_464
def tl_1_462 : List Cond := (Cond.selects RX2 yX0_hears yX1_hears) :: tl_1_463
def tl_1_461 : List Cond := (Cond.code yX1_hears cX1_hears 4 (some (.boolean))) :: tl_1_462
def tl_1_460 : List Cond := (Cond.instanceMethod yX1_hears) :: tl_1_461
def tl_1_459 : List Cond := (Cond.selects RX1 yX0_hears yX1_hears) :: tl_1_460
def tl_1_458 : List Cond := (Cond.sameMethod "CrierOfBorough$Citizen" "CrierOfBorough$Citizen" "hears" "(ZII)Z") :: tl_1_459
def tl_1_457 : List Cond := (Cond.selects RX0 yX0_hears yX0_hears) :: tl_1_458
def tl_1_456 : List Cond := (Cond.instanceMethod yX0_hears) :: tl_1_457
def tl_1_455 : List Cond := (Cond.methodLink RX9 96 yX0_hears) :: tl_1_456
def tl_1_454 : List Cond := (Cond.code yX9_nature cX9_nature 2 (some (.object "CrierOfBorough$Citizen"))) :: tl_1_455
def tl_1_453 : List Cond := (Cond.selects RX9 yX9_nature yX9_nature) :: tl_1_454
def tl_1_452 : List Cond := (Cond.instanceMethod yX9_nature) :: tl_1_453
def tl_1_451 : List Cond := (Cond.methodLink RX9 86 yX9_nature) :: tl_1_452
def tl_1_450 : List Cond := (Cond.code yX9_listens cX9_listens 2 (some (.boolean))) :: tl_1_451
def tl_1_449 : List Cond := (Cond.selects RX9 yX9_listens yX9_listens) :: tl_1_450
def tl_1_448 : List Cond := (Cond.instanceMethod yX9_listens) :: tl_1_449
def tl_1_447 : List Cond := (Cond.methodLink RX9 108 yX9_listens) :: tl_1_448
def tl_1_446 : List Cond := (Cond.code yX9_mayAt cX9_mayAt 5 (some (.int))) :: tl_1_447
def tl_1_445 : List Cond := (Cond.selects RX9 yX9_mayAt yX9_mayAt) :: tl_1_446
def tl_1_444 : List Cond := (Cond.instanceMethod yX9_mayAt) :: tl_1_445
def tl_1_443 : List Cond := (Cond.methodLink RX10 128 yX9_mayAt) :: tl_1_444
def tl_1_442 : List Cond := (Cond.code yX10_crier cX10_crier 2 (some (.int))) :: tl_1_443
def tl_1_441 : List Cond := (Cond.selects RX10 yX10_crier yX10_crier) :: tl_1_442
def tl_1_440 : List Cond := (Cond.instanceMethod yX10_crier) :: tl_1_441
def tl_1_439 : List Cond := (Cond.methodLink RL 23 yX10_crier) :: tl_1_440
def tl_1_438 : List Cond := (Cond.code yX10_ofBorough cX10_ofBorough 2 (some (.int))) :: tl_1_439
def tl_1_437 : List Cond := (Cond.instanceMethod yX10_ofBorough) :: tl_1_438
def tl_1_436 : List Cond := ((Jvm.Cond.privateMethod ({ cls := "CrierOfBorough", name := "ofBorough", desc := "(I)I" } : Jvm.MethodName))) :: tl_1_437
def tl_1_435 : List Cond := (Cond.methodLink RX10 119 yX10_ofBorough) :: tl_1_436
def tl_1_434 : List Cond := (Cond.code yX10_mostOfBorough cX10_mostOfBorough 1 (some (.int))) :: tl_1_435
def tl_1_433 : List Cond := (Cond.static yX10_mostOfBorough) :: tl_1_434
def tl_1_432 : List Cond := (Cond.methodLink RX10 116 yX10_mostOfBorough) :: tl_1_433
def tl_1_431 : List Cond := (Cond.methodLink RX10 112 yX10_within) :: tl_1_432
def tl_1_430 : List Cond := (Cond.code yX10_borough cX10_borough 4 (some (.int))) :: tl_1_431
def tl_1_429 : List Cond := (Cond.selects RX10 yX10_borough yX10_borough) :: tl_1_430
def tl_1_428 : List Cond := (Cond.instanceMethod yX10_borough) :: tl_1_429
def tl_1_427 : List Cond := (Cond.methodLink RL 18 yX10_borough) :: tl_1_428
def tl_1_426 : List Cond := (Cond.constant RJ6 267 (252645135 : Int32)) :: tl_1_427
def tl_1_425 : List Cond := (Cond.constant RJ6 266 (858993459 : Int32)) :: tl_1_426
def tl_1_424 : List Cond := (Cond.constant RJ6 265 (1431655765 : Int32)) :: tl_1_425
def tl_1_423 : List Cond := (Cond.code yJ6_bitCount_0f7a4 cJ6_bitCount_0f7a4 1 (some (.int))) :: tl_1_424
def tl_1_422 : List Cond := (Cond.static yJ6_bitCount_0f7a4) :: tl_1_423
def tl_1_421 : List Cond := (Cond.methodLink RX10 103 yJ6_bitCount_0f7a4) :: tl_1_422
def tl_1_420 : List Cond := (Cond.code yX10_count cX10_count 2 (some (.int))) :: tl_1_421
def tl_1_419 : List Cond := (Cond.selects RX10 yX10_count yX10_count) :: tl_1_420
def tl_1_418 : List Cond := (Cond.instanceMethod yX10_count) :: tl_1_419
def tl_1_417 : List Cond := (Cond.methodLink RL 13 yX10_count) :: tl_1_418
def tl_1_416 : List Cond := ((Jvm.Cond.arrayClass Jvm.ClassFile.FieldType.byte)) :: tl_1_417
def tl_1_415 : List Cond := (Cond.superclass RX10 "java/lang/Object") :: tl_1_416
def tl_1_414 : List Cond := ((Jvm.Cond.soleField "CrierOfBorough" "textCount")) :: tl_1_415
def tl_1_413 : List Cond := (Cond.lays "CrierOfBorough" "CrierOfBorough" "textCount" "I") :: tl_1_414
def tl_1_412 : List Cond := ((Jvm.Cond.soleField "CrierOfBorough" "isKept")) :: tl_1_413
def tl_1_411 : List Cond := (Cond.lays "CrierOfBorough" "CrierOfBorough" "isKept" "Z") :: tl_1_412
def tl_1_410 : List Cond := ((Jvm.Cond.soleField "CrierOfBorough" "mayAround")) :: tl_1_411
def tl_1_409 : List Cond := (Cond.laysFinal "CrierOfBorough" "CrierOfBorough" "mayAround" "[I") :: tl_1_410
def tl_1_408 : List Cond := ((Jvm.Cond.soleField "CrierOfBorough" "kept")) :: tl_1_409
def tl_1_407 : List Cond := (Cond.laysFinal "CrierOfBorough" "CrierOfBorough" "kept" "LCrierOfBorough$World;") :: tl_1_408
def tl_1_406 : List Cond := ((Jvm.Cond.soleField "CrierOfBorough" "thought")) :: tl_1_407
def tl_1_405 : List Cond := (Cond.laysFinal "CrierOfBorough" "CrierOfBorough" "thought" "LCrierOfBorough$World;") :: tl_1_406
def tl_1_404 : List Cond := ((Jvm.Cond.soleField "CrierOfBorough" "now")) :: tl_1_405
def tl_1_403 : List Cond := (Cond.laysFinal "CrierOfBorough" "CrierOfBorough" "now" "LCrierOfBorough$World;") :: tl_1_404
def tl_1_402 : List Cond := ((Jvm.Cond.soleField "CrierOfBorough" "tape")) :: tl_1_403
def tl_1_401 : List Cond := (Cond.laysFinal "CrierOfBorough" "CrierOfBorough" "tape" "LCrierOfBorough$Tape;") :: tl_1_402
def tl_1_400 : List Cond := ((Jvm.Cond.soleField "CrierOfBorough" "sheets")) :: tl_1_401
def tl_1_399 : List Cond := (Cond.laysFinal "CrierOfBorough" "CrierOfBorough" "sheets" "[LCrierOfBorough$Sheet;") :: tl_1_400
def tl_1_398 : List Cond := ((Jvm.Cond.soleField "CrierOfBorough" "texts")) :: tl_1_399
def tl_1_397 : List Cond := (Cond.laysFinal "CrierOfBorough" "CrierOfBorough" "texts" "[LCrierOfBorough$Text;") :: tl_1_398
def tl_1_396 : List Cond := (Cond.fieldLink "CrierOfBorough" 91 "CrierOfBorough" "textCount" "I") :: tl_1_397
def tl_1_395 : List Cond := (Cond.fieldLink "CrierOfBorough" 235 "CrierOfBorough" "isKept" "Z") :: tl_1_396
def tl_1_394 : List Cond := (Cond.fieldLink "CrierOfBorough" 28 "CrierOfBorough" "mayAround" "[I") :: tl_1_395
def tl_1_393 : List Cond := (Cond.fieldLink "CrierOfBorough" 64 "CrierOfBorough" "kept" "LCrierOfBorough$World;") :: tl_1_394
def tl_1_392 : List Cond := (Cond.fieldLink "CrierOfBorough" 61 "CrierOfBorough" "thought" "LCrierOfBorough$World;") :: tl_1_393
def tl_1_391 : List Cond := (Cond.fieldLink "CrierOfBorough" 57 "CrierOfBorough" "now" "LCrierOfBorough$World;") :: tl_1_392
def tl_1_390 : List Cond := (Cond.fieldLink "CrierOfBorough" 24 "CrierOfBorough" "tape" "LCrierOfBorough$Tape;") :: tl_1_391
def tl_1_389 : List Cond := (Cond.fieldLink "CrierOfBorough" 17 "CrierOfBorough" "sheets" "[LCrierOfBorough$Sheet;") :: tl_1_390
def tl_1_388 : List Cond := (Cond.fieldLink "CrierOfBorough" 11 "CrierOfBorough" "texts" "[LCrierOfBorough$Text;") :: tl_1_389
def tl_1_387 : List Cond := (Cond.code yX6_readOne cX6_readOne 2 (some (.boolean))) :: tl_1_388
def tl_1_386 : List Cond := (Cond.instanceMethod yX6_readOne) :: tl_1_387
def tl_1_385 : List Cond := ((Jvm.Cond.privateMethod ({ cls := "CrierOfBorough$Tape", name := "readOne", desc := "(I)Z" } : Jvm.MethodName))) :: tl_1_386
def tl_1_384 : List Cond := (Cond.methodLink RX6 61 yX6_readOne) :: tl_1_385
def tl_1_383 : List Cond := (Cond.code yX6_readTerm cX6_readTerm 3 (some (.boolean))) :: tl_1_384
def tl_1_382 : List Cond := (Cond.instanceMethod yX6_readTerm) :: tl_1_383
def tl_1_381 : List Cond := ((Jvm.Cond.privateMethod ({ cls := "CrierOfBorough$Tape", name := "readTerm", desc := "(I)Z" } : Jvm.MethodName))) :: tl_1_382
def tl_1_380 : List Cond := (Cond.methodLink RX6 58 yX6_readTerm) :: tl_1_381
def tl_1_379 : List Cond := (Cond.code yX6_readSum cX6_readSum 4 (some (.boolean))) :: tl_1_380
def tl_1_378 : List Cond := (Cond.instanceMethod yX6_readSum) :: tl_1_379
def tl_1_377 : List Cond := ((Jvm.Cond.privateMethod ({ cls := "CrierOfBorough$Tape", name := "readSum", desc := "(I)Z" } : Jvm.MethodName))) :: tl_1_378
def tl_1_376 : List Cond := (Cond.methodLink RX6 55 yX6_readSum) :: tl_1_377
def tl_1_375 : List Cond := (Cond.code yX7_add cX7_add 2 (none)) :: tl_1_376
def tl_1_374 : List Cond := (Cond.selects RX7 yX7_add yX7_add) :: tl_1_375
def tl_1_373 : List Cond := (Cond.instanceMethod yX7_add) :: tl_1_374
def tl_1_372 : List Cond := (Cond.methodLink RX6 48 yX7_add) :: tl_1_373
def tl_1_371 : List Cond := (Cond.code yX6_readNot cX6_readNot 3 (some (.boolean))) :: tl_1_372
def tl_1_370 : List Cond := (Cond.instanceMethod yX6_readNot) :: tl_1_371
def tl_1_369 : List Cond := ((Jvm.Cond.privateMethod ({ cls := "CrierOfBorough$Tape", name := "readNot", desc := "(I)Z" } : Jvm.MethodName))) :: tl_1_370
def tl_1_368 : List Cond := (Cond.methodLink RX6 52 yX6_readNot) :: tl_1_369
def tl_1_367 : List Cond := (Cond.code yX6_readBoth cX6_readBoth 3 (some (.boolean))) :: tl_1_368
def tl_1_366 : List Cond := (Cond.instanceMethod yX6_readBoth) :: tl_1_367
def tl_1_365 : List Cond := ((Jvm.Cond.privateMethod ({ cls := "CrierOfBorough$Tape", name := "readBoth", desc := "(I)Z" } : Jvm.MethodName))) :: tl_1_366
def tl_1_364 : List Cond := (Cond.methodLink RX6 45 yX6_readBoth) :: tl_1_365
def tl_1_363 : List Cond := (Cond.code yX6_readEither cX6_readEither 3 (some (.boolean))) :: tl_1_364
def tl_1_362 : List Cond := (Cond.instanceMethod yX6_readEither) :: tl_1_363
def tl_1_361 : List Cond := ((Jvm.Cond.privateMethod ({ cls := "CrierOfBorough$Tape", name := "readEither", desc := "(I)Z" } : Jvm.MethodName))) :: tl_1_362
def tl_1_360 : List Cond := (Cond.methodLink RX6 38 yX6_readEither) :: tl_1_361
def tl_1_359 : List Cond := (Cond.constant RJ11 76 (56320 : Int32)) :: tl_1_360
def tl_1_358 : List Cond := (Cond.code yJ11_lowSurrogate_5068e cJ11_lowSurrogate_5068e 1 (some (.char))) :: tl_1_359
def tl_1_357 : List Cond := (Cond.static yJ11_lowSurrogate_5068e) :: tl_1_358
def tl_1_356 : List Cond := (Cond.methodLink RJ2 161 yJ11_lowSurrogate_5068e) :: tl_1_357
def tl_1_355 : List Cond := (Cond.constant RJ11 110 (55232 : Int32)) :: tl_1_356
def tl_1_354 : List Cond := (Cond.code yJ11_highSurrogate_5068e cJ11_highSurrogate_5068e 1 (some (.char))) :: tl_1_355
def tl_1_353 : List Cond := (Cond.static yJ11_highSurrogate_5068e) :: tl_1_354
def tl_1_352 : List Cond := (Cond.methodLink RJ2 157 yJ11_highSurrogate_5068e) :: tl_1_353
def tl_1_351 : List Cond := (Cond.code yJ11_isValidCodePoint_9a6ad cJ11_isValidCodePoint_9a6ad 2 (some (.boolean))) :: tl_1_352
def tl_1_350 : List Cond := (Cond.static yJ11_isValidCodePoint_9a6ad) :: tl_1_351
def tl_1_349 : List Cond := (Cond.methodLink RJ2 164 yJ11_isValidCodePoint_9a6ad) :: tl_1_350
def tl_1_348 : List Cond := (Cond.code yJ2_indexOfSupplementary_4cfef cJ2_indexOfSupplementary_4cfef 7 (some (.int))) :: tl_1_349
def tl_1_347 : List Cond := (Cond.static yJ2_indexOfSupplementary_4cfef) :: tl_1_348
def tl_1_346 : List Cond := (Cond.methodLink RJ2 232 yJ2_indexOfSupplementary_4cfef) :: tl_1_347
def tl_1_345 : List Cond := (Cond.code yJ2_indexOfCharUnsafe_4cfef cJ2_indexOfCharUnsafe_4cfef 5 (some (.int))) :: tl_1_346
def tl_1_344 : List Cond := (Cond.static yJ2_indexOfCharUnsafe_4cfef) :: tl_1_345
def tl_1_343 : List Cond := (Cond.methodLink RJ2 244 yJ2_indexOfCharUnsafe_4cfef) :: tl_1_344
def tl_1_342 : List Cond := (Cond.code yJ3_checkFromToIndex_8c36e cJ3_checkFromToIndex_8c36e 4 (some (.int))) :: tl_1_343
def tl_1_341 : List Cond := (Cond.static yJ3_checkFromToIndex_8c36e) :: tl_1_342
def tl_1_340 : List Cond := (Cond.methodLink RJ0 1062 yJ3_checkFromToIndex_8c36e) :: tl_1_341
def tl_1_339 : List Cond := (Cond.code yJ0_checkBoundsBeginEnd_23922 cJ0_checkBoundsBeginEnd_23922 3 (none)) :: tl_1_340
def tl_1_338 : List Cond := (Cond.static yJ0_checkBoundsBeginEnd_23922) :: tl_1_339
def tl_1_337 : List Cond := (Cond.methodLink RJ2 241 yJ0_checkBoundsBeginEnd_23922) :: tl_1_338
def tl_1_336 : List Cond := (Cond.code yJ2_checkBoundsBeginEnd_d044e cJ2_checkBoundsBeginEnd_d044e 3 (none)) :: tl_1_337
def tl_1_335 : List Cond := (Cond.static yJ2_checkBoundsBeginEnd_d044e) :: tl_1_336
def tl_1_334 : List Cond := (Cond.methodLink RJ2 96 yJ2_checkBoundsBeginEnd_d044e) :: tl_1_335
def tl_1_333 : List Cond := (Cond.code yJ2_indexOfChar_4cfef cJ2_indexOfChar_4cfef 4 (some (.int))) :: tl_1_334
def tl_1_332 : List Cond := (Cond.static yJ2_indexOfChar_4cfef) :: tl_1_333
def tl_1_331 : List Cond := (Cond.methodLink RJ2 228 yJ2_indexOfChar_4cfef) :: tl_1_332
def tl_1_330 : List Cond := (Cond.constant RJ2 227 (65536 : Int32)) :: tl_1_331
def tl_1_329 : List Cond := (Cond.methodLink RJ2 183 yJ9_min_7cf53) :: tl_1_330
def tl_1_328 : List Cond := (Cond.methodLink RJ2 224 yJ9_max_7cf53) :: tl_1_329
def tl_1_327 : List Cond := (Cond.code yJ2_indexOf_4cfef cJ2_indexOf_4cfef 4 (some (.int))) :: tl_1_328
def tl_1_326 : List Cond := (Cond.static yJ2_indexOf_4cfef) :: tl_1_327
def tl_1_325 : List Cond := (Cond.methodLink RJ0 640 yJ2_indexOf_4cfef) :: tl_1_326
def tl_1_324 : List Cond := (Cond.code yJ1_indexOfChar_4cfef cJ1_indexOfChar_4cfef 6 (some (.int))) :: tl_1_325
def tl_1_323 : List Cond := (Cond.static yJ1_indexOfChar_4cfef) :: tl_1_324
def tl_1_322 : List Cond := (Cond.methodLink RJ1 95 yJ1_indexOfChar_4cfef) :: tl_1_323
def tl_1_321 : List Cond := (Cond.code yJ9_min_7cf53 cJ9_min_7cf53 2 (some (.int))) :: tl_1_322
def tl_1_320 : List Cond := (Cond.static yJ9_min_7cf53) :: tl_1_321
def tl_1_319 : List Cond := (Cond.methodLink RJ1 38 yJ9_min_7cf53) :: tl_1_320
def tl_1_318 : List Cond := (Cond.code yJ9_max_7cf53 cJ9_max_7cf53 2 (some (.int))) :: tl_1_319
def tl_1_317 : List Cond := (Cond.static yJ9_max_7cf53) :: tl_1_318
def tl_1_316 : List Cond := (Cond.methodLink RJ1 92 yJ9_max_7cf53) :: tl_1_317
def tl_1_315 : List Cond := (Cond.code yJ1_canEncode_9a6ad cJ1_canEncode_9a6ad 1 (some (.boolean))) :: tl_1_316
def tl_1_314 : List Cond := (Cond.static yJ1_canEncode_9a6ad) :: tl_1_315
def tl_1_313 : List Cond := (Cond.methodLink RJ1 88 yJ1_canEncode_9a6ad) :: tl_1_314
def tl_1_312 : List Cond := (Cond.code yJ1_indexOf_4cfef cJ1_indexOf_4cfef 4 (some (.int))) :: tl_1_313
def tl_1_311 : List Cond := (Cond.static yJ1_indexOf_4cfef) :: tl_1_312
def tl_1_310 : List Cond := (Cond.methodLink RJ0 637 yJ1_indexOf_4cfef) :: tl_1_311
def tl_1_309 : List Cond := (Cond.methodLink RJ0 505 yJ0_length_8abf5) :: tl_1_310
def tl_1_308 : List Cond := (Cond.code yJ0_indexOf_7cf53 cJ0_indexOf_7cf53 3 (some (.int))) :: tl_1_309
def tl_1_307 : List Cond := (Cond.selects RJ0 yJ0_indexOf_7cf53 yJ0_indexOf_7cf53) :: tl_1_308
def tl_1_306 : List Cond := (Cond.instanceMethod yJ0_indexOf_7cf53) :: tl_1_307
def tl_1_305 : List Cond := (Cond.methodLink RJ0 633 yJ0_indexOf_7cf53) :: tl_1_306
def tl_1_304 : List Cond := (Cond.code yJ0_indexOf_0f7a4 cJ0_indexOf_0f7a4 2 (some (.int))) :: tl_1_305
def tl_1_303 : List Cond := (Cond.selects RJ0 yJ0_indexOf_0f7a4 yJ0_indexOf_0f7a4) :: tl_1_304
def tl_1_302 : List Cond := (Cond.instanceMethod yJ0_indexOf_0f7a4) :: tl_1_303
def tl_1_301 : List Cond := (Cond.methodLink RX6 90 yJ0_indexOf_0f7a4) :: tl_1_302
def tl_1_300 : List Cond := ((Jvm.Cond.stringRef "CrierOfBorough$Tape" (88 : Nat) "();+-*<=")) :: tl_1_301
def tl_1_299 : List Cond := (Cond.code yX6_takeNumber cX6_takeNumber 3 (none)) :: tl_1_300
def tl_1_298 : List Cond := (Cond.instanceMethod yX6_takeNumber) :: tl_1_299
def tl_1_297 : List Cond := ((Jvm.Cond.privateMethod ({ cls := "CrierOfBorough$Tape", name := "takeNumber", desc := "(I)V" } : Jvm.MethodName))) :: tl_1_298
def tl_1_296 : List Cond := (Cond.methodLink RX6 85 yX6_takeNumber) :: tl_1_297
def tl_1_295 : List Cond := (Cond.code yX6_isDigit cX6_isDigit 2 (some (.boolean))) :: tl_1_296
def tl_1_294 : List Cond := (Cond.instanceMethod yX6_isDigit) :: tl_1_295
def tl_1_293 : List Cond := ((Jvm.Cond.privateMethod ({ cls := "CrierOfBorough$Tape", name := "isDigit", desc := "(I)Z" } : Jvm.MethodName))) :: tl_1_294
def tl_1_292 : List Cond := (Cond.methodLink RX6 82 yX6_isDigit) :: tl_1_293
def tl_1_291 : List Cond := (Cond.code yX6_isWordAt cX6_isWordAt 6 (some (.boolean))) :: tl_1_292
def tl_1_290 : List Cond := (Cond.instanceMethod yX6_isWordAt) :: tl_1_291
def tl_1_289 : List Cond := ((Jvm.Cond.privateMethod ({ cls := "CrierOfBorough$Tape", name := "isWordAt", desc := "(III)Z" } : Jvm.MethodName))) :: tl_1_290
def tl_1_288 : List Cond := (Cond.methodLink RX6 105 yX6_isWordAt) :: tl_1_289
def tl_1_287 : List Cond := (Cond.methodLink RX6 101 yJ0_charAt_5068e) :: tl_1_288
def tl_1_286 : List Cond := (Cond.methodLink RX6 97 yJ0_length_8abf5) :: tl_1_287
def tl_1_285 : List Cond := ((Jvm.Cond.stringRef "CrierOfBorough$Tape" (95 : Nat) "curious dreads goes or and not bad corner known wanted hour more")) :: tl_1_286
def tl_1_284 : List Cond := (Cond.code yX6_word cX6_word 6 (some (.int))) :: tl_1_285
def tl_1_283 : List Cond := (Cond.instanceMethod yX6_word) :: tl_1_284
def tl_1_282 : List Cond := ((Jvm.Cond.privateMethod ({ cls := "CrierOfBorough$Tape", name := "word", desc := "(II)I" } : Jvm.MethodName))) :: tl_1_283
def tl_1_281 : List Cond := (Cond.methodLink RX6 78 yX6_word) :: tl_1_282
def tl_1_280 : List Cond := (Cond.code yX6_wordEnd cX6_wordEnd 3 (some (.int))) :: tl_1_281
def tl_1_279 : List Cond := (Cond.instanceMethod yX6_wordEnd) :: tl_1_280
def tl_1_278 : List Cond := ((Jvm.Cond.privateMethod ({ cls := "CrierOfBorough$Tape", name := "wordEnd", desc := "(I)I" } : Jvm.MethodName))) :: tl_1_279
def tl_1_277 : List Cond := (Cond.methodLink RX6 74 yX6_wordEnd) :: tl_1_278
def tl_1_276 : List Cond := (Cond.code yX10_within cX10_within 3 (some (.boolean))) :: tl_1_277
def tl_1_275 : List Cond := (Cond.static yX10_within) :: tl_1_276
def tl_1_274 : List Cond := ((Jvm.Cond.methodLinkNest "CrierOfBorough$Tape" (64 : Nat) ({ cls := "CrierOfBorough", name := "within", desc := "(III)Z" } : Jvm.MethodName) "CrierOfBorough")) :: tl_1_275
def tl_1_273 : List Cond := (Cond.code yX6_isLetter cX6_isLetter 2 (some (.boolean))) :: tl_1_274
def tl_1_272 : List Cond := (Cond.instanceMethod yX6_isLetter) :: tl_1_273
def tl_1_271 : List Cond := ((Jvm.Cond.privateMethod ({ cls := "CrierOfBorough$Tape", name := "isLetter", desc := "(I)Z" } : Jvm.MethodName))) :: tl_1_272
def tl_1_270 : List Cond := (Cond.methodLink RX6 71 yX6_isLetter) :: tl_1_271
def tl_1_269 : List Cond := (Cond.code yX6_advance cX6_advance 2 (none)) :: tl_1_270
def tl_1_268 : List Cond := (Cond.instanceMethod yX6_advance) :: tl_1_269
def tl_1_267 : List Cond := ((Jvm.Cond.privateMethod ({ cls := "CrierOfBorough$Tape", name := "advance", desc := "()V" } : Jvm.MethodName))) :: tl_1_268
def tl_1_266 : List Cond := (Cond.methodLink RX6 29 yX6_advance) :: tl_1_267
def tl_1_265 : List Cond := (Cond.code yX6_read cX6_read 3 (some (.int))) :: tl_1_266
def tl_1_264 : List Cond := (Cond.selects RX6 yX6_read yX6_read) :: tl_1_265
def tl_1_263 : List Cond := (Cond.instanceMethod yX6_read) :: tl_1_264
def tl_1_262 : List Cond := (Cond.methodLink RX10 83 yX6_read) :: tl_1_263
def tl_1_261 : List Cond := (Cond.code yX6_add cX6_add 2 (none)) :: tl_1_262
def tl_1_260 : List Cond := (Cond.selects RX6 yX6_add yX6_add) :: tl_1_261
def tl_1_259 : List Cond := (Cond.instanceMethod yX6_add) :: tl_1_260
def tl_1_258 : List Cond := (Cond.methodLink RX10 79 yX6_add) :: tl_1_259
def tl_1_257 : List Cond := ((Jvm.Cond.laysStatic "java/lang/StringUTF16" "LO_BYTE_SHIFT" "I")) :: tl_1_258
def tl_1_256 : List Cond := (Cond.fieldLink "java/lang/StringUTF16" 63 "java/lang/StringUTF16" "LO_BYTE_SHIFT" "I") :: tl_1_257
def tl_1_255 : List Cond := ((Jvm.Cond.laysStatic "java/lang/StringUTF16" "HI_BYTE_SHIFT" "I")) :: tl_1_256
def tl_1_254 : List Cond := (Cond.fieldLink "java/lang/StringUTF16" 59 "java/lang/StringUTF16" "HI_BYTE_SHIFT" "I") :: tl_1_255
def tl_1_253 : List Cond := ((Jvm.Cond.laysStatic "java/lang/StringUTF16" "$assertionsDisabled" "Z")) :: tl_1_254
def tl_1_252 : List Cond := (Cond.fieldLink "java/lang/StringUTF16" 44 "java/lang/StringUTF16" "$assertionsDisabled" "Z") :: tl_1_253
def tl_1_251 : List Cond := (Cond.code yJ2_getChar_3b067 cJ2_getChar_3b067 2 (some (.char))) :: tl_1_252
def tl_1_250 : List Cond := (Cond.static yJ2_getChar_3b067) :: tl_1_251
def tl_1_249 : List Cond := (Cond.methodLink RJ2 71 yJ2_getChar_3b067) :: tl_1_250
def tl_1_248 : List Cond := (Cond.methodLink RJ2 414 yJ0_checkIndex_df160) :: tl_1_249
def tl_1_247 : List Cond := (Cond.code yJ2_length_9d52b cJ2_length_9d52b 1 (some (.int))) :: tl_1_248
def tl_1_246 : List Cond := (Cond.static yJ2_length_9d52b) :: tl_1_247
def tl_1_245 : List Cond := (Cond.methodLink RJ2 48 yJ2_length_9d52b) :: tl_1_246
def tl_1_244 : List Cond := (Cond.code yJ2_checkIndex_2214a cJ2_checkIndex_2214a 2 (none)) :: tl_1_245
def tl_1_243 : List Cond := (Cond.static yJ2_checkIndex_2214a) :: tl_1_244
def tl_1_242 : List Cond := (Cond.methodLink RJ2 67 yJ2_checkIndex_2214a) :: tl_1_243
def tl_1_241 : List Cond := (Cond.code yJ2_charAt_3b067 cJ2_charAt_3b067 2 (some (.char))) :: tl_1_242
def tl_1_240 : List Cond := (Cond.static yJ2_charAt_3b067) :: tl_1_241
set_option maxRecDepth 100000 in
theorem te_1 : tables_1_2 = tl_1_240 := rfl
theorem tm_1_240 : ∀ w ∈ tl_1_240, w ∈ lw_tbl := fun w h => by
  rw [← te_1] at h
  unfold lw_tbl tables_1
  exact List.mem_append_right _ (List.mem_append_right _ (List.mem_append_left _ h))
theorem w_240 : Cond.static yJ2_charAt_3b067 ∈ gTB := gTB_of (tm_1_240 _ List.mem_cons_self) rfl
theorem tm_1_241 : ∀ w ∈ tl_1_241, w ∈ lw_tbl := fun w h => tm_1_240 w (List.mem_cons_of_mem _ h)
theorem w_241 : Cond.code yJ2_charAt_3b067 cJ2_charAt_3b067 2 (some (.char)) ∈ gTB := gTB_of (tm_1_241 _ List.mem_cons_self) rfl
theorem tm_1_242 : ∀ w ∈ tl_1_242, w ∈ lw_tbl := fun w h => tm_1_241 w (List.mem_cons_of_mem _ h)
theorem w_242 : Cond.methodLink RJ2 67 yJ2_checkIndex_2214a ∈ gTB := gTB_of (tm_1_242 _ List.mem_cons_self) rfl
theorem tm_1_243 : ∀ w ∈ tl_1_243, w ∈ lw_tbl := fun w h => tm_1_242 w (List.mem_cons_of_mem _ h)
theorem w_243 : Cond.static yJ2_checkIndex_2214a ∈ gTB := gTB_of (tm_1_243 _ List.mem_cons_self) rfl
theorem tm_1_244 : ∀ w ∈ tl_1_244, w ∈ lw_tbl := fun w h => tm_1_243 w (List.mem_cons_of_mem _ h)
theorem w_244 : Cond.code yJ2_checkIndex_2214a cJ2_checkIndex_2214a 2 (none) ∈ gTB := gTB_of (tm_1_244 _ List.mem_cons_self) rfl
theorem tm_1_245 : ∀ w ∈ tl_1_245, w ∈ lw_tbl := fun w h => tm_1_244 w (List.mem_cons_of_mem _ h)
theorem w_245 : Cond.methodLink RJ2 48 yJ2_length_9d52b ∈ gTB := gTB_of (tm_1_245 _ List.mem_cons_self) rfl
theorem tm_1_246 : ∀ w ∈ tl_1_246, w ∈ lw_tbl := fun w h => tm_1_245 w (List.mem_cons_of_mem _ h)
theorem w_246 : Cond.static yJ2_length_9d52b ∈ gTB := gTB_of (tm_1_246 _ List.mem_cons_self) rfl
theorem tm_1_247 : ∀ w ∈ tl_1_247, w ∈ lw_tbl := fun w h => tm_1_246 w (List.mem_cons_of_mem _ h)
theorem w_247 : Cond.code yJ2_length_9d52b cJ2_length_9d52b 1 (some (.int)) ∈ gTB := gTB_of (tm_1_247 _ List.mem_cons_self) rfl
theorem tm_1_248 : ∀ w ∈ tl_1_248, w ∈ lw_tbl := fun w h => tm_1_247 w (List.mem_cons_of_mem _ h)
theorem w_248 : Cond.methodLink RJ2 414 yJ0_checkIndex_df160 ∈ gTB := gTB_of (tm_1_248 _ List.mem_cons_self) rfl
theorem tm_1_249 : ∀ w ∈ tl_1_249, w ∈ lw_tbl := fun w h => tm_1_248 w (List.mem_cons_of_mem _ h)
theorem w_249 : Cond.methodLink RJ2 71 yJ2_getChar_3b067 ∈ gTB := gTB_of (tm_1_249 _ List.mem_cons_self) rfl
theorem tm_1_250 : ∀ w ∈ tl_1_250, w ∈ lw_tbl := fun w h => tm_1_249 w (List.mem_cons_of_mem _ h)
theorem w_250 : Cond.static yJ2_getChar_3b067 ∈ gTB := gTB_of (tm_1_250 _ List.mem_cons_self) rfl
theorem tm_1_251 : ∀ w ∈ tl_1_251, w ∈ lw_tbl := fun w h => tm_1_250 w (List.mem_cons_of_mem _ h)
theorem w_251 : Cond.code yJ2_getChar_3b067 cJ2_getChar_3b067 2 (some (.char)) ∈ gTB := gTB_of (tm_1_251 _ List.mem_cons_self) rfl
theorem tm_1_252 : ∀ w ∈ tl_1_252, w ∈ lw_tbl := fun w h => tm_1_251 w (List.mem_cons_of_mem _ h)
theorem w_252 : Cond.fieldLink "java/lang/StringUTF16" 44 "java/lang/StringUTF16" "$assertionsDisabled" "Z" ∈ gTB := gTB_of (tm_1_252 _ List.mem_cons_self) rfl
theorem tm_1_253 : ∀ w ∈ tl_1_253, w ∈ lw_tbl := fun w h => tm_1_252 w (List.mem_cons_of_mem _ h)
theorem w_253 : Cond.laysStatic "java/lang/StringUTF16" "$assertionsDisabled" "Z" ∈ lw_tbl := tm_1_253 _ List.mem_cons_self
theorem tm_1_254 : ∀ w ∈ tl_1_254, w ∈ lw_tbl := fun w h => tm_1_253 w (List.mem_cons_of_mem _ h)
theorem w_254 : Cond.fieldLink "java/lang/StringUTF16" 59 "java/lang/StringUTF16" "HI_BYTE_SHIFT" "I" ∈ gTB := gTB_of (tm_1_254 _ List.mem_cons_self) rfl
theorem tm_1_255 : ∀ w ∈ tl_1_255, w ∈ lw_tbl := fun w h => tm_1_254 w (List.mem_cons_of_mem _ h)
theorem w_255 : Cond.laysStatic "java/lang/StringUTF16" "HI_BYTE_SHIFT" "I" ∈ lw_tbl := tm_1_255 _ List.mem_cons_self
theorem tm_1_256 : ∀ w ∈ tl_1_256, w ∈ lw_tbl := fun w h => tm_1_255 w (List.mem_cons_of_mem _ h)
theorem w_256 : Cond.fieldLink "java/lang/StringUTF16" 63 "java/lang/StringUTF16" "LO_BYTE_SHIFT" "I" ∈ gTB := gTB_of (tm_1_256 _ List.mem_cons_self) rfl
theorem tm_1_257 : ∀ w ∈ tl_1_257, w ∈ lw_tbl := fun w h => tm_1_256 w (List.mem_cons_of_mem _ h)
theorem w_257 : Cond.laysStatic "java/lang/StringUTF16" "LO_BYTE_SHIFT" "I" ∈ lw_tbl := tm_1_257 _ List.mem_cons_self
theorem tm_1_258 : ∀ w ∈ tl_1_258, w ∈ lw_tbl := fun w h => tm_1_257 w (List.mem_cons_of_mem _ h)
theorem w_258 : Cond.methodLink RX10 79 yX6_add ∈ gTB := gTB_of (tm_1_258 _ List.mem_cons_self) rfl
theorem tm_1_259 : ∀ w ∈ tl_1_259, w ∈ lw_tbl := fun w h => tm_1_258 w (List.mem_cons_of_mem _ h)
theorem w_259 : Cond.instanceMethod yX6_add ∈ gTB := gTB_of (tm_1_259 _ List.mem_cons_self) rfl
theorem tm_1_260 : ∀ w ∈ tl_1_260, w ∈ lw_tbl := fun w h => tm_1_259 w (List.mem_cons_of_mem _ h)
theorem w_260 : Cond.selects RX6 yX6_add yX6_add ∈ gTB := gTB_of (tm_1_260 _ List.mem_cons_self) rfl
theorem tm_1_261 : ∀ w ∈ tl_1_261, w ∈ lw_tbl := fun w h => tm_1_260 w (List.mem_cons_of_mem _ h)
theorem w_261 : Cond.code yX6_add cX6_add 2 (none) ∈ gTB := gTB_of (tm_1_261 _ List.mem_cons_self) rfl
theorem tm_1_262 : ∀ w ∈ tl_1_262, w ∈ lw_tbl := fun w h => tm_1_261 w (List.mem_cons_of_mem _ h)
theorem w_262 : Cond.methodLink RX10 83 yX6_read ∈ gTB := gTB_of (tm_1_262 _ List.mem_cons_self) rfl
theorem tm_1_263 : ∀ w ∈ tl_1_263, w ∈ lw_tbl := fun w h => tm_1_262 w (List.mem_cons_of_mem _ h)
theorem w_263 : Cond.instanceMethod yX6_read ∈ gTB := gTB_of (tm_1_263 _ List.mem_cons_self) rfl
theorem tm_1_264 : ∀ w ∈ tl_1_264, w ∈ lw_tbl := fun w h => tm_1_263 w (List.mem_cons_of_mem _ h)
theorem w_264 : Cond.selects RX6 yX6_read yX6_read ∈ gTB := gTB_of (tm_1_264 _ List.mem_cons_self) rfl
theorem tm_1_265 : ∀ w ∈ tl_1_265, w ∈ lw_tbl := fun w h => tm_1_264 w (List.mem_cons_of_mem _ h)
theorem w_265 : Cond.code yX6_read cX6_read 3 (some (.int)) ∈ gTB := gTB_of (tm_1_265 _ List.mem_cons_self) rfl
theorem tm_1_266 : ∀ w ∈ tl_1_266, w ∈ lw_tbl := fun w h => tm_1_265 w (List.mem_cons_of_mem _ h)
theorem w_266 : Cond.methodLink RX6 29 yX6_advance ∈ gTB := gTB_of (tm_1_266 _ List.mem_cons_self) rfl
theorem tm_1_267 : ∀ w ∈ tl_1_267, w ∈ lw_tbl := fun w h => tm_1_266 w (List.mem_cons_of_mem _ h)
theorem tm_1_268 : ∀ w ∈ tl_1_268, w ∈ lw_tbl := fun w h => tm_1_267 w (List.mem_cons_of_mem _ h)
theorem w_268 : Cond.instanceMethod yX6_advance ∈ gTB := gTB_of (tm_1_268 _ List.mem_cons_self) rfl
theorem tm_1_269 : ∀ w ∈ tl_1_269, w ∈ lw_tbl := fun w h => tm_1_268 w (List.mem_cons_of_mem _ h)
theorem w_269 : Cond.code yX6_advance cX6_advance 2 (none) ∈ gTB := gTB_of (tm_1_269 _ List.mem_cons_self) rfl
theorem tm_1_270 : ∀ w ∈ tl_1_270, w ∈ lw_tbl := fun w h => tm_1_269 w (List.mem_cons_of_mem _ h)
theorem w_270 : Cond.methodLink RX6 71 yX6_isLetter ∈ gTB := gTB_of (tm_1_270 _ List.mem_cons_self) rfl
theorem tm_1_271 : ∀ w ∈ tl_1_271, w ∈ lw_tbl := fun w h => tm_1_270 w (List.mem_cons_of_mem _ h)
theorem tm_1_272 : ∀ w ∈ tl_1_272, w ∈ lw_tbl := fun w h => tm_1_271 w (List.mem_cons_of_mem _ h)
theorem w_272 : Cond.instanceMethod yX6_isLetter ∈ gTB := gTB_of (tm_1_272 _ List.mem_cons_self) rfl
theorem tm_1_273 : ∀ w ∈ tl_1_273, w ∈ lw_tbl := fun w h => tm_1_272 w (List.mem_cons_of_mem _ h)
theorem w_273 : Cond.code yX6_isLetter cX6_isLetter 2 (some (.boolean)) ∈ gTB := gTB_of (tm_1_273 _ List.mem_cons_self) rfl
theorem tm_1_274 : ∀ w ∈ tl_1_274, w ∈ lw_tbl := fun w h => tm_1_273 w (List.mem_cons_of_mem _ h)
theorem w_274 : Cond.methodLinkNest RX6 64 yX10_within RX10 ∈ lw_tbl := tm_1_274 _ List.mem_cons_self
theorem tm_1_275 : ∀ w ∈ tl_1_275, w ∈ lw_tbl := fun w h => tm_1_274 w (List.mem_cons_of_mem _ h)
theorem w_275 : Cond.static yX10_within ∈ gTB := gTB_of (tm_1_275 _ List.mem_cons_self) rfl
theorem tm_1_276 : ∀ w ∈ tl_1_276, w ∈ lw_tbl := fun w h => tm_1_275 w (List.mem_cons_of_mem _ h)
theorem w_276 : Cond.code yX10_within cX10_within 3 (some (.boolean)) ∈ gTB := gTB_of (tm_1_276 _ List.mem_cons_self) rfl
theorem tm_1_277 : ∀ w ∈ tl_1_277, w ∈ lw_tbl := fun w h => tm_1_276 w (List.mem_cons_of_mem _ h)
theorem w_277 : Cond.methodLink RX6 74 yX6_wordEnd ∈ gTB := gTB_of (tm_1_277 _ List.mem_cons_self) rfl
theorem tm_1_278 : ∀ w ∈ tl_1_278, w ∈ lw_tbl := fun w h => tm_1_277 w (List.mem_cons_of_mem _ h)
theorem tm_1_279 : ∀ w ∈ tl_1_279, w ∈ lw_tbl := fun w h => tm_1_278 w (List.mem_cons_of_mem _ h)
theorem w_279 : Cond.instanceMethod yX6_wordEnd ∈ gTB := gTB_of (tm_1_279 _ List.mem_cons_self) rfl
theorem tm_1_280 : ∀ w ∈ tl_1_280, w ∈ lw_tbl := fun w h => tm_1_279 w (List.mem_cons_of_mem _ h)
theorem w_280 : Cond.code yX6_wordEnd cX6_wordEnd 3 (some (.int)) ∈ gTB := gTB_of (tm_1_280 _ List.mem_cons_self) rfl
theorem tm_1_281 : ∀ w ∈ tl_1_281, w ∈ lw_tbl := fun w h => tm_1_280 w (List.mem_cons_of_mem _ h)
theorem w_281 : Cond.methodLink RX6 78 yX6_word ∈ gTB := gTB_of (tm_1_281 _ List.mem_cons_self) rfl
theorem tm_1_282 : ∀ w ∈ tl_1_282, w ∈ lw_tbl := fun w h => tm_1_281 w (List.mem_cons_of_mem _ h)
theorem tm_1_283 : ∀ w ∈ tl_1_283, w ∈ lw_tbl := fun w h => tm_1_282 w (List.mem_cons_of_mem _ h)
theorem w_283 : Cond.instanceMethod yX6_word ∈ gTB := gTB_of (tm_1_283 _ List.mem_cons_self) rfl
theorem tm_1_284 : ∀ w ∈ tl_1_284, w ∈ lw_tbl := fun w h => tm_1_283 w (List.mem_cons_of_mem _ h)
theorem w_284 : Cond.code yX6_word cX6_word 6 (some (.int)) ∈ gTB := gTB_of (tm_1_284 _ List.mem_cons_self) rfl
theorem tm_1_285 : ∀ w ∈ tl_1_285, w ∈ lw_tbl := fun w h => tm_1_284 w (List.mem_cons_of_mem _ h)
theorem w_285 : Cond.stringRef "CrierOfBorough$Tape" 95 "curious dreads goes or and not bad corner known wanted hour more" ∈ lw_tbl := tm_1_285 _ List.mem_cons_self
theorem tm_1_286 : ∀ w ∈ tl_1_286, w ∈ lw_tbl := fun w h => tm_1_285 w (List.mem_cons_of_mem _ h)
theorem w_286 : Cond.methodLink RX6 97 yJ0_length_8abf5 ∈ gTB := gTB_of (tm_1_286 _ List.mem_cons_self) rfl
theorem tm_1_287 : ∀ w ∈ tl_1_287, w ∈ lw_tbl := fun w h => tm_1_286 w (List.mem_cons_of_mem _ h)
theorem w_287 : Cond.methodLink RX6 101 yJ0_charAt_5068e ∈ gTB := gTB_of (tm_1_287 _ List.mem_cons_self) rfl
theorem tm_1_288 : ∀ w ∈ tl_1_288, w ∈ lw_tbl := fun w h => tm_1_287 w (List.mem_cons_of_mem _ h)
theorem w_288 : Cond.methodLink RX6 105 yX6_isWordAt ∈ gTB := gTB_of (tm_1_288 _ List.mem_cons_self) rfl
theorem tm_1_289 : ∀ w ∈ tl_1_289, w ∈ lw_tbl := fun w h => tm_1_288 w (List.mem_cons_of_mem _ h)
theorem tm_1_290 : ∀ w ∈ tl_1_290, w ∈ lw_tbl := fun w h => tm_1_289 w (List.mem_cons_of_mem _ h)
theorem w_290 : Cond.instanceMethod yX6_isWordAt ∈ gTB := gTB_of (tm_1_290 _ List.mem_cons_self) rfl
theorem tm_1_291 : ∀ w ∈ tl_1_291, w ∈ lw_tbl := fun w h => tm_1_290 w (List.mem_cons_of_mem _ h)
theorem w_291 : Cond.code yX6_isWordAt cX6_isWordAt 6 (some (.boolean)) ∈ gTB := gTB_of (tm_1_291 _ List.mem_cons_self) rfl
theorem tm_1_292 : ∀ w ∈ tl_1_292, w ∈ lw_tbl := fun w h => tm_1_291 w (List.mem_cons_of_mem _ h)
theorem w_292 : Cond.methodLink RX6 82 yX6_isDigit ∈ gTB := gTB_of (tm_1_292 _ List.mem_cons_self) rfl
theorem tm_1_293 : ∀ w ∈ tl_1_293, w ∈ lw_tbl := fun w h => tm_1_292 w (List.mem_cons_of_mem _ h)
theorem tm_1_294 : ∀ w ∈ tl_1_294, w ∈ lw_tbl := fun w h => tm_1_293 w (List.mem_cons_of_mem _ h)
theorem w_294 : Cond.instanceMethod yX6_isDigit ∈ gTB := gTB_of (tm_1_294 _ List.mem_cons_self) rfl
theorem tm_1_295 : ∀ w ∈ tl_1_295, w ∈ lw_tbl := fun w h => tm_1_294 w (List.mem_cons_of_mem _ h)
theorem w_295 : Cond.code yX6_isDigit cX6_isDigit 2 (some (.boolean)) ∈ gTB := gTB_of (tm_1_295 _ List.mem_cons_self) rfl
theorem tm_1_296 : ∀ w ∈ tl_1_296, w ∈ lw_tbl := fun w h => tm_1_295 w (List.mem_cons_of_mem _ h)
theorem w_296 : Cond.methodLink RX6 85 yX6_takeNumber ∈ gTB := gTB_of (tm_1_296 _ List.mem_cons_self) rfl
theorem tm_1_297 : ∀ w ∈ tl_1_297, w ∈ lw_tbl := fun w h => tm_1_296 w (List.mem_cons_of_mem _ h)
theorem tm_1_298 : ∀ w ∈ tl_1_298, w ∈ lw_tbl := fun w h => tm_1_297 w (List.mem_cons_of_mem _ h)
theorem w_298 : Cond.instanceMethod yX6_takeNumber ∈ gTB := gTB_of (tm_1_298 _ List.mem_cons_self) rfl
theorem tm_1_299 : ∀ w ∈ tl_1_299, w ∈ lw_tbl := fun w h => tm_1_298 w (List.mem_cons_of_mem _ h)
theorem w_299 : Cond.code yX6_takeNumber cX6_takeNumber 3 (none) ∈ gTB := gTB_of (tm_1_299 _ List.mem_cons_self) rfl
theorem tm_1_300 : ∀ w ∈ tl_1_300, w ∈ lw_tbl := fun w h => tm_1_299 w (List.mem_cons_of_mem _ h)
theorem w_300 : Cond.stringRef "CrierOfBorough$Tape" 88 "();+-*<=" ∈ lw_tbl := tm_1_300 _ List.mem_cons_self
theorem tm_1_301 : ∀ w ∈ tl_1_301, w ∈ lw_tbl := fun w h => tm_1_300 w (List.mem_cons_of_mem _ h)
theorem w_301 : Cond.methodLink RX6 90 yJ0_indexOf_0f7a4 ∈ gTB := gTB_of (tm_1_301 _ List.mem_cons_self) rfl
theorem tm_1_302 : ∀ w ∈ tl_1_302, w ∈ lw_tbl := fun w h => tm_1_301 w (List.mem_cons_of_mem _ h)
theorem w_302 : Cond.instanceMethod yJ0_indexOf_0f7a4 ∈ gTB := gTB_of (tm_1_302 _ List.mem_cons_self) rfl
theorem tm_1_303 : ∀ w ∈ tl_1_303, w ∈ lw_tbl := fun w h => tm_1_302 w (List.mem_cons_of_mem _ h)
theorem w_303 : Cond.selects RJ0 yJ0_indexOf_0f7a4 yJ0_indexOf_0f7a4 ∈ gTB := gTB_of (tm_1_303 _ List.mem_cons_self) rfl
theorem tm_1_304 : ∀ w ∈ tl_1_304, w ∈ lw_tbl := fun w h => tm_1_303 w (List.mem_cons_of_mem _ h)
theorem w_304 : Cond.code yJ0_indexOf_0f7a4 cJ0_indexOf_0f7a4 2 (some (.int)) ∈ gTB := gTB_of (tm_1_304 _ List.mem_cons_self) rfl
theorem tm_1_305 : ∀ w ∈ tl_1_305, w ∈ lw_tbl := fun w h => tm_1_304 w (List.mem_cons_of_mem _ h)
theorem w_305 : Cond.methodLink RJ0 633 yJ0_indexOf_7cf53 ∈ gTB := gTB_of (tm_1_305 _ List.mem_cons_self) rfl
theorem tm_1_306 : ∀ w ∈ tl_1_306, w ∈ lw_tbl := fun w h => tm_1_305 w (List.mem_cons_of_mem _ h)
theorem w_306 : Cond.instanceMethod yJ0_indexOf_7cf53 ∈ gTB := gTB_of (tm_1_306 _ List.mem_cons_self) rfl
theorem tm_1_307 : ∀ w ∈ tl_1_307, w ∈ lw_tbl := fun w h => tm_1_306 w (List.mem_cons_of_mem _ h)
theorem w_307 : Cond.selects RJ0 yJ0_indexOf_7cf53 yJ0_indexOf_7cf53 ∈ gTB := gTB_of (tm_1_307 _ List.mem_cons_self) rfl
theorem tm_1_308 : ∀ w ∈ tl_1_308, w ∈ lw_tbl := fun w h => tm_1_307 w (List.mem_cons_of_mem _ h)
theorem w_308 : Cond.code yJ0_indexOf_7cf53 cJ0_indexOf_7cf53 3 (some (.int)) ∈ gTB := gTB_of (tm_1_308 _ List.mem_cons_self) rfl
theorem tm_1_309 : ∀ w ∈ tl_1_309, w ∈ lw_tbl := fun w h => tm_1_308 w (List.mem_cons_of_mem _ h)
theorem w_309 : Cond.methodLink RJ0 505 yJ0_length_8abf5 ∈ gTB := gTB_of (tm_1_309 _ List.mem_cons_self) rfl
theorem tm_1_310 : ∀ w ∈ tl_1_310, w ∈ lw_tbl := fun w h => tm_1_309 w (List.mem_cons_of_mem _ h)
theorem w_310 : Cond.methodLink RJ0 637 yJ1_indexOf_4cfef ∈ gTB := gTB_of (tm_1_310 _ List.mem_cons_self) rfl
theorem tm_1_311 : ∀ w ∈ tl_1_311, w ∈ lw_tbl := fun w h => tm_1_310 w (List.mem_cons_of_mem _ h)
theorem w_311 : Cond.static yJ1_indexOf_4cfef ∈ gTB := gTB_of (tm_1_311 _ List.mem_cons_self) rfl
theorem tm_1_312 : ∀ w ∈ tl_1_312, w ∈ lw_tbl := fun w h => tm_1_311 w (List.mem_cons_of_mem _ h)
theorem w_312 : Cond.code yJ1_indexOf_4cfef cJ1_indexOf_4cfef 4 (some (.int)) ∈ gTB := gTB_of (tm_1_312 _ List.mem_cons_self) rfl
theorem tm_1_313 : ∀ w ∈ tl_1_313, w ∈ lw_tbl := fun w h => tm_1_312 w (List.mem_cons_of_mem _ h)
theorem w_313 : Cond.methodLink RJ1 88 yJ1_canEncode_9a6ad ∈ gTB := gTB_of (tm_1_313 _ List.mem_cons_self) rfl
theorem tm_1_314 : ∀ w ∈ tl_1_314, w ∈ lw_tbl := fun w h => tm_1_313 w (List.mem_cons_of_mem _ h)
theorem w_314 : Cond.static yJ1_canEncode_9a6ad ∈ gTB := gTB_of (tm_1_314 _ List.mem_cons_self) rfl
theorem tm_1_315 : ∀ w ∈ tl_1_315, w ∈ lw_tbl := fun w h => tm_1_314 w (List.mem_cons_of_mem _ h)
theorem w_315 : Cond.code yJ1_canEncode_9a6ad cJ1_canEncode_9a6ad 1 (some (.boolean)) ∈ gTB := gTB_of (tm_1_315 _ List.mem_cons_self) rfl
theorem tm_1_316 : ∀ w ∈ tl_1_316, w ∈ lw_tbl := fun w h => tm_1_315 w (List.mem_cons_of_mem _ h)
theorem w_316 : Cond.methodLink RJ1 92 yJ9_max_7cf53 ∈ gTB := gTB_of (tm_1_316 _ List.mem_cons_self) rfl
theorem tm_1_317 : ∀ w ∈ tl_1_317, w ∈ lw_tbl := fun w h => tm_1_316 w (List.mem_cons_of_mem _ h)
theorem w_317 : Cond.static yJ9_max_7cf53 ∈ gTB := gTB_of (tm_1_317 _ List.mem_cons_self) rfl
theorem tm_1_318 : ∀ w ∈ tl_1_318, w ∈ lw_tbl := fun w h => tm_1_317 w (List.mem_cons_of_mem _ h)
theorem w_318 : Cond.code yJ9_max_7cf53 cJ9_max_7cf53 2 (some (.int)) ∈ gTB := gTB_of (tm_1_318 _ List.mem_cons_self) rfl
theorem tm_1_319 : ∀ w ∈ tl_1_319, w ∈ lw_tbl := fun w h => tm_1_318 w (List.mem_cons_of_mem _ h)
theorem w_319 : Cond.methodLink RJ1 38 yJ9_min_7cf53 ∈ gTB := gTB_of (tm_1_319 _ List.mem_cons_self) rfl
theorem tm_1_320 : ∀ w ∈ tl_1_320, w ∈ lw_tbl := fun w h => tm_1_319 w (List.mem_cons_of_mem _ h)
theorem w_320 : Cond.static yJ9_min_7cf53 ∈ gTB := gTB_of (tm_1_320 _ List.mem_cons_self) rfl
theorem tm_1_321 : ∀ w ∈ tl_1_321, w ∈ lw_tbl := fun w h => tm_1_320 w (List.mem_cons_of_mem _ h)
theorem w_321 : Cond.code yJ9_min_7cf53 cJ9_min_7cf53 2 (some (.int)) ∈ gTB := gTB_of (tm_1_321 _ List.mem_cons_self) rfl
theorem tm_1_322 : ∀ w ∈ tl_1_322, w ∈ lw_tbl := fun w h => tm_1_321 w (List.mem_cons_of_mem _ h)
theorem w_322 : Cond.methodLink RJ1 95 yJ1_indexOfChar_4cfef ∈ gTB := gTB_of (tm_1_322 _ List.mem_cons_self) rfl
theorem tm_1_323 : ∀ w ∈ tl_1_323, w ∈ lw_tbl := fun w h => tm_1_322 w (List.mem_cons_of_mem _ h)
theorem w_323 : Cond.static yJ1_indexOfChar_4cfef ∈ gTB := gTB_of (tm_1_323 _ List.mem_cons_self) rfl
theorem tm_1_324 : ∀ w ∈ tl_1_324, w ∈ lw_tbl := fun w h => tm_1_323 w (List.mem_cons_of_mem _ h)
theorem w_324 : Cond.code yJ1_indexOfChar_4cfef cJ1_indexOfChar_4cfef 6 (some (.int)) ∈ gTB := gTB_of (tm_1_324 _ List.mem_cons_self) rfl
theorem tm_1_325 : ∀ w ∈ tl_1_325, w ∈ lw_tbl := fun w h => tm_1_324 w (List.mem_cons_of_mem _ h)
theorem w_325 : Cond.methodLink RJ0 640 yJ2_indexOf_4cfef ∈ gTB := gTB_of (tm_1_325 _ List.mem_cons_self) rfl
theorem tm_1_326 : ∀ w ∈ tl_1_326, w ∈ lw_tbl := fun w h => tm_1_325 w (List.mem_cons_of_mem _ h)
theorem w_326 : Cond.static yJ2_indexOf_4cfef ∈ gTB := gTB_of (tm_1_326 _ List.mem_cons_self) rfl
theorem tm_1_327 : ∀ w ∈ tl_1_327, w ∈ lw_tbl := fun w h => tm_1_326 w (List.mem_cons_of_mem _ h)
theorem w_327 : Cond.code yJ2_indexOf_4cfef cJ2_indexOf_4cfef 4 (some (.int)) ∈ gTB := gTB_of (tm_1_327 _ List.mem_cons_self) rfl
theorem tm_1_328 : ∀ w ∈ tl_1_328, w ∈ lw_tbl := fun w h => tm_1_327 w (List.mem_cons_of_mem _ h)
theorem w_328 : Cond.methodLink RJ2 224 yJ9_max_7cf53 ∈ gTB := gTB_of (tm_1_328 _ List.mem_cons_self) rfl
theorem tm_1_329 : ∀ w ∈ tl_1_329, w ∈ lw_tbl := fun w h => tm_1_328 w (List.mem_cons_of_mem _ h)
theorem w_329 : Cond.methodLink RJ2 183 yJ9_min_7cf53 ∈ gTB := gTB_of (tm_1_329 _ List.mem_cons_self) rfl
theorem tm_1_330 : ∀ w ∈ tl_1_330, w ∈ lw_tbl := fun w h => tm_1_329 w (List.mem_cons_of_mem _ h)
theorem w_330 : Cond.constant RJ2 227 (65536 : Int32) ∈ gTB := gTB_of (tm_1_330 _ List.mem_cons_self) rfl
theorem tm_1_331 : ∀ w ∈ tl_1_331, w ∈ lw_tbl := fun w h => tm_1_330 w (List.mem_cons_of_mem _ h)
theorem w_331 : Cond.methodLink RJ2 228 yJ2_indexOfChar_4cfef ∈ gTB := gTB_of (tm_1_331 _ List.mem_cons_self) rfl
theorem tm_1_332 : ∀ w ∈ tl_1_332, w ∈ lw_tbl := fun w h => tm_1_331 w (List.mem_cons_of_mem _ h)
theorem w_332 : Cond.static yJ2_indexOfChar_4cfef ∈ gTB := gTB_of (tm_1_332 _ List.mem_cons_self) rfl
theorem tm_1_333 : ∀ w ∈ tl_1_333, w ∈ lw_tbl := fun w h => tm_1_332 w (List.mem_cons_of_mem _ h)
theorem w_333 : Cond.code yJ2_indexOfChar_4cfef cJ2_indexOfChar_4cfef 4 (some (.int)) ∈ gTB := gTB_of (tm_1_333 _ List.mem_cons_self) rfl
theorem tm_1_334 : ∀ w ∈ tl_1_334, w ∈ lw_tbl := fun w h => tm_1_333 w (List.mem_cons_of_mem _ h)
theorem w_334 : Cond.methodLink RJ2 96 yJ2_checkBoundsBeginEnd_d044e ∈ gTB := gTB_of (tm_1_334 _ List.mem_cons_self) rfl
theorem tm_1_335 : ∀ w ∈ tl_1_335, w ∈ lw_tbl := fun w h => tm_1_334 w (List.mem_cons_of_mem _ h)
theorem w_335 : Cond.static yJ2_checkBoundsBeginEnd_d044e ∈ gTB := gTB_of (tm_1_335 _ List.mem_cons_self) rfl
theorem tm_1_336 : ∀ w ∈ tl_1_336, w ∈ lw_tbl := fun w h => tm_1_335 w (List.mem_cons_of_mem _ h)
theorem w_336 : Cond.code yJ2_checkBoundsBeginEnd_d044e cJ2_checkBoundsBeginEnd_d044e 3 (none) ∈ gTB := gTB_of (tm_1_336 _ List.mem_cons_self) rfl
theorem tm_1_337 : ∀ w ∈ tl_1_337, w ∈ lw_tbl := fun w h => tm_1_336 w (List.mem_cons_of_mem _ h)
theorem w_337 : Cond.methodLink RJ2 241 yJ0_checkBoundsBeginEnd_23922 ∈ gTB := gTB_of (tm_1_337 _ List.mem_cons_self) rfl
theorem tm_1_338 : ∀ w ∈ tl_1_338, w ∈ lw_tbl := fun w h => tm_1_337 w (List.mem_cons_of_mem _ h)
theorem w_338 : Cond.static yJ0_checkBoundsBeginEnd_23922 ∈ gTB := gTB_of (tm_1_338 _ List.mem_cons_self) rfl
theorem tm_1_339 : ∀ w ∈ tl_1_339, w ∈ lw_tbl := fun w h => tm_1_338 w (List.mem_cons_of_mem _ h)
theorem w_339 : Cond.code yJ0_checkBoundsBeginEnd_23922 cJ0_checkBoundsBeginEnd_23922 3 (none) ∈ gTB := gTB_of (tm_1_339 _ List.mem_cons_self) rfl
theorem tm_1_340 : ∀ w ∈ tl_1_340, w ∈ lw_tbl := fun w h => tm_1_339 w (List.mem_cons_of_mem _ h)
theorem w_340 : Cond.methodLink RJ0 1062 yJ3_checkFromToIndex_8c36e ∈ gTB := gTB_of (tm_1_340 _ List.mem_cons_self) rfl
theorem tm_1_341 : ∀ w ∈ tl_1_341, w ∈ lw_tbl := fun w h => tm_1_340 w (List.mem_cons_of_mem _ h)
theorem w_341 : Cond.static yJ3_checkFromToIndex_8c36e ∈ gTB := gTB_of (tm_1_341 _ List.mem_cons_self) rfl
theorem tm_1_342 : ∀ w ∈ tl_1_342, w ∈ lw_tbl := fun w h => tm_1_341 w (List.mem_cons_of_mem _ h)
theorem w_342 : Cond.code yJ3_checkFromToIndex_8c36e cJ3_checkFromToIndex_8c36e 4 (some (.int)) ∈ gTB := gTB_of (tm_1_342 _ List.mem_cons_self) rfl
theorem tm_1_343 : ∀ w ∈ tl_1_343, w ∈ lw_tbl := fun w h => tm_1_342 w (List.mem_cons_of_mem _ h)
theorem w_343 : Cond.methodLink RJ2 244 yJ2_indexOfCharUnsafe_4cfef ∈ gTB := gTB_of (tm_1_343 _ List.mem_cons_self) rfl
theorem tm_1_344 : ∀ w ∈ tl_1_344, w ∈ lw_tbl := fun w h => tm_1_343 w (List.mem_cons_of_mem _ h)
theorem w_344 : Cond.static yJ2_indexOfCharUnsafe_4cfef ∈ gTB := gTB_of (tm_1_344 _ List.mem_cons_self) rfl
theorem tm_1_345 : ∀ w ∈ tl_1_345, w ∈ lw_tbl := fun w h => tm_1_344 w (List.mem_cons_of_mem _ h)
theorem w_345 : Cond.code yJ2_indexOfCharUnsafe_4cfef cJ2_indexOfCharUnsafe_4cfef 5 (some (.int)) ∈ gTB := gTB_of (tm_1_345 _ List.mem_cons_self) rfl
theorem tm_1_346 : ∀ w ∈ tl_1_346, w ∈ lw_tbl := fun w h => tm_1_345 w (List.mem_cons_of_mem _ h)
theorem w_346 : Cond.methodLink RJ2 232 yJ2_indexOfSupplementary_4cfef ∈ gTB := gTB_of (tm_1_346 _ List.mem_cons_self) rfl
theorem tm_1_347 : ∀ w ∈ tl_1_347, w ∈ lw_tbl := fun w h => tm_1_346 w (List.mem_cons_of_mem _ h)
theorem w_347 : Cond.static yJ2_indexOfSupplementary_4cfef ∈ gTB := gTB_of (tm_1_347 _ List.mem_cons_self) rfl
theorem tm_1_348 : ∀ w ∈ tl_1_348, w ∈ lw_tbl := fun w h => tm_1_347 w (List.mem_cons_of_mem _ h)
theorem w_348 : Cond.code yJ2_indexOfSupplementary_4cfef cJ2_indexOfSupplementary_4cfef 7 (some (.int)) ∈ gTB := gTB_of (tm_1_348 _ List.mem_cons_self) rfl
theorem tm_1_349 : ∀ w ∈ tl_1_349, w ∈ lw_tbl := fun w h => tm_1_348 w (List.mem_cons_of_mem _ h)
theorem w_349 : Cond.methodLink RJ2 164 yJ11_isValidCodePoint_9a6ad ∈ gTB := gTB_of (tm_1_349 _ List.mem_cons_self) rfl
theorem tm_1_350 : ∀ w ∈ tl_1_350, w ∈ lw_tbl := fun w h => tm_1_349 w (List.mem_cons_of_mem _ h)
theorem w_350 : Cond.static yJ11_isValidCodePoint_9a6ad ∈ gTB := gTB_of (tm_1_350 _ List.mem_cons_self) rfl
theorem tm_1_351 : ∀ w ∈ tl_1_351, w ∈ lw_tbl := fun w h => tm_1_350 w (List.mem_cons_of_mem _ h)
theorem w_351 : Cond.code yJ11_isValidCodePoint_9a6ad cJ11_isValidCodePoint_9a6ad 2 (some (.boolean)) ∈ gTB := gTB_of (tm_1_351 _ List.mem_cons_self) rfl
theorem tm_1_352 : ∀ w ∈ tl_1_352, w ∈ lw_tbl := fun w h => tm_1_351 w (List.mem_cons_of_mem _ h)
theorem w_352 : Cond.methodLink RJ2 157 yJ11_highSurrogate_5068e ∈ gTB := gTB_of (tm_1_352 _ List.mem_cons_self) rfl
theorem tm_1_353 : ∀ w ∈ tl_1_353, w ∈ lw_tbl := fun w h => tm_1_352 w (List.mem_cons_of_mem _ h)
theorem w_353 : Cond.static yJ11_highSurrogate_5068e ∈ gTB := gTB_of (tm_1_353 _ List.mem_cons_self) rfl
theorem tm_1_354 : ∀ w ∈ tl_1_354, w ∈ lw_tbl := fun w h => tm_1_353 w (List.mem_cons_of_mem _ h)
theorem w_354 : Cond.code yJ11_highSurrogate_5068e cJ11_highSurrogate_5068e 1 (some (.char)) ∈ gTB := gTB_of (tm_1_354 _ List.mem_cons_self) rfl
theorem tm_1_355 : ∀ w ∈ tl_1_355, w ∈ lw_tbl := fun w h => tm_1_354 w (List.mem_cons_of_mem _ h)
theorem w_355 : Cond.constant RJ11 110 (55232 : Int32) ∈ gTB := gTB_of (tm_1_355 _ List.mem_cons_self) rfl
theorem tm_1_356 : ∀ w ∈ tl_1_356, w ∈ lw_tbl := fun w h => tm_1_355 w (List.mem_cons_of_mem _ h)
theorem w_356 : Cond.methodLink RJ2 161 yJ11_lowSurrogate_5068e ∈ gTB := gTB_of (tm_1_356 _ List.mem_cons_self) rfl
theorem tm_1_357 : ∀ w ∈ tl_1_357, w ∈ lw_tbl := fun w h => tm_1_356 w (List.mem_cons_of_mem _ h)
theorem w_357 : Cond.static yJ11_lowSurrogate_5068e ∈ gTB := gTB_of (tm_1_357 _ List.mem_cons_self) rfl
theorem tm_1_358 : ∀ w ∈ tl_1_358, w ∈ lw_tbl := fun w h => tm_1_357 w (List.mem_cons_of_mem _ h)
theorem w_358 : Cond.code yJ11_lowSurrogate_5068e cJ11_lowSurrogate_5068e 1 (some (.char)) ∈ gTB := gTB_of (tm_1_358 _ List.mem_cons_self) rfl
theorem tm_1_359 : ∀ w ∈ tl_1_359, w ∈ lw_tbl := fun w h => tm_1_358 w (List.mem_cons_of_mem _ h)
theorem w_359 : Cond.constant RJ11 76 (56320 : Int32) ∈ gTB := gTB_of (tm_1_359 _ List.mem_cons_self) rfl
theorem tm_1_360 : ∀ w ∈ tl_1_360, w ∈ lw_tbl := fun w h => tm_1_359 w (List.mem_cons_of_mem _ h)
theorem w_360 : Cond.methodLink RX6 38 yX6_readEither ∈ gTB := gTB_of (tm_1_360 _ List.mem_cons_self) rfl
theorem tm_1_361 : ∀ w ∈ tl_1_361, w ∈ lw_tbl := fun w h => tm_1_360 w (List.mem_cons_of_mem _ h)
theorem tm_1_362 : ∀ w ∈ tl_1_362, w ∈ lw_tbl := fun w h => tm_1_361 w (List.mem_cons_of_mem _ h)
theorem w_362 : Cond.instanceMethod yX6_readEither ∈ gTB := gTB_of (tm_1_362 _ List.mem_cons_self) rfl
theorem tm_1_363 : ∀ w ∈ tl_1_363, w ∈ lw_tbl := fun w h => tm_1_362 w (List.mem_cons_of_mem _ h)
theorem w_363 : Cond.code yX6_readEither cX6_readEither 3 (some (.boolean)) ∈ gTB := gTB_of (tm_1_363 _ List.mem_cons_self) rfl
theorem tm_1_364 : ∀ w ∈ tl_1_364, w ∈ lw_tbl := fun w h => tm_1_363 w (List.mem_cons_of_mem _ h)
theorem w_364 : Cond.methodLink RX6 45 yX6_readBoth ∈ gTB := gTB_of (tm_1_364 _ List.mem_cons_self) rfl
theorem tm_1_365 : ∀ w ∈ tl_1_365, w ∈ lw_tbl := fun w h => tm_1_364 w (List.mem_cons_of_mem _ h)
theorem tm_1_366 : ∀ w ∈ tl_1_366, w ∈ lw_tbl := fun w h => tm_1_365 w (List.mem_cons_of_mem _ h)
theorem w_366 : Cond.instanceMethod yX6_readBoth ∈ gTB := gTB_of (tm_1_366 _ List.mem_cons_self) rfl
theorem tm_1_367 : ∀ w ∈ tl_1_367, w ∈ lw_tbl := fun w h => tm_1_366 w (List.mem_cons_of_mem _ h)
theorem w_367 : Cond.code yX6_readBoth cX6_readBoth 3 (some (.boolean)) ∈ gTB := gTB_of (tm_1_367 _ List.mem_cons_self) rfl
theorem tm_1_368 : ∀ w ∈ tl_1_368, w ∈ lw_tbl := fun w h => tm_1_367 w (List.mem_cons_of_mem _ h)
theorem w_368 : Cond.methodLink RX6 52 yX6_readNot ∈ gTB := gTB_of (tm_1_368 _ List.mem_cons_self) rfl
theorem tm_1_369 : ∀ w ∈ tl_1_369, w ∈ lw_tbl := fun w h => tm_1_368 w (List.mem_cons_of_mem _ h)
theorem tm_1_370 : ∀ w ∈ tl_1_370, w ∈ lw_tbl := fun w h => tm_1_369 w (List.mem_cons_of_mem _ h)
theorem w_370 : Cond.instanceMethod yX6_readNot ∈ gTB := gTB_of (tm_1_370 _ List.mem_cons_self) rfl
theorem tm_1_371 : ∀ w ∈ tl_1_371, w ∈ lw_tbl := fun w h => tm_1_370 w (List.mem_cons_of_mem _ h)
theorem w_371 : Cond.code yX6_readNot cX6_readNot 3 (some (.boolean)) ∈ gTB := gTB_of (tm_1_371 _ List.mem_cons_self) rfl
theorem tm_1_372 : ∀ w ∈ tl_1_372, w ∈ lw_tbl := fun w h => tm_1_371 w (List.mem_cons_of_mem _ h)
theorem w_372 : Cond.methodLink RX6 48 yX7_add ∈ gTB := gTB_of (tm_1_372 _ List.mem_cons_self) rfl
theorem tm_1_373 : ∀ w ∈ tl_1_373, w ∈ lw_tbl := fun w h => tm_1_372 w (List.mem_cons_of_mem _ h)
theorem w_373 : Cond.instanceMethod yX7_add ∈ gTB := gTB_of (tm_1_373 _ List.mem_cons_self) rfl
theorem tm_1_374 : ∀ w ∈ tl_1_374, w ∈ lw_tbl := fun w h => tm_1_373 w (List.mem_cons_of_mem _ h)
theorem w_374 : Cond.selects RX7 yX7_add yX7_add ∈ gTB := gTB_of (tm_1_374 _ List.mem_cons_self) rfl
theorem tm_1_375 : ∀ w ∈ tl_1_375, w ∈ lw_tbl := fun w h => tm_1_374 w (List.mem_cons_of_mem _ h)
theorem w_375 : Cond.code yX7_add cX7_add 2 (none) ∈ gTB := gTB_of (tm_1_375 _ List.mem_cons_self) rfl
theorem tm_1_376 : ∀ w ∈ tl_1_376, w ∈ lw_tbl := fun w h => tm_1_375 w (List.mem_cons_of_mem _ h)
theorem w_376 : Cond.methodLink RX6 55 yX6_readSum ∈ gTB := gTB_of (tm_1_376 _ List.mem_cons_self) rfl
theorem tm_1_377 : ∀ w ∈ tl_1_377, w ∈ lw_tbl := fun w h => tm_1_376 w (List.mem_cons_of_mem _ h)
theorem tm_1_378 : ∀ w ∈ tl_1_378, w ∈ lw_tbl := fun w h => tm_1_377 w (List.mem_cons_of_mem _ h)
theorem w_378 : Cond.instanceMethod yX6_readSum ∈ gTB := gTB_of (tm_1_378 _ List.mem_cons_self) rfl
theorem tm_1_379 : ∀ w ∈ tl_1_379, w ∈ lw_tbl := fun w h => tm_1_378 w (List.mem_cons_of_mem _ h)
theorem w_379 : Cond.code yX6_readSum cX6_readSum 4 (some (.boolean)) ∈ gTB := gTB_of (tm_1_379 _ List.mem_cons_self) rfl
theorem tm_1_380 : ∀ w ∈ tl_1_380, w ∈ lw_tbl := fun w h => tm_1_379 w (List.mem_cons_of_mem _ h)
theorem w_380 : Cond.methodLink RX6 58 yX6_readTerm ∈ gTB := gTB_of (tm_1_380 _ List.mem_cons_self) rfl
theorem tm_1_381 : ∀ w ∈ tl_1_381, w ∈ lw_tbl := fun w h => tm_1_380 w (List.mem_cons_of_mem _ h)
theorem tm_1_382 : ∀ w ∈ tl_1_382, w ∈ lw_tbl := fun w h => tm_1_381 w (List.mem_cons_of_mem _ h)
theorem w_382 : Cond.instanceMethod yX6_readTerm ∈ gTB := gTB_of (tm_1_382 _ List.mem_cons_self) rfl
theorem tm_1_383 : ∀ w ∈ tl_1_383, w ∈ lw_tbl := fun w h => tm_1_382 w (List.mem_cons_of_mem _ h)
theorem w_383 : Cond.code yX6_readTerm cX6_readTerm 3 (some (.boolean)) ∈ gTB := gTB_of (tm_1_383 _ List.mem_cons_self) rfl
theorem tm_1_384 : ∀ w ∈ tl_1_384, w ∈ lw_tbl := fun w h => tm_1_383 w (List.mem_cons_of_mem _ h)
theorem w_384 : Cond.methodLink RX6 61 yX6_readOne ∈ gTB := gTB_of (tm_1_384 _ List.mem_cons_self) rfl
theorem tm_1_385 : ∀ w ∈ tl_1_385, w ∈ lw_tbl := fun w h => tm_1_384 w (List.mem_cons_of_mem _ h)
theorem tm_1_386 : ∀ w ∈ tl_1_386, w ∈ lw_tbl := fun w h => tm_1_385 w (List.mem_cons_of_mem _ h)
theorem w_386 : Cond.instanceMethod yX6_readOne ∈ gTB := gTB_of (tm_1_386 _ List.mem_cons_self) rfl
theorem tm_1_387 : ∀ w ∈ tl_1_387, w ∈ lw_tbl := fun w h => tm_1_386 w (List.mem_cons_of_mem _ h)
theorem w_387 : Cond.code yX6_readOne cX6_readOne 2 (some (.boolean)) ∈ gTB := gTB_of (tm_1_387 _ List.mem_cons_self) rfl
theorem tm_1_388 : ∀ w ∈ tl_1_388, w ∈ lw_tbl := fun w h => tm_1_387 w (List.mem_cons_of_mem _ h)
theorem w_388 : Cond.fieldLink "CrierOfBorough" 11 "CrierOfBorough" "texts" "[LCrierOfBorough$Text;" ∈ gTB := gTB_of (tm_1_388 _ List.mem_cons_self) rfl
theorem tm_1_389 : ∀ w ∈ tl_1_389, w ∈ lw_tbl := fun w h => tm_1_388 w (List.mem_cons_of_mem _ h)
theorem w_389 : Cond.fieldLink "CrierOfBorough" 17 "CrierOfBorough" "sheets" "[LCrierOfBorough$Sheet;" ∈ gTB := gTB_of (tm_1_389 _ List.mem_cons_self) rfl
theorem tm_1_390 : ∀ w ∈ tl_1_390, w ∈ lw_tbl := fun w h => tm_1_389 w (List.mem_cons_of_mem _ h)
theorem w_390 : Cond.fieldLink "CrierOfBorough" 24 "CrierOfBorough" "tape" "LCrierOfBorough$Tape;" ∈ gTB := gTB_of (tm_1_390 _ List.mem_cons_self) rfl
theorem tm_1_391 : ∀ w ∈ tl_1_391, w ∈ lw_tbl := fun w h => tm_1_390 w (List.mem_cons_of_mem _ h)
theorem w_391 : Cond.fieldLink "CrierOfBorough" 57 "CrierOfBorough" "now" "LCrierOfBorough$World;" ∈ gTB := gTB_of (tm_1_391 _ List.mem_cons_self) rfl
theorem tm_1_392 : ∀ w ∈ tl_1_392, w ∈ lw_tbl := fun w h => tm_1_391 w (List.mem_cons_of_mem _ h)
theorem w_392 : Cond.fieldLink "CrierOfBorough" 61 "CrierOfBorough" "thought" "LCrierOfBorough$World;" ∈ gTB := gTB_of (tm_1_392 _ List.mem_cons_self) rfl
theorem tm_1_393 : ∀ w ∈ tl_1_393, w ∈ lw_tbl := fun w h => tm_1_392 w (List.mem_cons_of_mem _ h)
theorem w_393 : Cond.fieldLink "CrierOfBorough" 64 "CrierOfBorough" "kept" "LCrierOfBorough$World;" ∈ gTB := gTB_of (tm_1_393 _ List.mem_cons_self) rfl
theorem tm_1_394 : ∀ w ∈ tl_1_394, w ∈ lw_tbl := fun w h => tm_1_393 w (List.mem_cons_of_mem _ h)
theorem w_394 : Cond.fieldLink "CrierOfBorough" 28 "CrierOfBorough" "mayAround" "[I" ∈ gTB := gTB_of (tm_1_394 _ List.mem_cons_self) rfl
theorem tm_1_395 : ∀ w ∈ tl_1_395, w ∈ lw_tbl := fun w h => tm_1_394 w (List.mem_cons_of_mem _ h)
theorem w_395 : Cond.fieldLink "CrierOfBorough" 235 "CrierOfBorough" "isKept" "Z" ∈ gTB := gTB_of (tm_1_395 _ List.mem_cons_self) rfl
theorem tm_1_396 : ∀ w ∈ tl_1_396, w ∈ lw_tbl := fun w h => tm_1_395 w (List.mem_cons_of_mem _ h)
theorem w_396 : Cond.fieldLink "CrierOfBorough" 91 "CrierOfBorough" "textCount" "I" ∈ gTB := gTB_of (tm_1_396 _ List.mem_cons_self) rfl
theorem tm_1_397 : ∀ w ∈ tl_1_397, w ∈ lw_tbl := fun w h => tm_1_396 w (List.mem_cons_of_mem _ h)
theorem w_397 : Cond.laysFinal "CrierOfBorough" "CrierOfBorough" "texts" "[LCrierOfBorough$Text;" ∈ gTB := gTB_of (tm_1_397 _ List.mem_cons_self) rfl
theorem tm_1_398 : ∀ w ∈ tl_1_398, w ∈ lw_tbl := fun w h => tm_1_397 w (List.mem_cons_of_mem _ h)
theorem tm_1_399 : ∀ w ∈ tl_1_399, w ∈ lw_tbl := fun w h => tm_1_398 w (List.mem_cons_of_mem _ h)
theorem w_399 : Cond.laysFinal "CrierOfBorough" "CrierOfBorough" "sheets" "[LCrierOfBorough$Sheet;" ∈ gTB := gTB_of (tm_1_399 _ List.mem_cons_self) rfl
theorem tm_1_400 : ∀ w ∈ tl_1_400, w ∈ lw_tbl := fun w h => tm_1_399 w (List.mem_cons_of_mem _ h)
theorem tm_1_401 : ∀ w ∈ tl_1_401, w ∈ lw_tbl := fun w h => tm_1_400 w (List.mem_cons_of_mem _ h)
theorem w_401 : Cond.laysFinal "CrierOfBorough" "CrierOfBorough" "tape" "LCrierOfBorough$Tape;" ∈ gTB := gTB_of (tm_1_401 _ List.mem_cons_self) rfl
theorem tm_1_402 : ∀ w ∈ tl_1_402, w ∈ lw_tbl := fun w h => tm_1_401 w (List.mem_cons_of_mem _ h)
theorem tm_1_403 : ∀ w ∈ tl_1_403, w ∈ lw_tbl := fun w h => tm_1_402 w (List.mem_cons_of_mem _ h)
theorem w_403 : Cond.laysFinal "CrierOfBorough" "CrierOfBorough" "now" "LCrierOfBorough$World;" ∈ gTB := gTB_of (tm_1_403 _ List.mem_cons_self) rfl
theorem tm_1_404 : ∀ w ∈ tl_1_404, w ∈ lw_tbl := fun w h => tm_1_403 w (List.mem_cons_of_mem _ h)
theorem tm_1_405 : ∀ w ∈ tl_1_405, w ∈ lw_tbl := fun w h => tm_1_404 w (List.mem_cons_of_mem _ h)
theorem w_405 : Cond.laysFinal "CrierOfBorough" "CrierOfBorough" "thought" "LCrierOfBorough$World;" ∈ gTB := gTB_of (tm_1_405 _ List.mem_cons_self) rfl
theorem tm_1_406 : ∀ w ∈ tl_1_406, w ∈ lw_tbl := fun w h => tm_1_405 w (List.mem_cons_of_mem _ h)
theorem tm_1_407 : ∀ w ∈ tl_1_407, w ∈ lw_tbl := fun w h => tm_1_406 w (List.mem_cons_of_mem _ h)
theorem w_407 : Cond.laysFinal "CrierOfBorough" "CrierOfBorough" "kept" "LCrierOfBorough$World;" ∈ gTB := gTB_of (tm_1_407 _ List.mem_cons_self) rfl
theorem tm_1_408 : ∀ w ∈ tl_1_408, w ∈ lw_tbl := fun w h => tm_1_407 w (List.mem_cons_of_mem _ h)
theorem tm_1_409 : ∀ w ∈ tl_1_409, w ∈ lw_tbl := fun w h => tm_1_408 w (List.mem_cons_of_mem _ h)
theorem w_409 : Cond.laysFinal "CrierOfBorough" "CrierOfBorough" "mayAround" "[I" ∈ gTB := gTB_of (tm_1_409 _ List.mem_cons_self) rfl
theorem tm_1_410 : ∀ w ∈ tl_1_410, w ∈ lw_tbl := fun w h => tm_1_409 w (List.mem_cons_of_mem _ h)
theorem tm_1_411 : ∀ w ∈ tl_1_411, w ∈ lw_tbl := fun w h => tm_1_410 w (List.mem_cons_of_mem _ h)
theorem w_411 : Cond.lays "CrierOfBorough" "CrierOfBorough" "isKept" "Z" ∈ gTB := gTB_of (tm_1_411 _ List.mem_cons_self) rfl
theorem tm_1_412 : ∀ w ∈ tl_1_412, w ∈ lw_tbl := fun w h => tm_1_411 w (List.mem_cons_of_mem _ h)
theorem tm_1_413 : ∀ w ∈ tl_1_413, w ∈ lw_tbl := fun w h => tm_1_412 w (List.mem_cons_of_mem _ h)
theorem w_413 : Cond.lays "CrierOfBorough" "CrierOfBorough" "textCount" "I" ∈ gTB := gTB_of (tm_1_413 _ List.mem_cons_self) rfl
theorem tm_1_414 : ∀ w ∈ tl_1_414, w ∈ lw_tbl := fun w h => tm_1_413 w (List.mem_cons_of_mem _ h)
theorem tm_1_415 : ∀ w ∈ tl_1_415, w ∈ lw_tbl := fun w h => tm_1_414 w (List.mem_cons_of_mem _ h)
theorem w_415 : Cond.superclass RX10 "java/lang/Object" ∈ gTB := gTB_of (tm_1_415 _ List.mem_cons_self) rfl
theorem tm_1_416 : ∀ w ∈ tl_1_416, w ∈ lw_tbl := fun w h => tm_1_415 w (List.mem_cons_of_mem _ h)
theorem tm_1_417 : ∀ w ∈ tl_1_417, w ∈ lw_tbl := fun w h => tm_1_416 w (List.mem_cons_of_mem _ h)
theorem w_417 : Cond.methodLink RL 13 yX10_count ∈ gTB := gTB_of (tm_1_417 _ List.mem_cons_self) rfl
theorem tm_1_418 : ∀ w ∈ tl_1_418, w ∈ lw_tbl := fun w h => tm_1_417 w (List.mem_cons_of_mem _ h)
theorem w_418 : Cond.instanceMethod yX10_count ∈ gTB := gTB_of (tm_1_418 _ List.mem_cons_self) rfl
theorem tm_1_419 : ∀ w ∈ tl_1_419, w ∈ lw_tbl := fun w h => tm_1_418 w (List.mem_cons_of_mem _ h)
theorem w_419 : Cond.selects RX10 yX10_count yX10_count ∈ gTB := gTB_of (tm_1_419 _ List.mem_cons_self) rfl
theorem tm_1_420 : ∀ w ∈ tl_1_420, w ∈ lw_tbl := fun w h => tm_1_419 w (List.mem_cons_of_mem _ h)
theorem w_420 : Cond.code yX10_count cX10_count 2 (some (.int)) ∈ gTB := gTB_of (tm_1_420 _ List.mem_cons_self) rfl
theorem tm_1_421 : ∀ w ∈ tl_1_421, w ∈ lw_tbl := fun w h => tm_1_420 w (List.mem_cons_of_mem _ h)
theorem w_421 : Cond.methodLink RX10 103 yJ6_bitCount_0f7a4 ∈ gTB := gTB_of (tm_1_421 _ List.mem_cons_self) rfl
theorem tm_1_422 : ∀ w ∈ tl_1_422, w ∈ lw_tbl := fun w h => tm_1_421 w (List.mem_cons_of_mem _ h)
theorem w_422 : Cond.static yJ6_bitCount_0f7a4 ∈ gTB := gTB_of (tm_1_422 _ List.mem_cons_self) rfl
theorem tm_1_423 : ∀ w ∈ tl_1_423, w ∈ lw_tbl := fun w h => tm_1_422 w (List.mem_cons_of_mem _ h)
theorem w_423 : Cond.code yJ6_bitCount_0f7a4 cJ6_bitCount_0f7a4 1 (some (.int)) ∈ gTB := gTB_of (tm_1_423 _ List.mem_cons_self) rfl
theorem tm_1_424 : ∀ w ∈ tl_1_424, w ∈ lw_tbl := fun w h => tm_1_423 w (List.mem_cons_of_mem _ h)
theorem w_424 : Cond.constant RJ6 265 (1431655765 : Int32) ∈ gTB := gTB_of (tm_1_424 _ List.mem_cons_self) rfl
theorem tm_1_425 : ∀ w ∈ tl_1_425, w ∈ lw_tbl := fun w h => tm_1_424 w (List.mem_cons_of_mem _ h)
theorem w_425 : Cond.constant RJ6 266 (858993459 : Int32) ∈ gTB := gTB_of (tm_1_425 _ List.mem_cons_self) rfl
theorem tm_1_426 : ∀ w ∈ tl_1_426, w ∈ lw_tbl := fun w h => tm_1_425 w (List.mem_cons_of_mem _ h)
theorem w_426 : Cond.constant RJ6 267 (252645135 : Int32) ∈ gTB := gTB_of (tm_1_426 _ List.mem_cons_self) rfl
theorem tm_1_427 : ∀ w ∈ tl_1_427, w ∈ lw_tbl := fun w h => tm_1_426 w (List.mem_cons_of_mem _ h)
theorem w_427 : Cond.methodLink RL 18 yX10_borough ∈ gTB := gTB_of (tm_1_427 _ List.mem_cons_self) rfl
theorem tm_1_428 : ∀ w ∈ tl_1_428, w ∈ lw_tbl := fun w h => tm_1_427 w (List.mem_cons_of_mem _ h)
theorem w_428 : Cond.instanceMethod yX10_borough ∈ gTB := gTB_of (tm_1_428 _ List.mem_cons_self) rfl
theorem tm_1_429 : ∀ w ∈ tl_1_429, w ∈ lw_tbl := fun w h => tm_1_428 w (List.mem_cons_of_mem _ h)
theorem w_429 : Cond.selects RX10 yX10_borough yX10_borough ∈ gTB := gTB_of (tm_1_429 _ List.mem_cons_self) rfl
theorem tm_1_430 : ∀ w ∈ tl_1_430, w ∈ lw_tbl := fun w h => tm_1_429 w (List.mem_cons_of_mem _ h)
theorem w_430 : Cond.code yX10_borough cX10_borough 4 (some (.int)) ∈ gTB := gTB_of (tm_1_430 _ List.mem_cons_self) rfl
theorem tm_1_431 : ∀ w ∈ tl_1_431, w ∈ lw_tbl := fun w h => tm_1_430 w (List.mem_cons_of_mem _ h)
theorem w_431 : Cond.methodLink RX10 112 yX10_within ∈ gTB := gTB_of (tm_1_431 _ List.mem_cons_self) rfl
theorem tm_1_432 : ∀ w ∈ tl_1_432, w ∈ lw_tbl := fun w h => tm_1_431 w (List.mem_cons_of_mem _ h)
theorem w_432 : Cond.methodLink RX10 116 yX10_mostOfBorough ∈ gTB := gTB_of (tm_1_432 _ List.mem_cons_self) rfl
theorem tm_1_433 : ∀ w ∈ tl_1_433, w ∈ lw_tbl := fun w h => tm_1_432 w (List.mem_cons_of_mem _ h)
theorem w_433 : Cond.static yX10_mostOfBorough ∈ gTB := gTB_of (tm_1_433 _ List.mem_cons_self) rfl
theorem tm_1_434 : ∀ w ∈ tl_1_434, w ∈ lw_tbl := fun w h => tm_1_433 w (List.mem_cons_of_mem _ h)
theorem w_434 : Cond.code yX10_mostOfBorough cX10_mostOfBorough 1 (some (.int)) ∈ gTB := gTB_of (tm_1_434 _ List.mem_cons_self) rfl
theorem tm_1_435 : ∀ w ∈ tl_1_435, w ∈ lw_tbl := fun w h => tm_1_434 w (List.mem_cons_of_mem _ h)
theorem w_435 : Cond.methodLink RX10 119 yX10_ofBorough ∈ gTB := gTB_of (tm_1_435 _ List.mem_cons_self) rfl
theorem tm_1_436 : ∀ w ∈ tl_1_436, w ∈ lw_tbl := fun w h => tm_1_435 w (List.mem_cons_of_mem _ h)
theorem tm_1_437 : ∀ w ∈ tl_1_437, w ∈ lw_tbl := fun w h => tm_1_436 w (List.mem_cons_of_mem _ h)
theorem w_437 : Cond.instanceMethod yX10_ofBorough ∈ gTB := gTB_of (tm_1_437 _ List.mem_cons_self) rfl
theorem tm_1_438 : ∀ w ∈ tl_1_438, w ∈ lw_tbl := fun w h => tm_1_437 w (List.mem_cons_of_mem _ h)
theorem w_438 : Cond.code yX10_ofBorough cX10_ofBorough 2 (some (.int)) ∈ gTB := gTB_of (tm_1_438 _ List.mem_cons_self) rfl
theorem tm_1_439 : ∀ w ∈ tl_1_439, w ∈ lw_tbl := fun w h => tm_1_438 w (List.mem_cons_of_mem _ h)
theorem w_439 : Cond.methodLink RL 23 yX10_crier ∈ gTB := gTB_of (tm_1_439 _ List.mem_cons_self) rfl
theorem tm_1_440 : ∀ w ∈ tl_1_440, w ∈ lw_tbl := fun w h => tm_1_439 w (List.mem_cons_of_mem _ h)
theorem w_440 : Cond.instanceMethod yX10_crier ∈ gTB := gTB_of (tm_1_440 _ List.mem_cons_self) rfl
theorem tm_1_441 : ∀ w ∈ tl_1_441, w ∈ lw_tbl := fun w h => tm_1_440 w (List.mem_cons_of_mem _ h)
theorem w_441 : Cond.selects RX10 yX10_crier yX10_crier ∈ gTB := gTB_of (tm_1_441 _ List.mem_cons_self) rfl
theorem tm_1_442 : ∀ w ∈ tl_1_442, w ∈ lw_tbl := fun w h => tm_1_441 w (List.mem_cons_of_mem _ h)
theorem w_442 : Cond.code yX10_crier cX10_crier 2 (some (.int)) ∈ gTB := gTB_of (tm_1_442 _ List.mem_cons_self) rfl
theorem tm_1_443 : ∀ w ∈ tl_1_443, w ∈ lw_tbl := fun w h => tm_1_442 w (List.mem_cons_of_mem _ h)
theorem w_443 : Cond.methodLink RX10 128 yX9_mayAt ∈ gTB := gTB_of (tm_1_443 _ List.mem_cons_self) rfl
theorem tm_1_444 : ∀ w ∈ tl_1_444, w ∈ lw_tbl := fun w h => tm_1_443 w (List.mem_cons_of_mem _ h)
theorem w_444 : Cond.instanceMethod yX9_mayAt ∈ gTB := gTB_of (tm_1_444 _ List.mem_cons_self) rfl
theorem tm_1_445 : ∀ w ∈ tl_1_445, w ∈ lw_tbl := fun w h => tm_1_444 w (List.mem_cons_of_mem _ h)
theorem w_445 : Cond.selects RX9 yX9_mayAt yX9_mayAt ∈ gTB := gTB_of (tm_1_445 _ List.mem_cons_self) rfl
theorem tm_1_446 : ∀ w ∈ tl_1_446, w ∈ lw_tbl := fun w h => tm_1_445 w (List.mem_cons_of_mem _ h)
theorem w_446 : Cond.code yX9_mayAt cX9_mayAt 5 (some (.int)) ∈ gTB := gTB_of (tm_1_446 _ List.mem_cons_self) rfl
theorem tm_1_447 : ∀ w ∈ tl_1_447, w ∈ lw_tbl := fun w h => tm_1_446 w (List.mem_cons_of_mem _ h)
theorem w_447 : Cond.methodLink RX9 108 yX9_listens ∈ gTB := gTB_of (tm_1_447 _ List.mem_cons_self) rfl
theorem tm_1_448 : ∀ w ∈ tl_1_448, w ∈ lw_tbl := fun w h => tm_1_447 w (List.mem_cons_of_mem _ h)
theorem w_448 : Cond.instanceMethod yX9_listens ∈ gTB := gTB_of (tm_1_448 _ List.mem_cons_self) rfl
theorem tm_1_449 : ∀ w ∈ tl_1_449, w ∈ lw_tbl := fun w h => tm_1_448 w (List.mem_cons_of_mem _ h)
theorem w_449 : Cond.selects RX9 yX9_listens yX9_listens ∈ gTB := gTB_of (tm_1_449 _ List.mem_cons_self) rfl
theorem tm_1_450 : ∀ w ∈ tl_1_450, w ∈ lw_tbl := fun w h => tm_1_449 w (List.mem_cons_of_mem _ h)
theorem w_450 : Cond.code yX9_listens cX9_listens 2 (some (.boolean)) ∈ gTB := gTB_of (tm_1_450 _ List.mem_cons_self) rfl
theorem tm_1_451 : ∀ w ∈ tl_1_451, w ∈ lw_tbl := fun w h => tm_1_450 w (List.mem_cons_of_mem _ h)
theorem w_451 : Cond.methodLink RX9 86 yX9_nature ∈ gTB := gTB_of (tm_1_451 _ List.mem_cons_self) rfl
theorem tm_1_452 : ∀ w ∈ tl_1_452, w ∈ lw_tbl := fun w h => tm_1_451 w (List.mem_cons_of_mem _ h)
theorem w_452 : Cond.instanceMethod yX9_nature ∈ gTB := gTB_of (tm_1_452 _ List.mem_cons_self) rfl
theorem tm_1_453 : ∀ w ∈ tl_1_453, w ∈ lw_tbl := fun w h => tm_1_452 w (List.mem_cons_of_mem _ h)
theorem w_453 : Cond.selects RX9 yX9_nature yX9_nature ∈ gTB := gTB_of (tm_1_453 _ List.mem_cons_self) rfl
theorem tm_1_454 : ∀ w ∈ tl_1_454, w ∈ lw_tbl := fun w h => tm_1_453 w (List.mem_cons_of_mem _ h)
theorem w_454 : Cond.code yX9_nature cX9_nature 2 (some (.object "CrierOfBorough$Citizen")) ∈ gTB := gTB_of (tm_1_454 _ List.mem_cons_self) rfl
theorem tm_1_455 : ∀ w ∈ tl_1_455, w ∈ lw_tbl := fun w h => tm_1_454 w (List.mem_cons_of_mem _ h)
theorem w_455 : Cond.methodLink RX9 96 yX0_hears ∈ gTB := gTB_of (tm_1_455 _ List.mem_cons_self) rfl
theorem tm_1_456 : ∀ w ∈ tl_1_456, w ∈ lw_tbl := fun w h => tm_1_455 w (List.mem_cons_of_mem _ h)
theorem w_456 : Cond.instanceMethod yX0_hears ∈ gTB := gTB_of (tm_1_456 _ List.mem_cons_self) rfl
theorem tm_1_457 : ∀ w ∈ tl_1_457, w ∈ lw_tbl := fun w h => tm_1_456 w (List.mem_cons_of_mem _ h)
theorem w_457 : Cond.selects RX0 yX0_hears yX0_hears ∈ gTB := gTB_of (tm_1_457 _ List.mem_cons_self) rfl
theorem tm_1_458 : ∀ w ∈ tl_1_458, w ∈ lw_tbl := fun w h => tm_1_457 w (List.mem_cons_of_mem _ h)
theorem w_458 : Cond.sameMethod "CrierOfBorough$Citizen" "CrierOfBorough$Citizen" "hears" "(ZII)Z" ∈ gTB := gTB_of (tm_1_458 _ List.mem_cons_self) rfl
theorem tm_1_459 : ∀ w ∈ tl_1_459, w ∈ lw_tbl := fun w h => tm_1_458 w (List.mem_cons_of_mem _ h)
theorem w_459 : Cond.selects RX1 yX0_hears yX1_hears ∈ gTB := gTB_of (tm_1_459 _ List.mem_cons_self) rfl
theorem tm_1_460 : ∀ w ∈ tl_1_460, w ∈ lw_tbl := fun w h => tm_1_459 w (List.mem_cons_of_mem _ h)
theorem w_460 : Cond.instanceMethod yX1_hears ∈ gTB := gTB_of (tm_1_460 _ List.mem_cons_self) rfl
theorem tm_1_461 : ∀ w ∈ tl_1_461, w ∈ lw_tbl := fun w h => tm_1_460 w (List.mem_cons_of_mem _ h)
theorem w_461 : Cond.code yX1_hears cX1_hears 4 (some (.boolean)) ∈ gTB := gTB_of (tm_1_461 _ List.mem_cons_self) rfl
theorem tm_1_462 : ∀ w ∈ tl_1_462, w ∈ lw_tbl := fun w h => tm_1_461 w (List.mem_cons_of_mem _ h)
theorem w_462 : Cond.selects RX2 yX0_hears yX1_hears ∈ gTB := gTB_of (tm_1_462 _ List.mem_cons_self) rfl
theorem tm_1_463 : ∀ w ∈ tl_1_463, w ∈ lw_tbl := fun w h => tm_1_462 w (List.mem_cons_of_mem _ h)
theorem w_463 : Cond.selects RX3 yX0_hears yX0_hears ∈ gTB := gTB_of (tm_1_463 _ List.mem_cons_self) rfl
theorem tm_1_464 : ∀ w ∈ tl_1_464, w ∈ lw_tbl := fun w h => tm_1_463 w (List.mem_cons_of_mem _ h)
theorem w_464 : Cond.selects RX5 yX0_hears yX0_hears ∈ gTB := gTB_of (tm_1_464 _ List.mem_cons_self) rfl
theorem tm_1_465 : ∀ w ∈ tl_1_465, w ∈ lw_tbl := fun w h => tm_1_464 w (List.mem_cons_of_mem _ h)
theorem w_465 : Cond.selects RX8 yX0_hears yX8_hears ∈ gTB := gTB_of (tm_1_465 _ List.mem_cons_self) rfl
theorem tm_1_466 : ∀ w ∈ tl_1_466, w ∈ lw_tbl := fun w h => tm_1_465 w (List.mem_cons_of_mem _ h)
theorem w_466 : Cond.instanceMethod yX8_hears ∈ gTB := gTB_of (tm_1_466 _ List.mem_cons_self) rfl
theorem tm_1_467 : ∀ w ∈ tl_1_467, w ∈ lw_tbl := fun w h => tm_1_466 w (List.mem_cons_of_mem _ h)
theorem w_467 : Cond.code yX8_hears cX8_hears 4 (some (.boolean)) ∈ gTB := gTB_of (tm_1_467 _ List.mem_cons_self) rfl
theorem tm_1_468 : ∀ w ∈ tl_1_468, w ∈ lw_tbl := fun w h => tm_1_467 w (List.mem_cons_of_mem _ h)
theorem w_468 : Cond.code yX0_hears cX0_hears 4 (some (.boolean)) ∈ gTB := gTB_of (tm_1_468 _ List.mem_cons_self) rfl
theorem tm_1_469 : ∀ w ∈ tl_1_469, w ∈ lw_tbl := fun w h => tm_1_468 w (List.mem_cons_of_mem _ h)
theorem w_469 : Cond.methodLink RX9 112 yX9_wishedBy ∈ gTB := gTB_of (tm_1_469 _ List.mem_cons_self) rfl
theorem tm_1_470 : ∀ w ∈ tl_1_470, w ∈ lw_tbl := fun w h => tm_1_469 w (List.mem_cons_of_mem _ h)
theorem w_470 : Cond.instanceMethod yX9_wishedBy ∈ gTB := gTB_of (tm_1_470 _ List.mem_cons_self) rfl
theorem tm_1_471 : ∀ w ∈ tl_1_471, w ∈ lw_tbl := fun w h => tm_1_470 w (List.mem_cons_of_mem _ h)
theorem w_471 : Cond.selects RX9 yX9_wishedBy yX9_wishedBy ∈ gTB := gTB_of (tm_1_471 _ List.mem_cons_self) rfl
theorem tm_1_472 : ∀ w ∈ tl_1_472, w ∈ lw_tbl := fun w h => tm_1_471 w (List.mem_cons_of_mem _ h)
theorem w_472 : Cond.code yX9_wishedBy cX9_wishedBy 8 (some (.int)) ∈ gTB := gTB_of (tm_1_472 _ List.mem_cons_self) rfl
theorem tm_1_473 : ∀ w ∈ tl_1_473, w ∈ lw_tbl := fun w h => tm_1_472 w (List.mem_cons_of_mem _ h)
theorem w_473 : Cond.methodLink RX9 66 yX9_name ∈ gTB := gTB_of (tm_1_473 _ List.mem_cons_self) rfl
theorem tm_1_474 : ∀ w ∈ tl_1_474, w ∈ lw_tbl := fun w h => tm_1_473 w (List.mem_cons_of_mem _ h)
theorem tm_1_475 : ∀ w ∈ tl_1_475, w ∈ lw_tbl := fun w h => tm_1_474 w (List.mem_cons_of_mem _ h)
theorem w_475 : Cond.instanceMethod yX9_name ∈ gTB := gTB_of (tm_1_475 _ List.mem_cons_self) rfl
theorem tm_1_476 : ∀ w ∈ tl_1_476, w ∈ lw_tbl := fun w h => tm_1_475 w (List.mem_cons_of_mem _ h)
theorem w_476 : Cond.code yX9_name cX9_name 3 (none) ∈ gTB := gTB_of (tm_1_476 _ List.mem_cons_self) rfl
theorem tm_1_477 : ∀ w ∈ tl_1_477, w ∈ lw_tbl := fun w h => tm_1_476 w (List.mem_cons_of_mem _ h)
theorem w_477 : Cond.methodLink RX9 76 yJ6_bitCount_0f7a4 ∈ gTB := gTB_of (tm_1_477 _ List.mem_cons_self) rfl
theorem tm_1_478 : ∀ w ∈ tl_1_478, w ∈ lw_tbl := fun w h => tm_1_477 w (List.mem_cons_of_mem _ h)
theorem w_478 : Cond.methodLinkNest RX9 82 yX10_isIn RX10 ∈ lw_tbl := tm_1_478 _ List.mem_cons_self
theorem tm_1_479 : ∀ w ∈ tl_1_479, w ∈ lw_tbl := fun w h => tm_1_478 w (List.mem_cons_of_mem _ h)
theorem w_479 : Cond.static yX10_isIn ∈ gTB := gTB_of (tm_1_479 _ List.mem_cons_self) rfl
def tl_2_720 : List Cond := []
def tl_2_719 : List Cond := (Cond.code yX10_evils cX10_evils 8 (some (.int))) :: tl_2_720
def tl_2_718 : List Cond := (Cond.selects RX10 yX10_evils yX10_evils) :: tl_2_719
def tl_2_717 : List Cond := (Cond.instanceMethod yX10_evils) :: tl_2_718
def tl_2_716 : List Cond := (Cond.methodLink RL 115 yX10_evils) :: tl_2_717
def tl_2_715 : List Cond := (Cond.code yX10_turned cX10_turned 8 (some (.int))) :: tl_2_716
def tl_2_714 : List Cond := (Cond.selects RX10 yX10_turned yX10_turned) :: tl_2_715
def tl_2_713 : List Cond := (Cond.instanceMethod yX10_turned) :: tl_2_714
def tl_2_712 : List Cond := (Cond.methodLink RL 111 yX10_turned) :: tl_2_713
def tl_2_711 : List Cond := (Cond.code yX10_corners cX10_corners 6 (some (.int))) :: tl_2_712
def tl_2_710 : List Cond := (Cond.selects RX10 yX10_corners yX10_corners) :: tl_2_711
def tl_2_709 : List Cond := (Cond.instanceMethod yX10_corners) :: tl_2_710
def tl_2_708 : List Cond := (Cond.methodLink RL 107 yX10_corners) :: tl_2_709
def tl_2_707 : List Cond := (Cond.code yX10_kinds cX10_kinds 8 (some (.int))) :: tl_2_708
def tl_2_706 : List Cond := (Cond.selects RX10 yX10_kinds yX10_kinds) :: tl_2_707
def tl_2_705 : List Cond := (Cond.instanceMethod yX10_kinds) :: tl_2_706
def tl_2_704 : List Cond := (Cond.methodLink RL 103 yX10_kinds) :: tl_2_705
def tl_2_703 : List Cond := (Cond.code yX10_otherwise cX10_otherwise 3 (some (.int))) :: tl_2_704
def tl_2_702 : List Cond := (Cond.instanceMethod yX10_otherwise) :: tl_2_703
def tl_2_701 : List Cond := ((Jvm.Cond.privateMethod ({ cls := "CrierOfBorough", name := "otherwise", desc := "(LCrierOfBorough$Sheet;)I" } : Jvm.MethodName))) :: tl_2_702
def tl_2_700 : List Cond := (Cond.methodLink RX10 215 yX10_otherwise) :: tl_2_701
def tl_2_699 : List Cond := (Cond.code yX10_refusalToJudge cX10_refusalToJudge 2 (some (.int))) :: tl_2_700
def tl_2_698 : List Cond := (Cond.instanceMethod yX10_refusalToJudge) :: tl_2_699
def tl_2_697 : List Cond := ((Jvm.Cond.privateMethod ({ cls := "CrierOfBorough", name := "refusalToJudge", desc := "(I)I" } : Jvm.MethodName))) :: tl_2_698
def tl_2_696 : List Cond := (Cond.methodLink RX10 212 yX10_refusalToJudge) :: tl_2_697
def tl_2_695 : List Cond := (Cond.code yX10_judge cX10_judge 3 (some (.int))) :: tl_2_696
def tl_2_694 : List Cond := (Cond.selects RX10 yX10_judge yX10_judge) :: tl_2_695
def tl_2_693 : List Cond := (Cond.instanceMethod yX10_judge) :: tl_2_694
def tl_2_692 : List Cond := (Cond.methodLink RL 99 yX10_judge) :: tl_2_693
def tl_2_691 : List Cond := (Cond.code yX10_lowest cX10_lowest 7 (some (.long))) :: tl_2_692
def tl_2_690 : List Cond := (Cond.static yX10_lowest) :: tl_2_691
def tl_2_689 : List Cond := (Cond.methodLink RX10 208 yX10_lowest) :: tl_2_690
def tl_2_688 : List Cond := (Cond.constantLong RX10 206 (-4611686018427387904 : Int64)) :: tl_2_689
def tl_2_687 : List Cond := (Cond.code yX10_mean cX10_mean 4 (some (.long))) :: tl_2_688
def tl_2_686 : List Cond := (Cond.selects RX10 yX10_mean yX10_mean) :: tl_2_687
def tl_2_685 : List Cond := (Cond.instanceMethod yX10_mean) :: tl_2_686
def tl_2_684 : List Cond := (Cond.methodLink RL 94 yX10_mean) :: tl_2_685
def tl_2_683 : List Cond := (Cond.code yX10_mayAtAny cX10_mayAtAny 4 (some (.int))) :: tl_2_684
def tl_2_682 : List Cond := (Cond.instanceMethod yX10_mayAtAny) :: tl_2_683
def tl_2_681 : List Cond := ((Jvm.Cond.privateMethod ({ cls := "CrierOfBorough", name := "mayAtAny", desc := "(I)I" } : Jvm.MethodName))) :: tl_2_682
def tl_2_680 : List Cond := (Cond.methodLink RX10 203 yX10_mayAtAny) :: tl_2_681
def tl_2_679 : List Cond := (Cond.code yX10_round cX10_round 6 (some (.int))) :: tl_2_680
def tl_2_678 : List Cond := (Cond.selects RX10 yX10_round yX10_round) :: tl_2_679
def tl_2_677 : List Cond := (Cond.instanceMethod yX10_round) :: tl_2_678
def tl_2_676 : List Cond := (Cond.methodLink RL 90 yX10_round) :: tl_2_677
def tl_2_675 : List Cond := (Cond.code yX10_wishersAt cX10_wishersAt 6 (some (.int))) :: tl_2_676
def tl_2_674 : List Cond := (Cond.instanceMethod yX10_wishersAt) :: tl_2_675
def tl_2_673 : List Cond := ((Jvm.Cond.privateMethod ({ cls := "CrierOfBorough", name := "wishersAt", desc := "(II)I" } : Jvm.MethodName))) :: tl_2_674
def tl_2_672 : List Cond := (Cond.methodLink RX10 196 yX10_wishersAt) :: tl_2_673
def tl_2_671 : List Cond := (Cond.code yX10_hush cX10_hush 6 (some (.int))) :: tl_2_672
def tl_2_670 : List Cond := (Cond.selects RX10 yX10_hush yX10_hush) :: tl_2_671
def tl_2_669 : List Cond := (Cond.instanceMethod yX10_hush) :: tl_2_670
def tl_2_668 : List Cond := (Cond.methodLink RL 86 yX10_hush) :: tl_2_669
def tl_2_667 : List Cond := (Cond.code yX10_windows cX10_windows 7 (some (.int))) :: tl_2_668
def tl_2_666 : List Cond := (Cond.selects RX10 yX10_windows yX10_windows) :: tl_2_667
def tl_2_665 : List Cond := (Cond.instanceMethod yX10_windows) :: tl_2_666
def tl_2_664 : List Cond := (Cond.methodLink RL 82 yX10_windows) :: tl_2_665
def tl_2_663 : List Cond := (Cond.code yX10_begin cX10_begin 7 (some (.int))) :: tl_2_664
def tl_2_662 : List Cond := (Cond.selects RX10 yX10_begin yX10_begin) :: tl_2_663
def tl_2_661 : List Cond := (Cond.instanceMethod yX10_begin) :: tl_2_662
def tl_2_660 : List Cond := (Cond.methodLink RL 78 yX10_begin) :: tl_2_661
def tl_2_659 : List Cond := (Cond.code yX10_where cX10_where 6 (some (.int))) :: tl_2_660
def tl_2_658 : List Cond := (Cond.selects RX10 yX10_where yX10_where) :: tl_2_659
def tl_2_657 : List Cond := (Cond.instanceMethod yX10_where) :: tl_2_658
def tl_2_656 : List Cond := (Cond.methodLink RL 74 yX10_where) :: tl_2_657
def tl_2_655 : List Cond := (Cond.code yX10_isSoInThought cX10_isSoInThought 3 (some (.boolean))) :: tl_2_656
def tl_2_654 : List Cond := (Cond.instanceMethod yX10_isSoInThought) :: tl_2_655
def tl_2_653 : List Cond := ((Jvm.Cond.privateMethod ({ cls := "CrierOfBorough", name := "isSoInThought", desc := "(I)Z" } : Jvm.MethodName))) :: tl_2_654
def tl_2_652 : List Cond := (Cond.methodLink RX10 190 yX10_isSoInThought) :: tl_2_653
def tl_2_651 : List Cond := (Cond.code yX10_when cX10_when 4 (some (.int))) :: tl_2_652
def tl_2_650 : List Cond := (Cond.selects RX10 yX10_when yX10_when) :: tl_2_651
def tl_2_649 : List Cond := (Cond.instanceMethod yX10_when) :: tl_2_650
def tl_2_648 : List Cond := (Cond.methodLink RL 70 yX10_when) :: tl_2_649
def tl_2_647 : List Cond := (Cond.code yX9_knownTogether cX9_knownTogether 3 (some (.int))) :: tl_2_648
def tl_2_646 : List Cond := (Cond.selects RX9 yX9_knownTogether yX9_knownTogether) :: tl_2_647
def tl_2_645 : List Cond := (Cond.instanceMethod yX9_knownTogether) :: tl_2_646
def tl_2_644 : List Cond := (Cond.methodLink RX10 181 yX9_knownTogether) :: tl_2_645
def tl_2_643 : List Cond := (Cond.methodLink RX9 136 yX9_pass) :: tl_2_644
def tl_2_642 : List Cond := (Cond.code yX9_passMany cX9_passMany 4 (some (.int))) :: tl_2_643
def tl_2_641 : List Cond := (Cond.selects RX9 yX9_passMany yX9_passMany) :: tl_2_642
def tl_2_640 : List Cond := (Cond.instanceMethod yX9_passMany) :: tl_2_641
def tl_2_639 : List Cond := (Cond.methodLink RX10 178 yX9_passMany) :: tl_2_640
def tl_2_638 : List Cond := ((Jvm.Cond.native ({ cls := "java/lang/System", name := "arraycopy", desc := "(Ljava/lang/Object;ILjava/lang/Object;II)V" } : Jvm.MethodName))) :: tl_2_639
def tl_2_637 : List Cond := (Cond.static ⟨"java/lang/System", "arraycopy", "(Ljava/lang/Object;ILjava/lang/Object;II)V"⟩) :: tl_2_638
def tl_2_636 : List Cond := (Cond.methodLink RX9 60 ⟨"java/lang/System", "arraycopy", "(Ljava/lang/Object;ILjava/lang/Object;II)V"⟩) :: tl_2_637
def tl_2_635 : List Cond := (Cond.code yX9_become cX9_become 2 (none)) :: tl_2_636
def tl_2_634 : List Cond := (Cond.selects RX9 yX9_become yX9_become) :: tl_2_635
def tl_2_633 : List Cond := (Cond.instanceMethod yX9_become) :: tl_2_634
def tl_2_632 : List Cond := (Cond.methodLink RX10 174 yX9_become) :: tl_2_633
def tl_2_631 : List Cond := (Cond.code yX10_run cX10_run 5 (some (.int))) :: tl_2_632
def tl_2_630 : List Cond := (Cond.selects RX10 yX10_run yX10_run) :: tl_2_631
def tl_2_629 : List Cond := (Cond.instanceMethod yX10_run) :: tl_2_630
def tl_2_628 : List Cond := (Cond.methodLink RL 66 yX10_run) :: tl_2_629
def tl_2_627 : List Cond := (Cond.code yJ9_floorMod_7cf53 cJ9_floorMod_7cf53 3 (some (.int))) :: tl_2_628
def tl_2_626 : List Cond := (Cond.static yJ9_floorMod_7cf53) :: tl_2_627
def tl_2_625 : List Cond := (Cond.methodLink RX9 131 yJ9_floorMod_7cf53) :: tl_2_626
def tl_2_624 : List Cond := (Cond.methodLink RX9 128 yX9_goes) :: tl_2_625
def tl_2_623 : List Cond := (Cond.code yX9_knownBeside cX9_knownBeside 4 (some (.int))) :: tl_2_624
def tl_2_622 : List Cond := (Cond.instanceMethod yX9_knownBeside) :: tl_2_623
def tl_2_621 : List Cond := ((Jvm.Cond.privateMethod ({ cls := "CrierOfBorough$World", name := "knownBeside", desc := "(I)I" } : Jvm.MethodName))) :: tl_2_622
def tl_2_620 : List Cond := (Cond.methodLink RX9 125 yX9_knownBeside) :: tl_2_621
def tl_2_619 : List Cond := (Cond.code yX9_cry cX9_cry 3 (none)) :: tl_2_620
def tl_2_618 : List Cond := (Cond.instanceMethod yX9_cry) :: tl_2_619
def tl_2_617 : List Cond := ((Jvm.Cond.privateMethod ({ cls := "CrierOfBorough$World", name := "cry", desc := "(I)V" } : Jvm.MethodName))) :: tl_2_618
def tl_2_616 : List Cond := (Cond.methodLink RX9 121 yX9_cry) :: tl_2_617
def tl_2_615 : List Cond := ((Jvm.Cond.methodLinkNest "CrierOfBorough$World" (118 : Nat) ({ cls := "CrierOfBorough", name := "firstOf", desc := "(I)I" } : Jvm.MethodName) "CrierOfBorough")) :: tl_2_616
def tl_2_614 : List Cond := (Cond.methodLink RX9 115 yX9_mayAt) :: tl_2_615
def tl_2_613 : List Cond := (Cond.code yX9_pass cX9_pass 3 (some (.int))) :: tl_2_614
def tl_2_612 : List Cond := (Cond.selects RX9 yX9_pass yX9_pass) :: tl_2_613
def tl_2_611 : List Cond := (Cond.instanceMethod yX9_pass) :: tl_2_612
def tl_2_610 : List Cond := (Cond.methodLink RX10 171 yX9_pass) :: tl_2_611
def tl_2_609 : List Cond := (Cond.code yX10_hour cX10_hour 1 (some (.int))) :: tl_2_610
def tl_2_608 : List Cond := (Cond.selects RX10 yX10_hour yX10_hour) :: tl_2_609
def tl_2_607 : List Cond := (Cond.instanceMethod yX10_hour) :: tl_2_608
def tl_2_606 : List Cond := (Cond.methodLink RL 62 yX10_hour) :: tl_2_607
def tl_2_605 : List Cond := (Cond.code yX9_listenersAt cX9_listenersAt 4 (some (.int))) :: tl_2_606
def tl_2_604 : List Cond := (Cond.selects RX9 yX9_listenersAt yX9_listenersAt) :: tl_2_605
def tl_2_603 : List Cond := (Cond.instanceMethod yX9_listenersAt) :: tl_2_604
def tl_2_602 : List Cond := (Cond.methodLink RX10 168 yX9_listenersAt) :: tl_2_603
def tl_2_601 : List Cond := (Cond.code yX9_peopleAt cX9_peopleAt 4 (some (.int))) :: tl_2_602
def tl_2_600 : List Cond := (Cond.selects RX9 yX9_peopleAt yX9_peopleAt) :: tl_2_601
def tl_2_599 : List Cond := (Cond.instanceMethod yX9_peopleAt) :: tl_2_600
def tl_2_598 : List Cond := (Cond.methodLink RX10 165 yX9_peopleAt) :: tl_2_599
def tl_2_597 : List Cond := (Cond.code yX10_ring cX10_ring 3 (some (.int))) :: tl_2_598
def tl_2_596 : List Cond := (Cond.selects RX10 yX10_ring yX10_ring) :: tl_2_597
def tl_2_595 : List Cond := (Cond.instanceMethod yX10_ring) :: tl_2_596
def tl_2_594 : List Cond := (Cond.methodLink RL 58 yX10_ring) :: tl_2_595
def tl_2_593 : List Cond := (Cond.code yX0_goesOn cX0_goesOn 3 (some (.int))) :: tl_2_594
def tl_2_592 : List Cond := (Cond.selects RX8 yX0_goesOn yX3_goesOn) :: tl_2_593
def tl_2_591 : List Cond := (Cond.code yX5_goesOn cX5_goesOn 3 (some (.int))) :: tl_2_592
def tl_2_590 : List Cond := (Cond.instanceMethod yX5_goesOn) :: tl_2_591
def tl_2_589 : List Cond := (Cond.selects RX5 yX0_goesOn yX5_goesOn) :: tl_2_590
def tl_2_588 : List Cond := (Cond.code yX3_goesOn cX3_goesOn 3 (some (.int))) :: tl_2_589
def tl_2_587 : List Cond := (Cond.instanceMethod yX3_goesOn) :: tl_2_588
def tl_2_586 : List Cond := (Cond.selects RX3 yX0_goesOn yX3_goesOn) :: tl_2_587
def tl_2_585 : List Cond := (Cond.methodLink RX2 15 yX1_goesOn) :: tl_2_586
def tl_2_584 : List Cond := (Cond.code yX2_goesOn cX2_goesOn 3 (some (.int))) :: tl_2_585
def tl_2_583 : List Cond := (Cond.instanceMethod yX2_goesOn) :: tl_2_584
def tl_2_582 : List Cond := (Cond.selects RX2 yX0_goesOn yX2_goesOn) :: tl_2_583
def tl_2_581 : List Cond := (Cond.code yX1_goesOn cX1_goesOn 3 (some (.int))) :: tl_2_582
def tl_2_580 : List Cond := (Cond.instanceMethod yX1_goesOn) :: tl_2_581
def tl_2_579 : List Cond := (Cond.selects RX1 yX0_goesOn yX1_goesOn) :: tl_2_580
def tl_2_578 : List Cond := (Cond.sameMethod "CrierOfBorough$Citizen" "CrierOfBorough$Citizen" "goesOn" "(II)I") :: tl_2_579
def tl_2_577 : List Cond := (Cond.selects RX0 yX0_goesOn yX0_goesOn) :: tl_2_578
def tl_2_576 : List Cond := (Cond.instanceMethod yX0_goesOn) :: tl_2_577
def tl_2_575 : List Cond := (Cond.methodLink RX9 104 yX0_goesOn) :: tl_2_576
def tl_2_574 : List Cond := (Cond.methodLink RX9 100 yX9_saidOf) :: tl_2_575
def tl_2_573 : List Cond := (Cond.code yX9_goes cX9_goes 2 (some (.int))) :: tl_2_574
def tl_2_572 : List Cond := (Cond.selects RX9 yX9_goes yX9_goes) :: tl_2_573
def tl_2_571 : List Cond := (Cond.instanceMethod yX9_goes) :: tl_2_572
def tl_2_570 : List Cond := (Cond.methodLink RX10 162 yX9_goes) :: tl_2_571
def tl_2_569 : List Cond := (Cond.methodLink RX10 159 yX9_listens) :: tl_2_570
def tl_2_568 : List Cond := (Cond.methodLink RX10 156 yX9_wishedBy) :: tl_2_569
def tl_2_567 : List Cond := (Cond.code yX10_told cX10_told 3 (some (.int))) :: tl_2_568
def tl_2_566 : List Cond := (Cond.selects RX10 yX10_told yX10_told) :: tl_2_567
def tl_2_565 : List Cond := (Cond.instanceMethod yX10_told) :: tl_2_566
def tl_2_564 : List Cond := (Cond.methodLink RL 54 yX10_told) :: tl_2_565
def tl_2_563 : List Cond := (Cond.code yX9_row cX9_row 2 (some (.array .int))) :: tl_2_564
def tl_2_562 : List Cond := (Cond.selects RX9 yX9_row yX9_row) :: tl_2_563
def tl_2_561 : List Cond := (Cond.instanceMethod yX9_row) :: tl_2_562
def tl_2_560 : List Cond := (Cond.methodLink RX10 152 yX9_row) :: tl_2_561
def tl_2_559 : List Cond := ((Jvm.Cond.laysStatic "CrierOfBorough" "MOST_PUT" "[I")) :: tl_2_560
def tl_2_558 : List Cond := (Cond.fieldLink "CrierOfBorough" 149 "CrierOfBorough" "MOST_PUT" "[I") :: tl_2_559
def tl_2_557 : List Cond := (Cond.code yX10_put cX10_put 6 (some (.int))) :: tl_2_558
def tl_2_556 : List Cond := (Cond.selects RX10 yX10_put yX10_put) :: tl_2_557
def tl_2_555 : List Cond := (Cond.instanceMethod yX10_put) :: tl_2_556
def tl_2_554 : List Cond := (Cond.methodLink RL 50 yX10_put) :: tl_2_555
def tl_2_553 : List Cond := (Cond.code yX9_settle cX9_settle 5 (some (.int))) :: tl_2_554
def tl_2_552 : List Cond := (Cond.selects RX9 yX9_settle yX9_settle) :: tl_2_553
def tl_2_551 : List Cond := (Cond.instanceMethod yX9_settle) :: tl_2_552
def tl_2_550 : List Cond := (Cond.methodLink RX10 146 yX9_settle) :: tl_2_551
def tl_2_549 : List Cond := (Cond.code yX10_citizen cX10_citizen 5 (some (.int))) :: tl_2_550
def tl_2_548 : List Cond := (Cond.selects RX10 yX10_citizen yX10_citizen) :: tl_2_549
def tl_2_547 : List Cond := (Cond.instanceMethod yX10_citizen) :: tl_2_548
def tl_2_546 : List Cond := (Cond.methodLink RL 46 yX10_citizen) :: tl_2_547
def tl_2_545 : List Cond := (Cond.code yX9_saidOf cX9_saidOf 4 (some (.int))) :: tl_2_546
def tl_2_544 : List Cond := (Cond.selects RX9 yX9_saidOf yX9_saidOf) :: tl_2_545
def tl_2_543 : List Cond := (Cond.instanceMethod yX9_saidOf) :: tl_2_544
def tl_2_542 : List Cond := (Cond.methodLink RX10 142 yX9_saidOf) :: tl_2_543
def tl_2_541 : List Cond := (Cond.code yX9_isOne cX9_isOne 2 (some (.boolean))) :: tl_2_542
def tl_2_540 : List Cond := (Cond.selects RX9 yX9_isOne yX9_isOne) :: tl_2_541
def tl_2_539 : List Cond := (Cond.instanceMethod yX9_isOne) :: tl_2_540
def tl_2_538 : List Cond := (Cond.methodLink RX10 139 yX9_isOne) :: tl_2_539
def tl_2_537 : List Cond := (Cond.code yX10_asks cX10_asks 4 (some (.int))) :: tl_2_538
def tl_2_536 : List Cond := (Cond.selects RX10 yX10_asks yX10_asks) :: tl_2_537
def tl_2_535 : List Cond := (Cond.instanceMethod yX10_asks) :: tl_2_536
def tl_2_534 : List Cond := (Cond.methodLink RL 41 yX10_asks) :: tl_2_535
def tl_2_533 : List Cond := (Cond.code yX10_force cX10_force 3 (some (.int))) :: tl_2_534
def tl_2_532 : List Cond := (Cond.selects RX10 yX10_force yX10_force) :: tl_2_533
def tl_2_531 : List Cond := (Cond.instanceMethod yX10_force) :: tl_2_532
def tl_2_530 : List Cond := (Cond.methodLink RL 37 yX10_force) :: tl_2_531
def tl_2_529 : List Cond := (Cond.code yX10_text cX10_text 2 (some (.int))) :: tl_2_530
def tl_2_528 : List Cond := (Cond.selects RX10 yX10_text yX10_text) :: tl_2_529
def tl_2_527 : List Cond := (Cond.instanceMethod yX10_text) :: tl_2_528
def tl_2_526 : List Cond := (Cond.methodLink RL 32 yX10_text) :: tl_2_527
def tl_2_525 : List Cond := (Cond.code yX10_isByte cX10_isByte 1 (some (.boolean))) :: tl_2_526
def tl_2_524 : List Cond := (Cond.static yX10_isByte) :: tl_2_525
def tl_2_523 : List Cond := (Cond.methodLink RX10 135 yX10_isByte) :: tl_2_524
def tl_2_522 : List Cond := (Cond.code yX10_feed cX10_feed 8 (some (.int))) :: tl_2_523
def tl_2_521 : List Cond := (Cond.selects RX10 yX10_feed yX10_feed) :: tl_2_522
def tl_2_520 : List Cond := (Cond.instanceMethod yX10_feed) :: tl_2_521
def tl_2_519 : List Cond := (Cond.methodLink RL 27 yX10_feed) :: tl_2_520
def tl_2_518 : List Cond := (Cond.methodLink RX10 199 yX10_isIn) :: tl_2_519
def tl_2_517 : List Cond := (Cond.code yX10_firstOf cX10_firstOf 2 (some (.int))) :: tl_2_518
def tl_2_516 : List Cond := (Cond.static yX10_firstOf) :: tl_2_517
def tl_2_515 : List Cond := (Cond.methodLink RX10 132 yX10_firstOf) :: tl_2_516
def tl_2_514 : List Cond := (Cond.code yX0_wishes cX0_wishes 6 (some (.boolean))) :: tl_2_515
def tl_2_513 : List Cond := (Cond.methodLink RX8 11 yX3_wishes) :: tl_2_514
def tl_2_512 : List Cond := (Cond.code yX8_wishes cX8_wishes 6 (some (.boolean))) :: tl_2_513
def tl_2_511 : List Cond := (Cond.instanceMethod yX8_wishes) :: tl_2_512
def tl_2_510 : List Cond := (Cond.selects RX8 yX0_wishes yX8_wishes) :: tl_2_511
def tl_2_509 : List Cond := (Cond.code yX5_wishes cX5_wishes 6 (some (.boolean))) :: tl_2_510
def tl_2_508 : List Cond := (Cond.instanceMethod yX5_wishes) :: tl_2_509
def tl_2_507 : List Cond := (Cond.selects RX5 yX0_wishes yX5_wishes) :: tl_2_508
def tl_2_506 : List Cond := (Cond.code yX3_wishes cX3_wishes 6 (some (.boolean))) :: tl_2_507
def tl_2_505 : List Cond := (Cond.instanceMethod yX3_wishes) :: tl_2_506
def tl_2_504 : List Cond := (Cond.selects RX3 yX0_wishes yX3_wishes) :: tl_2_505
def tl_2_503 : List Cond := ((Jvm.Cond.declares ({ cls := "CrierOfBorough$Citizen", name := "wishes", desc := "(ZIIII)Z" } : Jvm.MethodName))) :: tl_2_504
def tl_2_502 : List Cond := (Cond.sameMethod "CrierOfBorough$Deaf" "CrierOfBorough$Citizen" "wishes" "(ZIIII)Z") :: tl_2_503
def tl_2_501 : List Cond := (Cond.methodLink RX2 11 ⟨"CrierOfBorough$Deaf", "wishes", "(ZIIII)Z"⟩) :: tl_2_502
def tl_2_500 : List Cond := (Cond.code yX2_wishes cX2_wishes 6 (some (.boolean))) :: tl_2_501
def tl_2_499 : List Cond := (Cond.instanceMethod yX2_wishes) :: tl_2_500
def tl_2_498 : List Cond := (Cond.selects RX2 yX0_wishes yX2_wishes) :: tl_2_499
def tl_2_497 : List Cond := (Cond.selects RX1 yX0_wishes yX0_wishes) :: tl_2_498
def tl_2_496 : List Cond := (Cond.sameMethod "CrierOfBorough$Citizen" "CrierOfBorough$Citizen" "wishes" "(ZIIII)Z") :: tl_2_497
def tl_2_495 : List Cond := (Cond.selects RX0 yX0_wishes yX0_wishes) :: tl_2_496
def tl_2_494 : List Cond := (Cond.instanceMethod yX0_wishes) :: tl_2_495
def tl_2_493 : List Cond := (Cond.methodLink RX9 90 yX0_wishes) :: tl_2_494
def tl_2_492 : List Cond := (Cond.methodLink RX7 39 yJ9_max_7cf53) :: tl_2_493
def tl_2_491 : List Cond := (Cond.methodLink RX7 33 yJ9_min_7cf53) :: tl_2_492
def tl_2_490 : List Cond := (Cond.code yX7_worth cX7_worth 4 (some (.int))) :: tl_2_491
def tl_2_489 : List Cond := (Cond.static yX7_worth) :: tl_2_490
def tl_2_488 : List Cond := (Cond.methodLink RX7 29 yX7_worth) :: tl_2_489
def tl_2_487 : List Cond := (Cond.code yX7_valuesTaken cX7_valuesTaken 1 (some (.int))) :: tl_2_488
def tl_2_486 : List Cond := (Cond.static yX7_valuesTaken) :: tl_2_487
def tl_2_485 : List Cond := (Cond.methodLink RX7 25 yX7_valuesTaken) :: tl_2_486
def tl_2_484 : List Cond := (Cond.code yX7_says cX7_says 8 (some (.int))) :: tl_2_485
def tl_2_483 : List Cond := (Cond.selects RX7 yX7_says yX7_says) :: tl_2_484
def tl_2_482 : List Cond := (Cond.instanceMethod yX7_says) :: tl_2_483
def tl_2_481 : List Cond := (Cond.methodLink RX9 70 yX7_says) :: tl_2_482
def tl_2_480 : List Cond := (Cond.code yX10_isIn cX10_isIn 2 (some (.boolean))) :: tl_2_481
set_option maxRecDepth 100000 in
theorem te_2 : tables_1_3 = tl_2_480 := rfl
theorem tm_2_480 : ∀ w ∈ tl_2_480, w ∈ lw_tbl := fun w h => by
  rw [← te_2] at h
  unfold lw_tbl tables_1
  exact List.mem_append_right _ (List.mem_append_right _ (List.mem_append_right _ (List.mem_append_left _ h)))
theorem w_480 : Cond.code yX10_isIn cX10_isIn 2 (some (.boolean)) ∈ gTB := gTB_of (tm_2_480 _ List.mem_cons_self) rfl
theorem tm_2_481 : ∀ w ∈ tl_2_481, w ∈ lw_tbl := fun w h => tm_2_480 w (List.mem_cons_of_mem _ h)
theorem w_481 : Cond.methodLink RX9 70 yX7_says ∈ gTB := gTB_of (tm_2_481 _ List.mem_cons_self) rfl
theorem tm_2_482 : ∀ w ∈ tl_2_482, w ∈ lw_tbl := fun w h => tm_2_481 w (List.mem_cons_of_mem _ h)
theorem w_482 : Cond.instanceMethod yX7_says ∈ gTB := gTB_of (tm_2_482 _ List.mem_cons_self) rfl
theorem tm_2_483 : ∀ w ∈ tl_2_483, w ∈ lw_tbl := fun w h => tm_2_482 w (List.mem_cons_of_mem _ h)
theorem w_483 : Cond.selects RX7 yX7_says yX7_says ∈ gTB := gTB_of (tm_2_483 _ List.mem_cons_self) rfl
theorem tm_2_484 : ∀ w ∈ tl_2_484, w ∈ lw_tbl := fun w h => tm_2_483 w (List.mem_cons_of_mem _ h)
theorem w_484 : Cond.code yX7_says cX7_says 8 (some (.int)) ∈ gTB := gTB_of (tm_2_484 _ List.mem_cons_self) rfl
theorem tm_2_485 : ∀ w ∈ tl_2_485, w ∈ lw_tbl := fun w h => tm_2_484 w (List.mem_cons_of_mem _ h)
theorem w_485 : Cond.methodLink RX7 25 yX7_valuesTaken ∈ gTB := gTB_of (tm_2_485 _ List.mem_cons_self) rfl
theorem tm_2_486 : ∀ w ∈ tl_2_486, w ∈ lw_tbl := fun w h => tm_2_485 w (List.mem_cons_of_mem _ h)
theorem w_486 : Cond.static yX7_valuesTaken ∈ gTB := gTB_of (tm_2_486 _ List.mem_cons_self) rfl
theorem tm_2_487 : ∀ w ∈ tl_2_487, w ∈ lw_tbl := fun w h => tm_2_486 w (List.mem_cons_of_mem _ h)
theorem w_487 : Cond.code yX7_valuesTaken cX7_valuesTaken 1 (some (.int)) ∈ gTB := gTB_of (tm_2_487 _ List.mem_cons_self) rfl
theorem tm_2_488 : ∀ w ∈ tl_2_488, w ∈ lw_tbl := fun w h => tm_2_487 w (List.mem_cons_of_mem _ h)
theorem w_488 : Cond.methodLink RX7 29 yX7_worth ∈ gTB := gTB_of (tm_2_488 _ List.mem_cons_self) rfl
theorem tm_2_489 : ∀ w ∈ tl_2_489, w ∈ lw_tbl := fun w h => tm_2_488 w (List.mem_cons_of_mem _ h)
theorem w_489 : Cond.static yX7_worth ∈ gTB := gTB_of (tm_2_489 _ List.mem_cons_self) rfl
theorem tm_2_490 : ∀ w ∈ tl_2_490, w ∈ lw_tbl := fun w h => tm_2_489 w (List.mem_cons_of_mem _ h)
theorem w_490 : Cond.code yX7_worth cX7_worth 4 (some (.int)) ∈ gTB := gTB_of (tm_2_490 _ List.mem_cons_self) rfl
theorem tm_2_491 : ∀ w ∈ tl_2_491, w ∈ lw_tbl := fun w h => tm_2_490 w (List.mem_cons_of_mem _ h)
theorem w_491 : Cond.methodLink RX7 33 yJ9_min_7cf53 ∈ gTB := gTB_of (tm_2_491 _ List.mem_cons_self) rfl
theorem tm_2_492 : ∀ w ∈ tl_2_492, w ∈ lw_tbl := fun w h => tm_2_491 w (List.mem_cons_of_mem _ h)
theorem w_492 : Cond.methodLink RX7 39 yJ9_max_7cf53 ∈ gTB := gTB_of (tm_2_492 _ List.mem_cons_self) rfl
theorem tm_2_493 : ∀ w ∈ tl_2_493, w ∈ lw_tbl := fun w h => tm_2_492 w (List.mem_cons_of_mem _ h)
theorem w_493 : Cond.methodLink RX9 90 yX0_wishes ∈ gTB := gTB_of (tm_2_493 _ List.mem_cons_self) rfl
theorem tm_2_494 : ∀ w ∈ tl_2_494, w ∈ lw_tbl := fun w h => tm_2_493 w (List.mem_cons_of_mem _ h)
theorem w_494 : Cond.instanceMethod yX0_wishes ∈ gTB := gTB_of (tm_2_494 _ List.mem_cons_self) rfl
theorem tm_2_495 : ∀ w ∈ tl_2_495, w ∈ lw_tbl := fun w h => tm_2_494 w (List.mem_cons_of_mem _ h)
theorem w_495 : Cond.selects RX0 yX0_wishes yX0_wishes ∈ gTB := gTB_of (tm_2_495 _ List.mem_cons_self) rfl
theorem tm_2_496 : ∀ w ∈ tl_2_496, w ∈ lw_tbl := fun w h => tm_2_495 w (List.mem_cons_of_mem _ h)
theorem w_496 : Cond.sameMethod "CrierOfBorough$Citizen" "CrierOfBorough$Citizen" "wishes" "(ZIIII)Z" ∈ gTB := gTB_of (tm_2_496 _ List.mem_cons_self) rfl
theorem tm_2_497 : ∀ w ∈ tl_2_497, w ∈ lw_tbl := fun w h => tm_2_496 w (List.mem_cons_of_mem _ h)
theorem w_497 : Cond.selects RX1 yX0_wishes yX0_wishes ∈ gTB := gTB_of (tm_2_497 _ List.mem_cons_self) rfl
theorem tm_2_498 : ∀ w ∈ tl_2_498, w ∈ lw_tbl := fun w h => tm_2_497 w (List.mem_cons_of_mem _ h)
theorem w_498 : Cond.selects RX2 yX0_wishes yX2_wishes ∈ gTB := gTB_of (tm_2_498 _ List.mem_cons_self) rfl
theorem tm_2_499 : ∀ w ∈ tl_2_499, w ∈ lw_tbl := fun w h => tm_2_498 w (List.mem_cons_of_mem _ h)
theorem w_499 : Cond.instanceMethod yX2_wishes ∈ gTB := gTB_of (tm_2_499 _ List.mem_cons_self) rfl
theorem tm_2_500 : ∀ w ∈ tl_2_500, w ∈ lw_tbl := fun w h => tm_2_499 w (List.mem_cons_of_mem _ h)
theorem w_500 : Cond.code yX2_wishes cX2_wishes 6 (some (.boolean)) ∈ gTB := gTB_of (tm_2_500 _ List.mem_cons_self) rfl
theorem tm_2_501 : ∀ w ∈ tl_2_501, w ∈ lw_tbl := fun w h => tm_2_500 w (List.mem_cons_of_mem _ h)
theorem w_501 : Cond.methodLink RX2 11 ⟨"CrierOfBorough$Deaf", "wishes", "(ZIIII)Z"⟩ ∈ gTB := gTB_of (tm_2_501 _ List.mem_cons_self) rfl
theorem tm_2_502 : ∀ w ∈ tl_2_502, w ∈ lw_tbl := fun w h => tm_2_501 w (List.mem_cons_of_mem _ h)
theorem w_502 : Cond.sameMethod "CrierOfBorough$Deaf" "CrierOfBorough$Citizen" "wishes" "(ZIIII)Z" ∈ gTB := gTB_of (tm_2_502 _ List.mem_cons_self) rfl
theorem tm_2_503 : ∀ w ∈ tl_2_503, w ∈ lw_tbl := fun w h => tm_2_502 w (List.mem_cons_of_mem _ h)
theorem tm_2_504 : ∀ w ∈ tl_2_504, w ∈ lw_tbl := fun w h => tm_2_503 w (List.mem_cons_of_mem _ h)
theorem w_504 : Cond.selects RX3 yX0_wishes yX3_wishes ∈ gTB := gTB_of (tm_2_504 _ List.mem_cons_self) rfl
theorem tm_2_505 : ∀ w ∈ tl_2_505, w ∈ lw_tbl := fun w h => tm_2_504 w (List.mem_cons_of_mem _ h)
theorem w_505 : Cond.instanceMethod yX3_wishes ∈ gTB := gTB_of (tm_2_505 _ List.mem_cons_self) rfl
theorem tm_2_506 : ∀ w ∈ tl_2_506, w ∈ lw_tbl := fun w h => tm_2_505 w (List.mem_cons_of_mem _ h)
theorem w_506 : Cond.code yX3_wishes cX3_wishes 6 (some (.boolean)) ∈ gTB := gTB_of (tm_2_506 _ List.mem_cons_self) rfl
theorem tm_2_507 : ∀ w ∈ tl_2_507, w ∈ lw_tbl := fun w h => tm_2_506 w (List.mem_cons_of_mem _ h)
theorem w_507 : Cond.selects RX5 yX0_wishes yX5_wishes ∈ gTB := gTB_of (tm_2_507 _ List.mem_cons_self) rfl
theorem tm_2_508 : ∀ w ∈ tl_2_508, w ∈ lw_tbl := fun w h => tm_2_507 w (List.mem_cons_of_mem _ h)
theorem w_508 : Cond.instanceMethod yX5_wishes ∈ gTB := gTB_of (tm_2_508 _ List.mem_cons_self) rfl
theorem tm_2_509 : ∀ w ∈ tl_2_509, w ∈ lw_tbl := fun w h => tm_2_508 w (List.mem_cons_of_mem _ h)
theorem w_509 : Cond.code yX5_wishes cX5_wishes 6 (some (.boolean)) ∈ gTB := gTB_of (tm_2_509 _ List.mem_cons_self) rfl
theorem tm_2_510 : ∀ w ∈ tl_2_510, w ∈ lw_tbl := fun w h => tm_2_509 w (List.mem_cons_of_mem _ h)
theorem w_510 : Cond.selects RX8 yX0_wishes yX8_wishes ∈ gTB := gTB_of (tm_2_510 _ List.mem_cons_self) rfl
theorem tm_2_511 : ∀ w ∈ tl_2_511, w ∈ lw_tbl := fun w h => tm_2_510 w (List.mem_cons_of_mem _ h)
theorem w_511 : Cond.instanceMethod yX8_wishes ∈ gTB := gTB_of (tm_2_511 _ List.mem_cons_self) rfl
theorem tm_2_512 : ∀ w ∈ tl_2_512, w ∈ lw_tbl := fun w h => tm_2_511 w (List.mem_cons_of_mem _ h)
theorem w_512 : Cond.code yX8_wishes cX8_wishes 6 (some (.boolean)) ∈ gTB := gTB_of (tm_2_512 _ List.mem_cons_self) rfl
theorem tm_2_513 : ∀ w ∈ tl_2_513, w ∈ lw_tbl := fun w h => tm_2_512 w (List.mem_cons_of_mem _ h)
theorem w_513 : Cond.methodLink RX8 11 yX3_wishes ∈ gTB := gTB_of (tm_2_513 _ List.mem_cons_self) rfl
theorem tm_2_514 : ∀ w ∈ tl_2_514, w ∈ lw_tbl := fun w h => tm_2_513 w (List.mem_cons_of_mem _ h)
theorem w_514 : Cond.code yX0_wishes cX0_wishes 6 (some (.boolean)) ∈ gTB := gTB_of (tm_2_514 _ List.mem_cons_self) rfl
theorem tm_2_515 : ∀ w ∈ tl_2_515, w ∈ lw_tbl := fun w h => tm_2_514 w (List.mem_cons_of_mem _ h)
theorem w_515 : Cond.methodLink RX10 132 yX10_firstOf ∈ gTB := gTB_of (tm_2_515 _ List.mem_cons_self) rfl
theorem tm_2_516 : ∀ w ∈ tl_2_516, w ∈ lw_tbl := fun w h => tm_2_515 w (List.mem_cons_of_mem _ h)
theorem w_516 : Cond.static yX10_firstOf ∈ gTB := gTB_of (tm_2_516 _ List.mem_cons_self) rfl
theorem tm_2_517 : ∀ w ∈ tl_2_517, w ∈ lw_tbl := fun w h => tm_2_516 w (List.mem_cons_of_mem _ h)
theorem w_517 : Cond.code yX10_firstOf cX10_firstOf 2 (some (.int)) ∈ gTB := gTB_of (tm_2_517 _ List.mem_cons_self) rfl
theorem tm_2_518 : ∀ w ∈ tl_2_518, w ∈ lw_tbl := fun w h => tm_2_517 w (List.mem_cons_of_mem _ h)
theorem w_518 : Cond.methodLink RX10 199 yX10_isIn ∈ gTB := gTB_of (tm_2_518 _ List.mem_cons_self) rfl
theorem tm_2_519 : ∀ w ∈ tl_2_519, w ∈ lw_tbl := fun w h => tm_2_518 w (List.mem_cons_of_mem _ h)
theorem w_519 : Cond.methodLink RL 27 yX10_feed ∈ gTB := gTB_of (tm_2_519 _ List.mem_cons_self) rfl
theorem tm_2_520 : ∀ w ∈ tl_2_520, w ∈ lw_tbl := fun w h => tm_2_519 w (List.mem_cons_of_mem _ h)
theorem w_520 : Cond.instanceMethod yX10_feed ∈ gTB := gTB_of (tm_2_520 _ List.mem_cons_self) rfl
theorem tm_2_521 : ∀ w ∈ tl_2_521, w ∈ lw_tbl := fun w h => tm_2_520 w (List.mem_cons_of_mem _ h)
theorem w_521 : Cond.selects RX10 yX10_feed yX10_feed ∈ gTB := gTB_of (tm_2_521 _ List.mem_cons_self) rfl
theorem tm_2_522 : ∀ w ∈ tl_2_522, w ∈ lw_tbl := fun w h => tm_2_521 w (List.mem_cons_of_mem _ h)
theorem w_522 : Cond.code yX10_feed cX10_feed 8 (some (.int)) ∈ gTB := gTB_of (tm_2_522 _ List.mem_cons_self) rfl
theorem tm_2_523 : ∀ w ∈ tl_2_523, w ∈ lw_tbl := fun w h => tm_2_522 w (List.mem_cons_of_mem _ h)
theorem w_523 : Cond.methodLink RX10 135 yX10_isByte ∈ gTB := gTB_of (tm_2_523 _ List.mem_cons_self) rfl
theorem tm_2_524 : ∀ w ∈ tl_2_524, w ∈ lw_tbl := fun w h => tm_2_523 w (List.mem_cons_of_mem _ h)
theorem w_524 : Cond.static yX10_isByte ∈ gTB := gTB_of (tm_2_524 _ List.mem_cons_self) rfl
theorem tm_2_525 : ∀ w ∈ tl_2_525, w ∈ lw_tbl := fun w h => tm_2_524 w (List.mem_cons_of_mem _ h)
theorem w_525 : Cond.code yX10_isByte cX10_isByte 1 (some (.boolean)) ∈ gTB := gTB_of (tm_2_525 _ List.mem_cons_self) rfl
theorem tm_2_526 : ∀ w ∈ tl_2_526, w ∈ lw_tbl := fun w h => tm_2_525 w (List.mem_cons_of_mem _ h)
theorem w_526 : Cond.methodLink RL 32 yX10_text ∈ gTB := gTB_of (tm_2_526 _ List.mem_cons_self) rfl
theorem tm_2_527 : ∀ w ∈ tl_2_527, w ∈ lw_tbl := fun w h => tm_2_526 w (List.mem_cons_of_mem _ h)
theorem w_527 : Cond.instanceMethod yX10_text ∈ gTB := gTB_of (tm_2_527 _ List.mem_cons_self) rfl
theorem tm_2_528 : ∀ w ∈ tl_2_528, w ∈ lw_tbl := fun w h => tm_2_527 w (List.mem_cons_of_mem _ h)
theorem w_528 : Cond.selects RX10 yX10_text yX10_text ∈ gTB := gTB_of (tm_2_528 _ List.mem_cons_self) rfl
theorem tm_2_529 : ∀ w ∈ tl_2_529, w ∈ lw_tbl := fun w h => tm_2_528 w (List.mem_cons_of_mem _ h)
theorem w_529 : Cond.code yX10_text cX10_text 2 (some (.int)) ∈ gTB := gTB_of (tm_2_529 _ List.mem_cons_self) rfl
theorem tm_2_530 : ∀ w ∈ tl_2_530, w ∈ lw_tbl := fun w h => tm_2_529 w (List.mem_cons_of_mem _ h)
theorem w_530 : Cond.methodLink RL 37 yX10_force ∈ gTB := gTB_of (tm_2_530 _ List.mem_cons_self) rfl
theorem tm_2_531 : ∀ w ∈ tl_2_531, w ∈ lw_tbl := fun w h => tm_2_530 w (List.mem_cons_of_mem _ h)
theorem w_531 : Cond.instanceMethod yX10_force ∈ gTB := gTB_of (tm_2_531 _ List.mem_cons_self) rfl
theorem tm_2_532 : ∀ w ∈ tl_2_532, w ∈ lw_tbl := fun w h => tm_2_531 w (List.mem_cons_of_mem _ h)
theorem w_532 : Cond.selects RX10 yX10_force yX10_force ∈ gTB := gTB_of (tm_2_532 _ List.mem_cons_self) rfl
theorem tm_2_533 : ∀ w ∈ tl_2_533, w ∈ lw_tbl := fun w h => tm_2_532 w (List.mem_cons_of_mem _ h)
theorem w_533 : Cond.code yX10_force cX10_force 3 (some (.int)) ∈ gTB := gTB_of (tm_2_533 _ List.mem_cons_self) rfl
theorem tm_2_534 : ∀ w ∈ tl_2_534, w ∈ lw_tbl := fun w h => tm_2_533 w (List.mem_cons_of_mem _ h)
theorem w_534 : Cond.methodLink RL 41 yX10_asks ∈ gTB := gTB_of (tm_2_534 _ List.mem_cons_self) rfl
theorem tm_2_535 : ∀ w ∈ tl_2_535, w ∈ lw_tbl := fun w h => tm_2_534 w (List.mem_cons_of_mem _ h)
theorem w_535 : Cond.instanceMethod yX10_asks ∈ gTB := gTB_of (tm_2_535 _ List.mem_cons_self) rfl
theorem tm_2_536 : ∀ w ∈ tl_2_536, w ∈ lw_tbl := fun w h => tm_2_535 w (List.mem_cons_of_mem _ h)
theorem w_536 : Cond.selects RX10 yX10_asks yX10_asks ∈ gTB := gTB_of (tm_2_536 _ List.mem_cons_self) rfl
theorem tm_2_537 : ∀ w ∈ tl_2_537, w ∈ lw_tbl := fun w h => tm_2_536 w (List.mem_cons_of_mem _ h)
theorem w_537 : Cond.code yX10_asks cX10_asks 4 (some (.int)) ∈ gTB := gTB_of (tm_2_537 _ List.mem_cons_self) rfl
theorem tm_2_538 : ∀ w ∈ tl_2_538, w ∈ lw_tbl := fun w h => tm_2_537 w (List.mem_cons_of_mem _ h)
theorem w_538 : Cond.methodLink RX10 139 yX9_isOne ∈ gTB := gTB_of (tm_2_538 _ List.mem_cons_self) rfl
theorem tm_2_539 : ∀ w ∈ tl_2_539, w ∈ lw_tbl := fun w h => tm_2_538 w (List.mem_cons_of_mem _ h)
theorem w_539 : Cond.instanceMethod yX9_isOne ∈ gTB := gTB_of (tm_2_539 _ List.mem_cons_self) rfl
theorem tm_2_540 : ∀ w ∈ tl_2_540, w ∈ lw_tbl := fun w h => tm_2_539 w (List.mem_cons_of_mem _ h)
theorem w_540 : Cond.selects RX9 yX9_isOne yX9_isOne ∈ gTB := gTB_of (tm_2_540 _ List.mem_cons_self) rfl
theorem tm_2_541 : ∀ w ∈ tl_2_541, w ∈ lw_tbl := fun w h => tm_2_540 w (List.mem_cons_of_mem _ h)
theorem w_541 : Cond.code yX9_isOne cX9_isOne 2 (some (.boolean)) ∈ gTB := gTB_of (tm_2_541 _ List.mem_cons_self) rfl
theorem tm_2_542 : ∀ w ∈ tl_2_542, w ∈ lw_tbl := fun w h => tm_2_541 w (List.mem_cons_of_mem _ h)
theorem w_542 : Cond.methodLink RX10 142 yX9_saidOf ∈ gTB := gTB_of (tm_2_542 _ List.mem_cons_self) rfl
theorem tm_2_543 : ∀ w ∈ tl_2_543, w ∈ lw_tbl := fun w h => tm_2_542 w (List.mem_cons_of_mem _ h)
theorem w_543 : Cond.instanceMethod yX9_saidOf ∈ gTB := gTB_of (tm_2_543 _ List.mem_cons_self) rfl
theorem tm_2_544 : ∀ w ∈ tl_2_544, w ∈ lw_tbl := fun w h => tm_2_543 w (List.mem_cons_of_mem _ h)
theorem w_544 : Cond.selects RX9 yX9_saidOf yX9_saidOf ∈ gTB := gTB_of (tm_2_544 _ List.mem_cons_self) rfl
theorem tm_2_545 : ∀ w ∈ tl_2_545, w ∈ lw_tbl := fun w h => tm_2_544 w (List.mem_cons_of_mem _ h)
theorem w_545 : Cond.code yX9_saidOf cX9_saidOf 4 (some (.int)) ∈ gTB := gTB_of (tm_2_545 _ List.mem_cons_self) rfl
theorem tm_2_546 : ∀ w ∈ tl_2_546, w ∈ lw_tbl := fun w h => tm_2_545 w (List.mem_cons_of_mem _ h)
theorem w_546 : Cond.methodLink RL 46 yX10_citizen ∈ gTB := gTB_of (tm_2_546 _ List.mem_cons_self) rfl
theorem tm_2_547 : ∀ w ∈ tl_2_547, w ∈ lw_tbl := fun w h => tm_2_546 w (List.mem_cons_of_mem _ h)
theorem w_547 : Cond.instanceMethod yX10_citizen ∈ gTB := gTB_of (tm_2_547 _ List.mem_cons_self) rfl
theorem tm_2_548 : ∀ w ∈ tl_2_548, w ∈ lw_tbl := fun w h => tm_2_547 w (List.mem_cons_of_mem _ h)
theorem w_548 : Cond.selects RX10 yX10_citizen yX10_citizen ∈ gTB := gTB_of (tm_2_548 _ List.mem_cons_self) rfl
theorem tm_2_549 : ∀ w ∈ tl_2_549, w ∈ lw_tbl := fun w h => tm_2_548 w (List.mem_cons_of_mem _ h)
theorem w_549 : Cond.code yX10_citizen cX10_citizen 5 (some (.int)) ∈ gTB := gTB_of (tm_2_549 _ List.mem_cons_self) rfl
theorem tm_2_550 : ∀ w ∈ tl_2_550, w ∈ lw_tbl := fun w h => tm_2_549 w (List.mem_cons_of_mem _ h)
theorem w_550 : Cond.methodLink RX10 146 yX9_settle ∈ gTB := gTB_of (tm_2_550 _ List.mem_cons_self) rfl
theorem tm_2_551 : ∀ w ∈ tl_2_551, w ∈ lw_tbl := fun w h => tm_2_550 w (List.mem_cons_of_mem _ h)
theorem w_551 : Cond.instanceMethod yX9_settle ∈ gTB := gTB_of (tm_2_551 _ List.mem_cons_self) rfl
theorem tm_2_552 : ∀ w ∈ tl_2_552, w ∈ lw_tbl := fun w h => tm_2_551 w (List.mem_cons_of_mem _ h)
theorem w_552 : Cond.selects RX9 yX9_settle yX9_settle ∈ gTB := gTB_of (tm_2_552 _ List.mem_cons_self) rfl
theorem tm_2_553 : ∀ w ∈ tl_2_553, w ∈ lw_tbl := fun w h => tm_2_552 w (List.mem_cons_of_mem _ h)
theorem w_553 : Cond.code yX9_settle cX9_settle 5 (some (.int)) ∈ gTB := gTB_of (tm_2_553 _ List.mem_cons_self) rfl
theorem tm_2_554 : ∀ w ∈ tl_2_554, w ∈ lw_tbl := fun w h => tm_2_553 w (List.mem_cons_of_mem _ h)
theorem w_554 : Cond.methodLink RL 50 yX10_put ∈ gTB := gTB_of (tm_2_554 _ List.mem_cons_self) rfl
theorem tm_2_555 : ∀ w ∈ tl_2_555, w ∈ lw_tbl := fun w h => tm_2_554 w (List.mem_cons_of_mem _ h)
theorem w_555 : Cond.instanceMethod yX10_put ∈ gTB := gTB_of (tm_2_555 _ List.mem_cons_self) rfl
theorem tm_2_556 : ∀ w ∈ tl_2_556, w ∈ lw_tbl := fun w h => tm_2_555 w (List.mem_cons_of_mem _ h)
theorem w_556 : Cond.selects RX10 yX10_put yX10_put ∈ gTB := gTB_of (tm_2_556 _ List.mem_cons_self) rfl
theorem tm_2_557 : ∀ w ∈ tl_2_557, w ∈ lw_tbl := fun w h => tm_2_556 w (List.mem_cons_of_mem _ h)
theorem w_557 : Cond.code yX10_put cX10_put 6 (some (.int)) ∈ gTB := gTB_of (tm_2_557 _ List.mem_cons_self) rfl
theorem tm_2_558 : ∀ w ∈ tl_2_558, w ∈ lw_tbl := fun w h => tm_2_557 w (List.mem_cons_of_mem _ h)
theorem w_558 : Cond.fieldLink "CrierOfBorough" 149 "CrierOfBorough" "MOST_PUT" "[I" ∈ gTB := gTB_of (tm_2_558 _ List.mem_cons_self) rfl
theorem tm_2_559 : ∀ w ∈ tl_2_559, w ∈ lw_tbl := fun w h => tm_2_558 w (List.mem_cons_of_mem _ h)
theorem w_559 : Cond.laysStatic "CrierOfBorough" "MOST_PUT" "[I" ∈ lw_tbl := tm_2_559 _ List.mem_cons_self
theorem tm_2_560 : ∀ w ∈ tl_2_560, w ∈ lw_tbl := fun w h => tm_2_559 w (List.mem_cons_of_mem _ h)
theorem w_560 : Cond.methodLink RX10 152 yX9_row ∈ gTB := gTB_of (tm_2_560 _ List.mem_cons_self) rfl
theorem tm_2_561 : ∀ w ∈ tl_2_561, w ∈ lw_tbl := fun w h => tm_2_560 w (List.mem_cons_of_mem _ h)
theorem w_561 : Cond.instanceMethod yX9_row ∈ gTB := gTB_of (tm_2_561 _ List.mem_cons_self) rfl
theorem tm_2_562 : ∀ w ∈ tl_2_562, w ∈ lw_tbl := fun w h => tm_2_561 w (List.mem_cons_of_mem _ h)
theorem w_562 : Cond.selects RX9 yX9_row yX9_row ∈ gTB := gTB_of (tm_2_562 _ List.mem_cons_self) rfl
theorem tm_2_563 : ∀ w ∈ tl_2_563, w ∈ lw_tbl := fun w h => tm_2_562 w (List.mem_cons_of_mem _ h)
theorem w_563 : Cond.code yX9_row cX9_row 2 (some (.array .int)) ∈ gTB := gTB_of (tm_2_563 _ List.mem_cons_self) rfl
theorem tm_2_564 : ∀ w ∈ tl_2_564, w ∈ lw_tbl := fun w h => tm_2_563 w (List.mem_cons_of_mem _ h)
theorem w_564 : Cond.methodLink RL 54 yX10_told ∈ gTB := gTB_of (tm_2_564 _ List.mem_cons_self) rfl
theorem tm_2_565 : ∀ w ∈ tl_2_565, w ∈ lw_tbl := fun w h => tm_2_564 w (List.mem_cons_of_mem _ h)
theorem w_565 : Cond.instanceMethod yX10_told ∈ gTB := gTB_of (tm_2_565 _ List.mem_cons_self) rfl
theorem tm_2_566 : ∀ w ∈ tl_2_566, w ∈ lw_tbl := fun w h => tm_2_565 w (List.mem_cons_of_mem _ h)
theorem w_566 : Cond.selects RX10 yX10_told yX10_told ∈ gTB := gTB_of (tm_2_566 _ List.mem_cons_self) rfl
theorem tm_2_567 : ∀ w ∈ tl_2_567, w ∈ lw_tbl := fun w h => tm_2_566 w (List.mem_cons_of_mem _ h)
theorem w_567 : Cond.code yX10_told cX10_told 3 (some (.int)) ∈ gTB := gTB_of (tm_2_567 _ List.mem_cons_self) rfl
theorem tm_2_568 : ∀ w ∈ tl_2_568, w ∈ lw_tbl := fun w h => tm_2_567 w (List.mem_cons_of_mem _ h)
theorem w_568 : Cond.methodLink RX10 156 yX9_wishedBy ∈ gTB := gTB_of (tm_2_568 _ List.mem_cons_self) rfl
theorem tm_2_569 : ∀ w ∈ tl_2_569, w ∈ lw_tbl := fun w h => tm_2_568 w (List.mem_cons_of_mem _ h)
theorem w_569 : Cond.methodLink RX10 159 yX9_listens ∈ gTB := gTB_of (tm_2_569 _ List.mem_cons_self) rfl
theorem tm_2_570 : ∀ w ∈ tl_2_570, w ∈ lw_tbl := fun w h => tm_2_569 w (List.mem_cons_of_mem _ h)
theorem w_570 : Cond.methodLink RX10 162 yX9_goes ∈ gTB := gTB_of (tm_2_570 _ List.mem_cons_self) rfl
theorem tm_2_571 : ∀ w ∈ tl_2_571, w ∈ lw_tbl := fun w h => tm_2_570 w (List.mem_cons_of_mem _ h)
theorem w_571 : Cond.instanceMethod yX9_goes ∈ gTB := gTB_of (tm_2_571 _ List.mem_cons_self) rfl
theorem tm_2_572 : ∀ w ∈ tl_2_572, w ∈ lw_tbl := fun w h => tm_2_571 w (List.mem_cons_of_mem _ h)
theorem w_572 : Cond.selects RX9 yX9_goes yX9_goes ∈ gTB := gTB_of (tm_2_572 _ List.mem_cons_self) rfl
theorem tm_2_573 : ∀ w ∈ tl_2_573, w ∈ lw_tbl := fun w h => tm_2_572 w (List.mem_cons_of_mem _ h)
theorem w_573 : Cond.code yX9_goes cX9_goes 2 (some (.int)) ∈ gTB := gTB_of (tm_2_573 _ List.mem_cons_self) rfl
theorem tm_2_574 : ∀ w ∈ tl_2_574, w ∈ lw_tbl := fun w h => tm_2_573 w (List.mem_cons_of_mem _ h)
theorem w_574 : Cond.methodLink RX9 100 yX9_saidOf ∈ gTB := gTB_of (tm_2_574 _ List.mem_cons_self) rfl
theorem tm_2_575 : ∀ w ∈ tl_2_575, w ∈ lw_tbl := fun w h => tm_2_574 w (List.mem_cons_of_mem _ h)
theorem w_575 : Cond.methodLink RX9 104 yX0_goesOn ∈ gTB := gTB_of (tm_2_575 _ List.mem_cons_self) rfl
theorem tm_2_576 : ∀ w ∈ tl_2_576, w ∈ lw_tbl := fun w h => tm_2_575 w (List.mem_cons_of_mem _ h)
theorem w_576 : Cond.instanceMethod yX0_goesOn ∈ gTB := gTB_of (tm_2_576 _ List.mem_cons_self) rfl
theorem tm_2_577 : ∀ w ∈ tl_2_577, w ∈ lw_tbl := fun w h => tm_2_576 w (List.mem_cons_of_mem _ h)
theorem w_577 : Cond.selects RX0 yX0_goesOn yX0_goesOn ∈ gTB := gTB_of (tm_2_577 _ List.mem_cons_self) rfl
theorem tm_2_578 : ∀ w ∈ tl_2_578, w ∈ lw_tbl := fun w h => tm_2_577 w (List.mem_cons_of_mem _ h)
theorem w_578 : Cond.sameMethod "CrierOfBorough$Citizen" "CrierOfBorough$Citizen" "goesOn" "(II)I" ∈ gTB := gTB_of (tm_2_578 _ List.mem_cons_self) rfl
theorem tm_2_579 : ∀ w ∈ tl_2_579, w ∈ lw_tbl := fun w h => tm_2_578 w (List.mem_cons_of_mem _ h)
theorem w_579 : Cond.selects RX1 yX0_goesOn yX1_goesOn ∈ gTB := gTB_of (tm_2_579 _ List.mem_cons_self) rfl
theorem tm_2_580 : ∀ w ∈ tl_2_580, w ∈ lw_tbl := fun w h => tm_2_579 w (List.mem_cons_of_mem _ h)
theorem w_580 : Cond.instanceMethod yX1_goesOn ∈ gTB := gTB_of (tm_2_580 _ List.mem_cons_self) rfl
theorem tm_2_581 : ∀ w ∈ tl_2_581, w ∈ lw_tbl := fun w h => tm_2_580 w (List.mem_cons_of_mem _ h)
theorem w_581 : Cond.code yX1_goesOn cX1_goesOn 3 (some (.int)) ∈ gTB := gTB_of (tm_2_581 _ List.mem_cons_self) rfl
theorem tm_2_582 : ∀ w ∈ tl_2_582, w ∈ lw_tbl := fun w h => tm_2_581 w (List.mem_cons_of_mem _ h)
theorem w_582 : Cond.selects RX2 yX0_goesOn yX2_goesOn ∈ gTB := gTB_of (tm_2_582 _ List.mem_cons_self) rfl
theorem tm_2_583 : ∀ w ∈ tl_2_583, w ∈ lw_tbl := fun w h => tm_2_582 w (List.mem_cons_of_mem _ h)
theorem w_583 : Cond.instanceMethod yX2_goesOn ∈ gTB := gTB_of (tm_2_583 _ List.mem_cons_self) rfl
theorem tm_2_584 : ∀ w ∈ tl_2_584, w ∈ lw_tbl := fun w h => tm_2_583 w (List.mem_cons_of_mem _ h)
theorem w_584 : Cond.code yX2_goesOn cX2_goesOn 3 (some (.int)) ∈ gTB := gTB_of (tm_2_584 _ List.mem_cons_self) rfl
theorem tm_2_585 : ∀ w ∈ tl_2_585, w ∈ lw_tbl := fun w h => tm_2_584 w (List.mem_cons_of_mem _ h)
theorem w_585 : Cond.methodLink RX2 15 yX1_goesOn ∈ gTB := gTB_of (tm_2_585 _ List.mem_cons_self) rfl
theorem tm_2_586 : ∀ w ∈ tl_2_586, w ∈ lw_tbl := fun w h => tm_2_585 w (List.mem_cons_of_mem _ h)
theorem w_586 : Cond.selects RX3 yX0_goesOn yX3_goesOn ∈ gTB := gTB_of (tm_2_586 _ List.mem_cons_self) rfl
theorem tm_2_587 : ∀ w ∈ tl_2_587, w ∈ lw_tbl := fun w h => tm_2_586 w (List.mem_cons_of_mem _ h)
theorem w_587 : Cond.instanceMethod yX3_goesOn ∈ gTB := gTB_of (tm_2_587 _ List.mem_cons_self) rfl
theorem tm_2_588 : ∀ w ∈ tl_2_588, w ∈ lw_tbl := fun w h => tm_2_587 w (List.mem_cons_of_mem _ h)
theorem w_588 : Cond.code yX3_goesOn cX3_goesOn 3 (some (.int)) ∈ gTB := gTB_of (tm_2_588 _ List.mem_cons_self) rfl
theorem tm_2_589 : ∀ w ∈ tl_2_589, w ∈ lw_tbl := fun w h => tm_2_588 w (List.mem_cons_of_mem _ h)
theorem w_589 : Cond.selects RX5 yX0_goesOn yX5_goesOn ∈ gTB := gTB_of (tm_2_589 _ List.mem_cons_self) rfl
theorem tm_2_590 : ∀ w ∈ tl_2_590, w ∈ lw_tbl := fun w h => tm_2_589 w (List.mem_cons_of_mem _ h)
theorem w_590 : Cond.instanceMethod yX5_goesOn ∈ gTB := gTB_of (tm_2_590 _ List.mem_cons_self) rfl
theorem tm_2_591 : ∀ w ∈ tl_2_591, w ∈ lw_tbl := fun w h => tm_2_590 w (List.mem_cons_of_mem _ h)
theorem w_591 : Cond.code yX5_goesOn cX5_goesOn 3 (some (.int)) ∈ gTB := gTB_of (tm_2_591 _ List.mem_cons_self) rfl
theorem tm_2_592 : ∀ w ∈ tl_2_592, w ∈ lw_tbl := fun w h => tm_2_591 w (List.mem_cons_of_mem _ h)
theorem w_592 : Cond.selects RX8 yX0_goesOn yX3_goesOn ∈ gTB := gTB_of (tm_2_592 _ List.mem_cons_self) rfl
theorem tm_2_593 : ∀ w ∈ tl_2_593, w ∈ lw_tbl := fun w h => tm_2_592 w (List.mem_cons_of_mem _ h)
theorem w_593 : Cond.code yX0_goesOn cX0_goesOn 3 (some (.int)) ∈ gTB := gTB_of (tm_2_593 _ List.mem_cons_self) rfl
theorem tm_2_594 : ∀ w ∈ tl_2_594, w ∈ lw_tbl := fun w h => tm_2_593 w (List.mem_cons_of_mem _ h)
theorem w_594 : Cond.methodLink RL 58 yX10_ring ∈ gTB := gTB_of (tm_2_594 _ List.mem_cons_self) rfl
theorem tm_2_595 : ∀ w ∈ tl_2_595, w ∈ lw_tbl := fun w h => tm_2_594 w (List.mem_cons_of_mem _ h)
theorem w_595 : Cond.instanceMethod yX10_ring ∈ gTB := gTB_of (tm_2_595 _ List.mem_cons_self) rfl
theorem tm_2_596 : ∀ w ∈ tl_2_596, w ∈ lw_tbl := fun w h => tm_2_595 w (List.mem_cons_of_mem _ h)
theorem w_596 : Cond.selects RX10 yX10_ring yX10_ring ∈ gTB := gTB_of (tm_2_596 _ List.mem_cons_self) rfl
theorem tm_2_597 : ∀ w ∈ tl_2_597, w ∈ lw_tbl := fun w h => tm_2_596 w (List.mem_cons_of_mem _ h)
theorem w_597 : Cond.code yX10_ring cX10_ring 3 (some (.int)) ∈ gTB := gTB_of (tm_2_597 _ List.mem_cons_self) rfl
theorem tm_2_598 : ∀ w ∈ tl_2_598, w ∈ lw_tbl := fun w h => tm_2_597 w (List.mem_cons_of_mem _ h)
theorem w_598 : Cond.methodLink RX10 165 yX9_peopleAt ∈ gTB := gTB_of (tm_2_598 _ List.mem_cons_self) rfl
theorem tm_2_599 : ∀ w ∈ tl_2_599, w ∈ lw_tbl := fun w h => tm_2_598 w (List.mem_cons_of_mem _ h)
theorem w_599 : Cond.instanceMethod yX9_peopleAt ∈ gTB := gTB_of (tm_2_599 _ List.mem_cons_self) rfl
theorem tm_2_600 : ∀ w ∈ tl_2_600, w ∈ lw_tbl := fun w h => tm_2_599 w (List.mem_cons_of_mem _ h)
theorem w_600 : Cond.selects RX9 yX9_peopleAt yX9_peopleAt ∈ gTB := gTB_of (tm_2_600 _ List.mem_cons_self) rfl
theorem tm_2_601 : ∀ w ∈ tl_2_601, w ∈ lw_tbl := fun w h => tm_2_600 w (List.mem_cons_of_mem _ h)
theorem w_601 : Cond.code yX9_peopleAt cX9_peopleAt 4 (some (.int)) ∈ gTB := gTB_of (tm_2_601 _ List.mem_cons_self) rfl
theorem tm_2_602 : ∀ w ∈ tl_2_602, w ∈ lw_tbl := fun w h => tm_2_601 w (List.mem_cons_of_mem _ h)
theorem w_602 : Cond.methodLink RX10 168 yX9_listenersAt ∈ gTB := gTB_of (tm_2_602 _ List.mem_cons_self) rfl
theorem tm_2_603 : ∀ w ∈ tl_2_603, w ∈ lw_tbl := fun w h => tm_2_602 w (List.mem_cons_of_mem _ h)
theorem w_603 : Cond.instanceMethod yX9_listenersAt ∈ gTB := gTB_of (tm_2_603 _ List.mem_cons_self) rfl
theorem tm_2_604 : ∀ w ∈ tl_2_604, w ∈ lw_tbl := fun w h => tm_2_603 w (List.mem_cons_of_mem _ h)
theorem w_604 : Cond.selects RX9 yX9_listenersAt yX9_listenersAt ∈ gTB := gTB_of (tm_2_604 _ List.mem_cons_self) rfl
theorem tm_2_605 : ∀ w ∈ tl_2_605, w ∈ lw_tbl := fun w h => tm_2_604 w (List.mem_cons_of_mem _ h)
theorem w_605 : Cond.code yX9_listenersAt cX9_listenersAt 4 (some (.int)) ∈ gTB := gTB_of (tm_2_605 _ List.mem_cons_self) rfl
theorem tm_2_606 : ∀ w ∈ tl_2_606, w ∈ lw_tbl := fun w h => tm_2_605 w (List.mem_cons_of_mem _ h)
theorem w_606 : Cond.methodLink RL 62 yX10_hour ∈ gTB := gTB_of (tm_2_606 _ List.mem_cons_self) rfl
theorem tm_2_607 : ∀ w ∈ tl_2_607, w ∈ lw_tbl := fun w h => tm_2_606 w (List.mem_cons_of_mem _ h)
theorem w_607 : Cond.instanceMethod yX10_hour ∈ gTB := gTB_of (tm_2_607 _ List.mem_cons_self) rfl
theorem tm_2_608 : ∀ w ∈ tl_2_608, w ∈ lw_tbl := fun w h => tm_2_607 w (List.mem_cons_of_mem _ h)
theorem w_608 : Cond.selects RX10 yX10_hour yX10_hour ∈ gTB := gTB_of (tm_2_608 _ List.mem_cons_self) rfl
theorem tm_2_609 : ∀ w ∈ tl_2_609, w ∈ lw_tbl := fun w h => tm_2_608 w (List.mem_cons_of_mem _ h)
theorem w_609 : Cond.code yX10_hour cX10_hour 1 (some (.int)) ∈ gTB := gTB_of (tm_2_609 _ List.mem_cons_self) rfl
theorem tm_2_610 : ∀ w ∈ tl_2_610, w ∈ lw_tbl := fun w h => tm_2_609 w (List.mem_cons_of_mem _ h)
theorem w_610 : Cond.methodLink RX10 171 yX9_pass ∈ gTB := gTB_of (tm_2_610 _ List.mem_cons_self) rfl
theorem tm_2_611 : ∀ w ∈ tl_2_611, w ∈ lw_tbl := fun w h => tm_2_610 w (List.mem_cons_of_mem _ h)
theorem w_611 : Cond.instanceMethod yX9_pass ∈ gTB := gTB_of (tm_2_611 _ List.mem_cons_self) rfl
theorem tm_2_612 : ∀ w ∈ tl_2_612, w ∈ lw_tbl := fun w h => tm_2_611 w (List.mem_cons_of_mem _ h)
theorem w_612 : Cond.selects RX9 yX9_pass yX9_pass ∈ gTB := gTB_of (tm_2_612 _ List.mem_cons_self) rfl
theorem tm_2_613 : ∀ w ∈ tl_2_613, w ∈ lw_tbl := fun w h => tm_2_612 w (List.mem_cons_of_mem _ h)
theorem w_613 : Cond.code yX9_pass cX9_pass 3 (some (.int)) ∈ gTB := gTB_of (tm_2_613 _ List.mem_cons_self) rfl
theorem tm_2_614 : ∀ w ∈ tl_2_614, w ∈ lw_tbl := fun w h => tm_2_613 w (List.mem_cons_of_mem _ h)
theorem w_614 : Cond.methodLink RX9 115 yX9_mayAt ∈ gTB := gTB_of (tm_2_614 _ List.mem_cons_self) rfl
theorem tm_2_615 : ∀ w ∈ tl_2_615, w ∈ lw_tbl := fun w h => tm_2_614 w (List.mem_cons_of_mem _ h)
theorem w_615 : Cond.methodLinkNest RX9 118 yX10_firstOf RX10 ∈ lw_tbl := tm_2_615 _ List.mem_cons_self
theorem tm_2_616 : ∀ w ∈ tl_2_616, w ∈ lw_tbl := fun w h => tm_2_615 w (List.mem_cons_of_mem _ h)
theorem w_616 : Cond.methodLink RX9 121 yX9_cry ∈ gTB := gTB_of (tm_2_616 _ List.mem_cons_self) rfl
theorem tm_2_617 : ∀ w ∈ tl_2_617, w ∈ lw_tbl := fun w h => tm_2_616 w (List.mem_cons_of_mem _ h)
theorem tm_2_618 : ∀ w ∈ tl_2_618, w ∈ lw_tbl := fun w h => tm_2_617 w (List.mem_cons_of_mem _ h)
theorem w_618 : Cond.instanceMethod yX9_cry ∈ gTB := gTB_of (tm_2_618 _ List.mem_cons_self) rfl
theorem tm_2_619 : ∀ w ∈ tl_2_619, w ∈ lw_tbl := fun w h => tm_2_618 w (List.mem_cons_of_mem _ h)
theorem w_619 : Cond.code yX9_cry cX9_cry 3 (none) ∈ gTB := gTB_of (tm_2_619 _ List.mem_cons_self) rfl
theorem tm_2_620 : ∀ w ∈ tl_2_620, w ∈ lw_tbl := fun w h => tm_2_619 w (List.mem_cons_of_mem _ h)
theorem w_620 : Cond.methodLink RX9 125 yX9_knownBeside ∈ gTB := gTB_of (tm_2_620 _ List.mem_cons_self) rfl
theorem tm_2_621 : ∀ w ∈ tl_2_621, w ∈ lw_tbl := fun w h => tm_2_620 w (List.mem_cons_of_mem _ h)
theorem tm_2_622 : ∀ w ∈ tl_2_622, w ∈ lw_tbl := fun w h => tm_2_621 w (List.mem_cons_of_mem _ h)
theorem w_622 : Cond.instanceMethod yX9_knownBeside ∈ gTB := gTB_of (tm_2_622 _ List.mem_cons_self) rfl
theorem tm_2_623 : ∀ w ∈ tl_2_623, w ∈ lw_tbl := fun w h => tm_2_622 w (List.mem_cons_of_mem _ h)
theorem w_623 : Cond.code yX9_knownBeside cX9_knownBeside 4 (some (.int)) ∈ gTB := gTB_of (tm_2_623 _ List.mem_cons_self) rfl
theorem tm_2_624 : ∀ w ∈ tl_2_624, w ∈ lw_tbl := fun w h => tm_2_623 w (List.mem_cons_of_mem _ h)
theorem w_624 : Cond.methodLink RX9 128 yX9_goes ∈ gTB := gTB_of (tm_2_624 _ List.mem_cons_self) rfl
theorem tm_2_625 : ∀ w ∈ tl_2_625, w ∈ lw_tbl := fun w h => tm_2_624 w (List.mem_cons_of_mem _ h)
theorem w_625 : Cond.methodLink RX9 131 yJ9_floorMod_7cf53 ∈ gTB := gTB_of (tm_2_625 _ List.mem_cons_self) rfl
theorem tm_2_626 : ∀ w ∈ tl_2_626, w ∈ lw_tbl := fun w h => tm_2_625 w (List.mem_cons_of_mem _ h)
theorem w_626 : Cond.static yJ9_floorMod_7cf53 ∈ gTB := gTB_of (tm_2_626 _ List.mem_cons_self) rfl
theorem tm_2_627 : ∀ w ∈ tl_2_627, w ∈ lw_tbl := fun w h => tm_2_626 w (List.mem_cons_of_mem _ h)
theorem w_627 : Cond.code yJ9_floorMod_7cf53 cJ9_floorMod_7cf53 3 (some (.int)) ∈ gTB := gTB_of (tm_2_627 _ List.mem_cons_self) rfl
theorem tm_2_628 : ∀ w ∈ tl_2_628, w ∈ lw_tbl := fun w h => tm_2_627 w (List.mem_cons_of_mem _ h)
theorem w_628 : Cond.methodLink RL 66 yX10_run ∈ gTB := gTB_of (tm_2_628 _ List.mem_cons_self) rfl
theorem tm_2_629 : ∀ w ∈ tl_2_629, w ∈ lw_tbl := fun w h => tm_2_628 w (List.mem_cons_of_mem _ h)
theorem w_629 : Cond.instanceMethod yX10_run ∈ gTB := gTB_of (tm_2_629 _ List.mem_cons_self) rfl
theorem tm_2_630 : ∀ w ∈ tl_2_630, w ∈ lw_tbl := fun w h => tm_2_629 w (List.mem_cons_of_mem _ h)
theorem w_630 : Cond.selects RX10 yX10_run yX10_run ∈ gTB := gTB_of (tm_2_630 _ List.mem_cons_self) rfl
theorem tm_2_631 : ∀ w ∈ tl_2_631, w ∈ lw_tbl := fun w h => tm_2_630 w (List.mem_cons_of_mem _ h)
theorem w_631 : Cond.code yX10_run cX10_run 5 (some (.int)) ∈ gTB := gTB_of (tm_2_631 _ List.mem_cons_self) rfl
theorem tm_2_632 : ∀ w ∈ tl_2_632, w ∈ lw_tbl := fun w h => tm_2_631 w (List.mem_cons_of_mem _ h)
theorem w_632 : Cond.methodLink RX10 174 yX9_become ∈ gTB := gTB_of (tm_2_632 _ List.mem_cons_self) rfl
theorem tm_2_633 : ∀ w ∈ tl_2_633, w ∈ lw_tbl := fun w h => tm_2_632 w (List.mem_cons_of_mem _ h)
theorem w_633 : Cond.instanceMethod yX9_become ∈ gTB := gTB_of (tm_2_633 _ List.mem_cons_self) rfl
theorem tm_2_634 : ∀ w ∈ tl_2_634, w ∈ lw_tbl := fun w h => tm_2_633 w (List.mem_cons_of_mem _ h)
theorem w_634 : Cond.selects RX9 yX9_become yX9_become ∈ gTB := gTB_of (tm_2_634 _ List.mem_cons_self) rfl
theorem tm_2_635 : ∀ w ∈ tl_2_635, w ∈ lw_tbl := fun w h => tm_2_634 w (List.mem_cons_of_mem _ h)
theorem w_635 : Cond.code yX9_become cX9_become 2 (none) ∈ gTB := gTB_of (tm_2_635 _ List.mem_cons_self) rfl
theorem tm_2_636 : ∀ w ∈ tl_2_636, w ∈ lw_tbl := fun w h => tm_2_635 w (List.mem_cons_of_mem _ h)
theorem w_636 : Cond.methodLink RX9 60 ⟨"java/lang/System", "arraycopy", "(Ljava/lang/Object;ILjava/lang/Object;II)V"⟩ ∈ gTB := gTB_of (tm_2_636 _ List.mem_cons_self) rfl
theorem tm_2_637 : ∀ w ∈ tl_2_637, w ∈ lw_tbl := fun w h => tm_2_636 w (List.mem_cons_of_mem _ h)
theorem w_637 : Cond.static ⟨"java/lang/System", "arraycopy", "(Ljava/lang/Object;ILjava/lang/Object;II)V"⟩ ∈ gTB := gTB_of (tm_2_637 _ List.mem_cons_self) rfl
theorem tm_2_638 : ∀ w ∈ tl_2_638, w ∈ lw_tbl := fun w h => tm_2_637 w (List.mem_cons_of_mem _ h)
theorem w_638 : Cond.native ⟨"java/lang/System", "arraycopy", "(Ljava/lang/Object;ILjava/lang/Object;II)V"⟩ ∈ lw_tbl := tm_2_638 _ List.mem_cons_self
theorem tm_2_639 : ∀ w ∈ tl_2_639, w ∈ lw_tbl := fun w h => tm_2_638 w (List.mem_cons_of_mem _ h)
theorem w_639 : Cond.methodLink RX10 178 yX9_passMany ∈ gTB := gTB_of (tm_2_639 _ List.mem_cons_self) rfl
theorem tm_2_640 : ∀ w ∈ tl_2_640, w ∈ lw_tbl := fun w h => tm_2_639 w (List.mem_cons_of_mem _ h)
theorem w_640 : Cond.instanceMethod yX9_passMany ∈ gTB := gTB_of (tm_2_640 _ List.mem_cons_self) rfl
theorem tm_2_641 : ∀ w ∈ tl_2_641, w ∈ lw_tbl := fun w h => tm_2_640 w (List.mem_cons_of_mem _ h)
theorem w_641 : Cond.selects RX9 yX9_passMany yX9_passMany ∈ gTB := gTB_of (tm_2_641 _ List.mem_cons_self) rfl
theorem tm_2_642 : ∀ w ∈ tl_2_642, w ∈ lw_tbl := fun w h => tm_2_641 w (List.mem_cons_of_mem _ h)
theorem w_642 : Cond.code yX9_passMany cX9_passMany 4 (some (.int)) ∈ gTB := gTB_of (tm_2_642 _ List.mem_cons_self) rfl
theorem tm_2_643 : ∀ w ∈ tl_2_643, w ∈ lw_tbl := fun w h => tm_2_642 w (List.mem_cons_of_mem _ h)
theorem w_643 : Cond.methodLink RX9 136 yX9_pass ∈ gTB := gTB_of (tm_2_643 _ List.mem_cons_self) rfl
theorem tm_2_644 : ∀ w ∈ tl_2_644, w ∈ lw_tbl := fun w h => tm_2_643 w (List.mem_cons_of_mem _ h)
theorem w_644 : Cond.methodLink RX10 181 yX9_knownTogether ∈ gTB := gTB_of (tm_2_644 _ List.mem_cons_self) rfl
theorem tm_2_645 : ∀ w ∈ tl_2_645, w ∈ lw_tbl := fun w h => tm_2_644 w (List.mem_cons_of_mem _ h)
theorem w_645 : Cond.instanceMethod yX9_knownTogether ∈ gTB := gTB_of (tm_2_645 _ List.mem_cons_self) rfl
theorem tm_2_646 : ∀ w ∈ tl_2_646, w ∈ lw_tbl := fun w h => tm_2_645 w (List.mem_cons_of_mem _ h)
theorem w_646 : Cond.selects RX9 yX9_knownTogether yX9_knownTogether ∈ gTB := gTB_of (tm_2_646 _ List.mem_cons_self) rfl
theorem tm_2_647 : ∀ w ∈ tl_2_647, w ∈ lw_tbl := fun w h => tm_2_646 w (List.mem_cons_of_mem _ h)
theorem w_647 : Cond.code yX9_knownTogether cX9_knownTogether 3 (some (.int)) ∈ gTB := gTB_of (tm_2_647 _ List.mem_cons_self) rfl
theorem tm_2_648 : ∀ w ∈ tl_2_648, w ∈ lw_tbl := fun w h => tm_2_647 w (List.mem_cons_of_mem _ h)
theorem w_648 : Cond.methodLink RL 70 yX10_when ∈ gTB := gTB_of (tm_2_648 _ List.mem_cons_self) rfl
theorem tm_2_649 : ∀ w ∈ tl_2_649, w ∈ lw_tbl := fun w h => tm_2_648 w (List.mem_cons_of_mem _ h)
theorem w_649 : Cond.instanceMethod yX10_when ∈ gTB := gTB_of (tm_2_649 _ List.mem_cons_self) rfl
theorem tm_2_650 : ∀ w ∈ tl_2_650, w ∈ lw_tbl := fun w h => tm_2_649 w (List.mem_cons_of_mem _ h)
theorem w_650 : Cond.selects RX10 yX10_when yX10_when ∈ gTB := gTB_of (tm_2_650 _ List.mem_cons_self) rfl
theorem tm_2_651 : ∀ w ∈ tl_2_651, w ∈ lw_tbl := fun w h => tm_2_650 w (List.mem_cons_of_mem _ h)
theorem w_651 : Cond.code yX10_when cX10_when 4 (some (.int)) ∈ gTB := gTB_of (tm_2_651 _ List.mem_cons_self) rfl
theorem tm_2_652 : ∀ w ∈ tl_2_652, w ∈ lw_tbl := fun w h => tm_2_651 w (List.mem_cons_of_mem _ h)
theorem w_652 : Cond.methodLink RX10 190 yX10_isSoInThought ∈ gTB := gTB_of (tm_2_652 _ List.mem_cons_self) rfl
theorem tm_2_653 : ∀ w ∈ tl_2_653, w ∈ lw_tbl := fun w h => tm_2_652 w (List.mem_cons_of_mem _ h)
theorem tm_2_654 : ∀ w ∈ tl_2_654, w ∈ lw_tbl := fun w h => tm_2_653 w (List.mem_cons_of_mem _ h)
theorem w_654 : Cond.instanceMethod yX10_isSoInThought ∈ gTB := gTB_of (tm_2_654 _ List.mem_cons_self) rfl
theorem tm_2_655 : ∀ w ∈ tl_2_655, w ∈ lw_tbl := fun w h => tm_2_654 w (List.mem_cons_of_mem _ h)
theorem w_655 : Cond.code yX10_isSoInThought cX10_isSoInThought 3 (some (.boolean)) ∈ gTB := gTB_of (tm_2_655 _ List.mem_cons_self) rfl
theorem tm_2_656 : ∀ w ∈ tl_2_656, w ∈ lw_tbl := fun w h => tm_2_655 w (List.mem_cons_of_mem _ h)
theorem w_656 : Cond.methodLink RL 74 yX10_where ∈ gTB := gTB_of (tm_2_656 _ List.mem_cons_self) rfl
theorem tm_2_657 : ∀ w ∈ tl_2_657, w ∈ lw_tbl := fun w h => tm_2_656 w (List.mem_cons_of_mem _ h)
theorem w_657 : Cond.instanceMethod yX10_where ∈ gTB := gTB_of (tm_2_657 _ List.mem_cons_self) rfl
theorem tm_2_658 : ∀ w ∈ tl_2_658, w ∈ lw_tbl := fun w h => tm_2_657 w (List.mem_cons_of_mem _ h)
theorem w_658 : Cond.selects RX10 yX10_where yX10_where ∈ gTB := gTB_of (tm_2_658 _ List.mem_cons_self) rfl
theorem tm_2_659 : ∀ w ∈ tl_2_659, w ∈ lw_tbl := fun w h => tm_2_658 w (List.mem_cons_of_mem _ h)
theorem w_659 : Cond.code yX10_where cX10_where 6 (some (.int)) ∈ gTB := gTB_of (tm_2_659 _ List.mem_cons_self) rfl
theorem tm_2_660 : ∀ w ∈ tl_2_660, w ∈ lw_tbl := fun w h => tm_2_659 w (List.mem_cons_of_mem _ h)
theorem w_660 : Cond.methodLink RL 78 yX10_begin ∈ gTB := gTB_of (tm_2_660 _ List.mem_cons_self) rfl
theorem tm_2_661 : ∀ w ∈ tl_2_661, w ∈ lw_tbl := fun w h => tm_2_660 w (List.mem_cons_of_mem _ h)
theorem w_661 : Cond.instanceMethod yX10_begin ∈ gTB := gTB_of (tm_2_661 _ List.mem_cons_self) rfl
theorem tm_2_662 : ∀ w ∈ tl_2_662, w ∈ lw_tbl := fun w h => tm_2_661 w (List.mem_cons_of_mem _ h)
theorem w_662 : Cond.selects RX10 yX10_begin yX10_begin ∈ gTB := gTB_of (tm_2_662 _ List.mem_cons_self) rfl
theorem tm_2_663 : ∀ w ∈ tl_2_663, w ∈ lw_tbl := fun w h => tm_2_662 w (List.mem_cons_of_mem _ h)
theorem w_663 : Cond.code yX10_begin cX10_begin 7 (some (.int)) ∈ gTB := gTB_of (tm_2_663 _ List.mem_cons_self) rfl
theorem tm_2_664 : ∀ w ∈ tl_2_664, w ∈ lw_tbl := fun w h => tm_2_663 w (List.mem_cons_of_mem _ h)
theorem w_664 : Cond.methodLink RL 82 yX10_windows ∈ gTB := gTB_of (tm_2_664 _ List.mem_cons_self) rfl
theorem tm_2_665 : ∀ w ∈ tl_2_665, w ∈ lw_tbl := fun w h => tm_2_664 w (List.mem_cons_of_mem _ h)
theorem w_665 : Cond.instanceMethod yX10_windows ∈ gTB := gTB_of (tm_2_665 _ List.mem_cons_self) rfl
theorem tm_2_666 : ∀ w ∈ tl_2_666, w ∈ lw_tbl := fun w h => tm_2_665 w (List.mem_cons_of_mem _ h)
theorem w_666 : Cond.selects RX10 yX10_windows yX10_windows ∈ gTB := gTB_of (tm_2_666 _ List.mem_cons_self) rfl
theorem tm_2_667 : ∀ w ∈ tl_2_667, w ∈ lw_tbl := fun w h => tm_2_666 w (List.mem_cons_of_mem _ h)
theorem w_667 : Cond.code yX10_windows cX10_windows 7 (some (.int)) ∈ gTB := gTB_of (tm_2_667 _ List.mem_cons_self) rfl
theorem tm_2_668 : ∀ w ∈ tl_2_668, w ∈ lw_tbl := fun w h => tm_2_667 w (List.mem_cons_of_mem _ h)
theorem w_668 : Cond.methodLink RL 86 yX10_hush ∈ gTB := gTB_of (tm_2_668 _ List.mem_cons_self) rfl
theorem tm_2_669 : ∀ w ∈ tl_2_669, w ∈ lw_tbl := fun w h => tm_2_668 w (List.mem_cons_of_mem _ h)
theorem w_669 : Cond.instanceMethod yX10_hush ∈ gTB := gTB_of (tm_2_669 _ List.mem_cons_self) rfl
theorem tm_2_670 : ∀ w ∈ tl_2_670, w ∈ lw_tbl := fun w h => tm_2_669 w (List.mem_cons_of_mem _ h)
theorem w_670 : Cond.selects RX10 yX10_hush yX10_hush ∈ gTB := gTB_of (tm_2_670 _ List.mem_cons_self) rfl
theorem tm_2_671 : ∀ w ∈ tl_2_671, w ∈ lw_tbl := fun w h => tm_2_670 w (List.mem_cons_of_mem _ h)
theorem w_671 : Cond.code yX10_hush cX10_hush 6 (some (.int)) ∈ gTB := gTB_of (tm_2_671 _ List.mem_cons_self) rfl
theorem tm_2_672 : ∀ w ∈ tl_2_672, w ∈ lw_tbl := fun w h => tm_2_671 w (List.mem_cons_of_mem _ h)
theorem w_672 : Cond.methodLink RX10 196 yX10_wishersAt ∈ gTB := gTB_of (tm_2_672 _ List.mem_cons_self) rfl
theorem tm_2_673 : ∀ w ∈ tl_2_673, w ∈ lw_tbl := fun w h => tm_2_672 w (List.mem_cons_of_mem _ h)
theorem tm_2_674 : ∀ w ∈ tl_2_674, w ∈ lw_tbl := fun w h => tm_2_673 w (List.mem_cons_of_mem _ h)
theorem w_674 : Cond.instanceMethod yX10_wishersAt ∈ gTB := gTB_of (tm_2_674 _ List.mem_cons_self) rfl
theorem tm_2_675 : ∀ w ∈ tl_2_675, w ∈ lw_tbl := fun w h => tm_2_674 w (List.mem_cons_of_mem _ h)
theorem w_675 : Cond.code yX10_wishersAt cX10_wishersAt 6 (some (.int)) ∈ gTB := gTB_of (tm_2_675 _ List.mem_cons_self) rfl
theorem tm_2_676 : ∀ w ∈ tl_2_676, w ∈ lw_tbl := fun w h => tm_2_675 w (List.mem_cons_of_mem _ h)
theorem w_676 : Cond.methodLink RL 90 yX10_round ∈ gTB := gTB_of (tm_2_676 _ List.mem_cons_self) rfl
theorem tm_2_677 : ∀ w ∈ tl_2_677, w ∈ lw_tbl := fun w h => tm_2_676 w (List.mem_cons_of_mem _ h)
theorem w_677 : Cond.instanceMethod yX10_round ∈ gTB := gTB_of (tm_2_677 _ List.mem_cons_self) rfl
theorem tm_2_678 : ∀ w ∈ tl_2_678, w ∈ lw_tbl := fun w h => tm_2_677 w (List.mem_cons_of_mem _ h)
theorem w_678 : Cond.selects RX10 yX10_round yX10_round ∈ gTB := gTB_of (tm_2_678 _ List.mem_cons_self) rfl
theorem tm_2_679 : ∀ w ∈ tl_2_679, w ∈ lw_tbl := fun w h => tm_2_678 w (List.mem_cons_of_mem _ h)
theorem w_679 : Cond.code yX10_round cX10_round 6 (some (.int)) ∈ gTB := gTB_of (tm_2_679 _ List.mem_cons_self) rfl
theorem tm_2_680 : ∀ w ∈ tl_2_680, w ∈ lw_tbl := fun w h => tm_2_679 w (List.mem_cons_of_mem _ h)
theorem w_680 : Cond.methodLink RX10 203 yX10_mayAtAny ∈ gTB := gTB_of (tm_2_680 _ List.mem_cons_self) rfl
theorem tm_2_681 : ∀ w ∈ tl_2_681, w ∈ lw_tbl := fun w h => tm_2_680 w (List.mem_cons_of_mem _ h)
theorem tm_2_682 : ∀ w ∈ tl_2_682, w ∈ lw_tbl := fun w h => tm_2_681 w (List.mem_cons_of_mem _ h)
theorem w_682 : Cond.instanceMethod yX10_mayAtAny ∈ gTB := gTB_of (tm_2_682 _ List.mem_cons_self) rfl
theorem tm_2_683 : ∀ w ∈ tl_2_683, w ∈ lw_tbl := fun w h => tm_2_682 w (List.mem_cons_of_mem _ h)
theorem w_683 : Cond.code yX10_mayAtAny cX10_mayAtAny 4 (some (.int)) ∈ gTB := gTB_of (tm_2_683 _ List.mem_cons_self) rfl
theorem tm_2_684 : ∀ w ∈ tl_2_684, w ∈ lw_tbl := fun w h => tm_2_683 w (List.mem_cons_of_mem _ h)
theorem w_684 : Cond.methodLink RL 94 yX10_mean ∈ gTB := gTB_of (tm_2_684 _ List.mem_cons_self) rfl
theorem tm_2_685 : ∀ w ∈ tl_2_685, w ∈ lw_tbl := fun w h => tm_2_684 w (List.mem_cons_of_mem _ h)
theorem w_685 : Cond.instanceMethod yX10_mean ∈ gTB := gTB_of (tm_2_685 _ List.mem_cons_self) rfl
theorem tm_2_686 : ∀ w ∈ tl_2_686, w ∈ lw_tbl := fun w h => tm_2_685 w (List.mem_cons_of_mem _ h)
theorem w_686 : Cond.selects RX10 yX10_mean yX10_mean ∈ gTB := gTB_of (tm_2_686 _ List.mem_cons_self) rfl
theorem tm_2_687 : ∀ w ∈ tl_2_687, w ∈ lw_tbl := fun w h => tm_2_686 w (List.mem_cons_of_mem _ h)
theorem w_687 : Cond.code yX10_mean cX10_mean 4 (some (.long)) ∈ gTB := gTB_of (tm_2_687 _ List.mem_cons_self) rfl
theorem tm_2_688 : ∀ w ∈ tl_2_688, w ∈ lw_tbl := fun w h => tm_2_687 w (List.mem_cons_of_mem _ h)
theorem w_688 : Cond.constantLong RX10 206 (-4611686018427387904 : Int64) ∈ gTB := gTB_of (tm_2_688 _ List.mem_cons_self) rfl
theorem tm_2_689 : ∀ w ∈ tl_2_689, w ∈ lw_tbl := fun w h => tm_2_688 w (List.mem_cons_of_mem _ h)
theorem w_689 : Cond.methodLink RX10 208 yX10_lowest ∈ gTB := gTB_of (tm_2_689 _ List.mem_cons_self) rfl
theorem tm_2_690 : ∀ w ∈ tl_2_690, w ∈ lw_tbl := fun w h => tm_2_689 w (List.mem_cons_of_mem _ h)
theorem w_690 : Cond.static yX10_lowest ∈ gTB := gTB_of (tm_2_690 _ List.mem_cons_self) rfl
theorem tm_2_691 : ∀ w ∈ tl_2_691, w ∈ lw_tbl := fun w h => tm_2_690 w (List.mem_cons_of_mem _ h)
theorem w_691 : Cond.code yX10_lowest cX10_lowest 7 (some (.long)) ∈ gTB := gTB_of (tm_2_691 _ List.mem_cons_self) rfl
theorem tm_2_692 : ∀ w ∈ tl_2_692, w ∈ lw_tbl := fun w h => tm_2_691 w (List.mem_cons_of_mem _ h)
theorem w_692 : Cond.methodLink RL 99 yX10_judge ∈ gTB := gTB_of (tm_2_692 _ List.mem_cons_self) rfl
theorem tm_2_693 : ∀ w ∈ tl_2_693, w ∈ lw_tbl := fun w h => tm_2_692 w (List.mem_cons_of_mem _ h)
theorem w_693 : Cond.instanceMethod yX10_judge ∈ gTB := gTB_of (tm_2_693 _ List.mem_cons_self) rfl
theorem tm_2_694 : ∀ w ∈ tl_2_694, w ∈ lw_tbl := fun w h => tm_2_693 w (List.mem_cons_of_mem _ h)
theorem w_694 : Cond.selects RX10 yX10_judge yX10_judge ∈ gTB := gTB_of (tm_2_694 _ List.mem_cons_self) rfl
theorem tm_2_695 : ∀ w ∈ tl_2_695, w ∈ lw_tbl := fun w h => tm_2_694 w (List.mem_cons_of_mem _ h)
theorem w_695 : Cond.code yX10_judge cX10_judge 3 (some (.int)) ∈ gTB := gTB_of (tm_2_695 _ List.mem_cons_self) rfl
theorem tm_2_696 : ∀ w ∈ tl_2_696, w ∈ lw_tbl := fun w h => tm_2_695 w (List.mem_cons_of_mem _ h)
theorem w_696 : Cond.methodLink RX10 212 yX10_refusalToJudge ∈ gTB := gTB_of (tm_2_696 _ List.mem_cons_self) rfl
theorem tm_2_697 : ∀ w ∈ tl_2_697, w ∈ lw_tbl := fun w h => tm_2_696 w (List.mem_cons_of_mem _ h)
theorem tm_2_698 : ∀ w ∈ tl_2_698, w ∈ lw_tbl := fun w h => tm_2_697 w (List.mem_cons_of_mem _ h)
theorem w_698 : Cond.instanceMethod yX10_refusalToJudge ∈ gTB := gTB_of (tm_2_698 _ List.mem_cons_self) rfl
theorem tm_2_699 : ∀ w ∈ tl_2_699, w ∈ lw_tbl := fun w h => tm_2_698 w (List.mem_cons_of_mem _ h)
theorem w_699 : Cond.code yX10_refusalToJudge cX10_refusalToJudge 2 (some (.int)) ∈ gTB := gTB_of (tm_2_699 _ List.mem_cons_self) rfl
theorem tm_2_700 : ∀ w ∈ tl_2_700, w ∈ lw_tbl := fun w h => tm_2_699 w (List.mem_cons_of_mem _ h)
theorem w_700 : Cond.methodLink RX10 215 yX10_otherwise ∈ gTB := gTB_of (tm_2_700 _ List.mem_cons_self) rfl
theorem tm_2_701 : ∀ w ∈ tl_2_701, w ∈ lw_tbl := fun w h => tm_2_700 w (List.mem_cons_of_mem _ h)
theorem tm_2_702 : ∀ w ∈ tl_2_702, w ∈ lw_tbl := fun w h => tm_2_701 w (List.mem_cons_of_mem _ h)
theorem w_702 : Cond.instanceMethod yX10_otherwise ∈ gTB := gTB_of (tm_2_702 _ List.mem_cons_self) rfl
theorem tm_2_703 : ∀ w ∈ tl_2_703, w ∈ lw_tbl := fun w h => tm_2_702 w (List.mem_cons_of_mem _ h)
theorem w_703 : Cond.code yX10_otherwise cX10_otherwise 3 (some (.int)) ∈ gTB := gTB_of (tm_2_703 _ List.mem_cons_self) rfl
theorem tm_2_704 : ∀ w ∈ tl_2_704, w ∈ lw_tbl := fun w h => tm_2_703 w (List.mem_cons_of_mem _ h)
theorem w_704 : Cond.methodLink RL 103 yX10_kinds ∈ gTB := gTB_of (tm_2_704 _ List.mem_cons_self) rfl
theorem tm_2_705 : ∀ w ∈ tl_2_705, w ∈ lw_tbl := fun w h => tm_2_704 w (List.mem_cons_of_mem _ h)
theorem w_705 : Cond.instanceMethod yX10_kinds ∈ gTB := gTB_of (tm_2_705 _ List.mem_cons_self) rfl
theorem tm_2_706 : ∀ w ∈ tl_2_706, w ∈ lw_tbl := fun w h => tm_2_705 w (List.mem_cons_of_mem _ h)
theorem w_706 : Cond.selects RX10 yX10_kinds yX10_kinds ∈ gTB := gTB_of (tm_2_706 _ List.mem_cons_self) rfl
theorem tm_2_707 : ∀ w ∈ tl_2_707, w ∈ lw_tbl := fun w h => tm_2_706 w (List.mem_cons_of_mem _ h)
theorem w_707 : Cond.code yX10_kinds cX10_kinds 8 (some (.int)) ∈ gTB := gTB_of (tm_2_707 _ List.mem_cons_self) rfl
theorem tm_2_708 : ∀ w ∈ tl_2_708, w ∈ lw_tbl := fun w h => tm_2_707 w (List.mem_cons_of_mem _ h)
theorem w_708 : Cond.methodLink RL 107 yX10_corners ∈ gTB := gTB_of (tm_2_708 _ List.mem_cons_self) rfl
theorem tm_2_709 : ∀ w ∈ tl_2_709, w ∈ lw_tbl := fun w h => tm_2_708 w (List.mem_cons_of_mem _ h)
theorem w_709 : Cond.instanceMethod yX10_corners ∈ gTB := gTB_of (tm_2_709 _ List.mem_cons_self) rfl
theorem tm_2_710 : ∀ w ∈ tl_2_710, w ∈ lw_tbl := fun w h => tm_2_709 w (List.mem_cons_of_mem _ h)
theorem w_710 : Cond.selects RX10 yX10_corners yX10_corners ∈ gTB := gTB_of (tm_2_710 _ List.mem_cons_self) rfl
theorem tm_2_711 : ∀ w ∈ tl_2_711, w ∈ lw_tbl := fun w h => tm_2_710 w (List.mem_cons_of_mem _ h)
theorem w_711 : Cond.code yX10_corners cX10_corners 6 (some (.int)) ∈ gTB := gTB_of (tm_2_711 _ List.mem_cons_self) rfl
theorem tm_2_712 : ∀ w ∈ tl_2_712, w ∈ lw_tbl := fun w h => tm_2_711 w (List.mem_cons_of_mem _ h)
theorem w_712 : Cond.methodLink RL 111 yX10_turned ∈ gTB := gTB_of (tm_2_712 _ List.mem_cons_self) rfl
theorem tm_2_713 : ∀ w ∈ tl_2_713, w ∈ lw_tbl := fun w h => tm_2_712 w (List.mem_cons_of_mem _ h)
theorem w_713 : Cond.instanceMethod yX10_turned ∈ gTB := gTB_of (tm_2_713 _ List.mem_cons_self) rfl
theorem tm_2_714 : ∀ w ∈ tl_2_714, w ∈ lw_tbl := fun w h => tm_2_713 w (List.mem_cons_of_mem _ h)
theorem w_714 : Cond.selects RX10 yX10_turned yX10_turned ∈ gTB := gTB_of (tm_2_714 _ List.mem_cons_self) rfl
theorem tm_2_715 : ∀ w ∈ tl_2_715, w ∈ lw_tbl := fun w h => tm_2_714 w (List.mem_cons_of_mem _ h)
theorem w_715 : Cond.code yX10_turned cX10_turned 8 (some (.int)) ∈ gTB := gTB_of (tm_2_715 _ List.mem_cons_self) rfl
theorem tm_2_716 : ∀ w ∈ tl_2_716, w ∈ lw_tbl := fun w h => tm_2_715 w (List.mem_cons_of_mem _ h)
theorem w_716 : Cond.methodLink RL 115 yX10_evils ∈ gTB := gTB_of (tm_2_716 _ List.mem_cons_self) rfl
theorem tm_2_717 : ∀ w ∈ tl_2_717, w ∈ lw_tbl := fun w h => tm_2_716 w (List.mem_cons_of_mem _ h)
theorem w_717 : Cond.instanceMethod yX10_evils ∈ gTB := gTB_of (tm_2_717 _ List.mem_cons_self) rfl
theorem tm_2_718 : ∀ w ∈ tl_2_718, w ∈ lw_tbl := fun w h => tm_2_717 w (List.mem_cons_of_mem _ h)
theorem w_718 : Cond.selects RX10 yX10_evils yX10_evils ∈ gTB := gTB_of (tm_2_718 _ List.mem_cons_self) rfl
theorem tm_2_719 : ∀ w ∈ tl_2_719, w ∈ lw_tbl := fun w h => tm_2_718 w (List.mem_cons_of_mem _ h)
theorem w_719 : Cond.code yX10_evils cX10_evils 8 (some (.int)) ∈ gTB := gTB_of (tm_2_719 _ List.mem_cons_self) rfl
def tl_3_960 : List Cond := []
def tl_3_959 : List Cond := (Cond.laysFinal "CrierOfBoroughModel" "CrierOfBoroughModel" "stack" "[I") :: tl_3_960
def tl_3_958 : List Cond := ((Jvm.Cond.soleField "CrierOfBoroughModel" "out")) :: tl_3_959
def tl_3_957 : List Cond := (Cond.lays "CrierOfBoroughModel" "CrierOfBoroughModel" "out" "I") :: tl_3_958
def tl_3_956 : List Cond := ((Jvm.Cond.soleField "CrierOfBoroughModel" "opens")) :: tl_3_957
def tl_3_955 : List Cond := (Cond.lays "CrierOfBoroughModel" "CrierOfBoroughModel" "opens" "I") :: tl_3_956
def tl_3_954 : List Cond := ((Jvm.Cond.soleField "CrierOfBoroughModel" "heldMany")) :: tl_3_955
def tl_3_953 : List Cond := (Cond.lays "CrierOfBoroughModel" "CrierOfBoroughModel" "heldMany" "I") :: tl_3_954
def tl_3_952 : List Cond := ((Jvm.Cond.soleField "CrierOfBoroughModel" "held")) :: tl_3_953
def tl_3_951 : List Cond := (Cond.laysFinal "CrierOfBoroughModel" "CrierOfBoroughModel" "held" "[I") :: tl_3_952
def tl_3_950 : List Cond := ((Jvm.Cond.soleField "CrierOfBoroughModel" "words")) :: tl_3_951
def tl_3_949 : List Cond := (Cond.laysFinal "CrierOfBoroughModel" "CrierOfBoroughModel" "words" "[I") :: tl_3_950
def tl_3_948 : List Cond := ((Jvm.Cond.soleField "CrierOfBoroughModel" "value")) :: tl_3_949
def tl_3_947 : List Cond := (Cond.lays "CrierOfBoroughModel" "CrierOfBoroughModel" "value" "I") :: tl_3_948
def tl_3_946 : List Cond := ((Jvm.Cond.soleField "CrierOfBoroughModel" "token")) :: tl_3_947
def tl_3_945 : List Cond := (Cond.lays "CrierOfBoroughModel" "CrierOfBoroughModel" "token" "I") :: tl_3_946
def tl_3_944 : List Cond := ((Jvm.Cond.soleField "CrierOfBoroughModel" "begun")) :: tl_3_945
def tl_3_943 : List Cond := (Cond.lays "CrierOfBoroughModel" "CrierOfBoroughModel" "begun" "I") :: tl_3_944
def tl_3_942 : List Cond := ((Jvm.Cond.soleField "CrierOfBoroughModel" "at")) :: tl_3_943
def tl_3_941 : List Cond := (Cond.lays "CrierOfBoroughModel" "CrierOfBoroughModel" "at" "I") :: tl_3_942
def tl_3_940 : List Cond := ((Jvm.Cond.soleField "CrierOfBoroughModel" "law")) :: tl_3_941
def tl_3_939 : List Cond := (Cond.laysFinal "CrierOfBoroughModel" "CrierOfBoroughModel" "law" "[I") :: tl_3_940
def tl_3_938 : List Cond := ((Jvm.Cond.soleField "CrierOfBoroughModel" "cells")) :: tl_3_939
def tl_3_937 : List Cond := (Cond.laysFinal "CrierOfBoroughModel" "CrierOfBoroughModel" "cells" "[I") :: tl_3_938
def tl_3_936 : List Cond := ((Jvm.Cond.soleField "CrierOfBoroughModel" "sheetSize")) :: tl_3_937
def tl_3_935 : List Cond := (Cond.laysFinal "CrierOfBoroughModel" "CrierOfBoroughModel" "sheetSize" "[I") :: tl_3_936
def tl_3_934 : List Cond := ((Jvm.Cond.soleField "CrierOfBoroughModel" "sheetSort")) :: tl_3_935
def tl_3_933 : List Cond := (Cond.laysFinal "CrierOfBoroughModel" "CrierOfBoroughModel" "sheetSort" "[I") :: tl_3_934
def tl_3_932 : List Cond := ((Jvm.Cond.soleField "CrierOfBoroughModel" "imageHeld")) :: tl_3_933
def tl_3_931 : List Cond := (Cond.laysFinal "CrierOfBoroughModel" "CrierOfBoroughModel" "imageHeld" "[I") :: tl_3_932
def tl_3_930 : List Cond := ((Jvm.Cond.soleField "CrierOfBoroughModel" "imageRows")) :: tl_3_931
def tl_3_929 : List Cond := (Cond.laysFinal "CrierOfBoroughModel" "CrierOfBoroughModel" "imageRows" "[I") :: tl_3_930
def tl_3_928 : List Cond := ((Jvm.Cond.soleField "CrierOfBoroughModel" "hasImage")) :: tl_3_929
def tl_3_927 : List Cond := (Cond.lays "CrierOfBoroughModel" "CrierOfBoroughModel" "hasImage" "Z") :: tl_3_928
def tl_3_926 : List Cond := ((Jvm.Cond.soleField "CrierOfBoroughModel" "rule")) :: tl_3_927
def tl_3_925 : List Cond := (Cond.lays "CrierOfBoroughModel" "CrierOfBoroughModel" "rule" "I") :: tl_3_926
def tl_3_924 : List Cond := ((Jvm.Cond.soleField "CrierOfBoroughModel" "texts")) :: tl_3_925
def tl_3_923 : List Cond := (Cond.lays "CrierOfBoroughModel" "CrierOfBoroughModel" "texts" "I") :: tl_3_924
def tl_3_922 : List Cond := ((Jvm.Cond.soleField "CrierOfBoroughModel" "starts")) :: tl_3_923
def tl_3_921 : List Cond := (Cond.laysFinal "CrierOfBoroughModel" "CrierOfBoroughModel" "starts" "[I") :: tl_3_922
def tl_3_920 : List Cond := ((Jvm.Cond.soleField "CrierOfBoroughModel" "codes")) :: tl_3_921
def tl_3_919 : List Cond := (Cond.laysFinal "CrierOfBoroughModel" "CrierOfBoroughModel" "codes" "[I") :: tl_3_920
def tl_3_918 : List Cond := ((Jvm.Cond.soleField "CrierOfBoroughModel" "taped")) :: tl_3_919
def tl_3_917 : List Cond := (Cond.lays "CrierOfBoroughModel" "CrierOfBoroughModel" "taped" "I") :: tl_3_918
def tl_3_916 : List Cond := ((Jvm.Cond.soleField "CrierOfBoroughModel" "tape")) :: tl_3_917
def tl_3_915 : List Cond := (Cond.laysFinal "CrierOfBoroughModel" "CrierOfBoroughModel" "tape" "[I") :: tl_3_916
def tl_3_914 : List Cond := ((Jvm.Cond.soleField "CrierOfBoroughModel" "borough")) :: tl_3_915
def tl_3_913 : List Cond := (Cond.laysFinal "CrierOfBoroughModel" "CrierOfBoroughModel" "borough" "[I") :: tl_3_914
def tl_3_912 : List Cond := ((Jvm.Cond.soleField "CrierOfBoroughModel" "rows")) :: tl_3_913
def tl_3_911 : List Cond := (Cond.laysFinal "CrierOfBoroughModel" "CrierOfBoroughModel" "rows" "[I") :: tl_3_912
def tl_3_910 : List Cond := ((Jvm.Cond.soleField "CrierOfBoroughModel" "moreOf")) :: tl_3_911
def tl_3_909 : List Cond := (Cond.laysFinal "CrierOfBoroughModel" "CrierOfBoroughModel" "moreOf" "[I") :: tl_3_910
def tl_3_908 : List Cond := ((Jvm.Cond.soleField "CrierOfBoroughModel" "kind")) :: tl_3_909
def tl_3_907 : List Cond := (Cond.laysFinal "CrierOfBoroughModel" "CrierOfBoroughModel" "kind" "[I") :: tl_3_908
def tl_3_906 : List Cond := ((Jvm.Cond.soleField "CrierOfBoroughModel" "people")) :: tl_3_907
def tl_3_905 : List Cond := (Cond.lays "CrierOfBoroughModel" "CrierOfBoroughModel" "people" "I") :: tl_3_906
def tl_3_904 : List Cond := (Cond.fieldLink "CrierOfBoroughModel" 259 "CrierOfBoroughModel" "newsThen" "I") :: tl_3_905
def tl_3_903 : List Cond := (Cond.fieldLink "CrierOfBoroughModel" 64 "CrierOfBoroughModel" "tellable" "[I") :: tl_3_904
def tl_3_902 : List Cond := (Cond.fieldLink "CrierOfBoroughModel" 61 "CrierOfBoroughModel" "kept" "[I") :: tl_3_903
def tl_3_901 : List Cond := (Cond.fieldLink "CrierOfBoroughModel" 58 "CrierOfBoroughModel" "named" "[I") :: tl_3_902
def tl_3_900 : List Cond := (Cond.fieldLink "CrierOfBoroughModel" 55 "CrierOfBoroughModel" "stack" "[I") :: tl_3_901
def tl_3_899 : List Cond := (Cond.fieldLink "CrierOfBoroughModel" 115 "CrierOfBoroughModel" "out" "I") :: tl_3_900
def tl_3_898 : List Cond := (Cond.fieldLink "CrierOfBoroughModel" 124 "CrierOfBoroughModel" "opens" "I") :: tl_3_899
def tl_3_897 : List Cond := (Cond.fieldLink "CrierOfBoroughModel" 118 "CrierOfBoroughModel" "heldMany" "I") :: tl_3_898
def tl_3_896 : List Cond := (Cond.fieldLink "CrierOfBoroughModel" 52 "CrierOfBoroughModel" "held" "[I") :: tl_3_897
def tl_3_895 : List Cond := (Cond.fieldLink "CrierOfBoroughModel" 49 "CrierOfBoroughModel" "words" "[I") :: tl_3_896
def tl_3_894 : List Cond := (Cond.fieldLink "CrierOfBoroughModel" 108 "CrierOfBoroughModel" "value" "I") :: tl_3_895
def tl_3_893 : List Cond := (Cond.fieldLink "CrierOfBoroughModel" 105 "CrierOfBoroughModel" "token" "I") :: tl_3_894
def tl_3_892 : List Cond := (Cond.fieldLink "CrierOfBoroughModel" 102 "CrierOfBoroughModel" "begun" "I") :: tl_3_893
def tl_3_891 : List Cond := (Cond.fieldLink "CrierOfBoroughModel" 99 "CrierOfBoroughModel" "at" "I") :: tl_3_892
def tl_3_890 : List Cond := (Cond.fieldLink "CrierOfBoroughModel" 46 "CrierOfBoroughModel" "law" "[I") :: tl_3_891
def tl_3_889 : List Cond := (Cond.fieldLink "CrierOfBoroughModel" 43 "CrierOfBoroughModel" "cells" "[I") :: tl_3_890
def tl_3_888 : List Cond := (Cond.fieldLink "CrierOfBoroughModel" 40 "CrierOfBoroughModel" "sheetSize" "[I") :: tl_3_889
def tl_3_887 : List Cond := (Cond.fieldLink "CrierOfBoroughModel" 37 "CrierOfBoroughModel" "sheetSort" "[I") :: tl_3_888
def tl_3_886 : List Cond := (Cond.fieldLink "CrierOfBoroughModel" 34 "CrierOfBoroughModel" "imageHeld" "[I") :: tl_3_887
def tl_3_885 : List Cond := (Cond.fieldLink "CrierOfBoroughModel" 31 "CrierOfBoroughModel" "imageRows" "[I") :: tl_3_886
def tl_3_884 : List Cond := (Cond.fieldLink "CrierOfBoroughModel" 266 "CrierOfBoroughModel" "hasImage" "Z") :: tl_3_885
def tl_3_883 : List Cond := (Cond.fieldLink "CrierOfBoroughModel" 89 "CrierOfBoroughModel" "rule" "I") :: tl_3_884
def tl_3_882 : List Cond := (Cond.fieldLink "CrierOfBoroughModel" 86 "CrierOfBoroughModel" "texts" "I") :: tl_3_883
def tl_3_881 : List Cond := (Cond.fieldLink "CrierOfBoroughModel" 28 "CrierOfBoroughModel" "starts" "[I") :: tl_3_882
def tl_3_880 : List Cond := (Cond.fieldLink "CrierOfBoroughModel" 25 "CrierOfBoroughModel" "codes" "[I") :: tl_3_881
def tl_3_879 : List Cond := (Cond.fieldLink "CrierOfBoroughModel" 67 "CrierOfBoroughModel" "taped" "I") :: tl_3_880
def tl_3_878 : List Cond := (Cond.fieldLink "CrierOfBoroughModel" 22 "CrierOfBoroughModel" "tape" "[I") :: tl_3_879
def tl_3_877 : List Cond := (Cond.fieldLink "CrierOfBoroughModel" 19 "CrierOfBoroughModel" "borough" "[I") :: tl_3_878
def tl_3_876 : List Cond := (Cond.fieldLink "CrierOfBoroughModel" 16 "CrierOfBoroughModel" "rows" "[I") :: tl_3_877
def tl_3_875 : List Cond := (Cond.fieldLink "CrierOfBoroughModel" 13 "CrierOfBoroughModel" "moreOf" "[I") :: tl_3_876
def tl_3_874 : List Cond := (Cond.fieldLink "CrierOfBoroughModel" 7 "CrierOfBoroughModel" "kind" "[I") :: tl_3_875
def tl_3_873 : List Cond := (Cond.fieldLink "CrierOfBoroughModel" 75 "CrierOfBoroughModel" "people" "I") :: tl_3_874
def tl_3_872 : List Cond := (Cond.code yX11_between cX11_between 2 (some (.boolean))) :: tl_3_873
def tl_3_871 : List Cond := (Cond.instanceMethod yX11_between) :: tl_3_872
def tl_3_870 : List Cond := ((Jvm.Cond.privateMethod ({ cls := "CrierOfBoroughModel", name := "between", desc := "(I)Z" } : Jvm.MethodName))) :: tl_3_871
def tl_3_869 : List Cond := (Cond.methodLink RX11 147 yX11_between) :: tl_3_870
def tl_3_868 : List Cond := (Cond.code yX11_signOf cX11_signOf 1 (some (.int))) :: tl_3_869
def tl_3_867 : List Cond := (Cond.instanceMethod yX11_signOf) :: tl_3_868
def tl_3_866 : List Cond := ((Jvm.Cond.privateMethod ({ cls := "CrierOfBoroughModel", name := "signOf", desc := "()I" } : Jvm.MethodName))) :: tl_3_867
def tl_3_865 : List Cond := (Cond.methodLink RX11 144 yX11_signOf) :: tl_3_866
def tl_3_864 : List Cond := (Cond.code yX11_holds cX11_holds 2 (none)) :: tl_3_865
def tl_3_863 : List Cond := (Cond.instanceMethod yX11_holds) :: tl_3_864
def tl_3_862 : List Cond := ((Jvm.Cond.privateMethod ({ cls := "CrierOfBoroughModel", name := "holds", desc := "(I)V" } : Jvm.MethodName))) :: tl_3_863
def tl_3_861 : List Cond := (Cond.methodLink RX11 131 yX11_holds) :: tl_3_862
def tl_3_860 : List Cond := (Cond.code yX11_opensOne cX11_opensOne 2 (some (.boolean))) :: tl_3_861
def tl_3_859 : List Cond := (Cond.instanceMethod yX11_opensOne) :: tl_3_860
def tl_3_858 : List Cond := ((Jvm.Cond.privateMethod ({ cls := "CrierOfBoroughModel", name := "opensOne", desc := "(I)Z" } : Jvm.MethodName))) :: tl_3_859
def tl_3_857 : List Cond := (Cond.methodLink RX11 141 yX11_opensOne) :: tl_3_858
def tl_3_856 : List Cond := (Cond.code yX11_rank cX11_rank 1 (some (.int))) :: tl_3_857
def tl_3_855 : List Cond := (Cond.static yX11_rank) :: tl_3_856
def tl_3_854 : List Cond := (Cond.methodLink RX11 121 yX11_rank) :: tl_3_855
def tl_3_853 : List Cond := (Cond.code yX11_unwinds cX11_unwinds 3 (none)) :: tl_3_854
def tl_3_852 : List Cond := (Cond.instanceMethod yX11_unwinds) :: tl_3_853
def tl_3_851 : List Cond := ((Jvm.Cond.privateMethod ({ cls := "CrierOfBoroughModel", name := "unwinds", desc := "(I)V" } : Jvm.MethodName))) :: tl_3_852
def tl_3_850 : List Cond := (Cond.methodLink RX11 134 yX11_unwinds) :: tl_3_851
def tl_3_849 : List Cond := (Cond.code yX11_puts cX11_puts 2 (none)) :: tl_3_850
def tl_3_848 : List Cond := (Cond.instanceMethod yX11_puts) :: tl_3_849
def tl_3_847 : List Cond := ((Jvm.Cond.privateMethod ({ cls := "CrierOfBoroughModel", name := "puts", desc := "(I)V" } : Jvm.MethodName))) :: tl_3_848
def tl_3_846 : List Cond := (Cond.methodLink RX11 127 yX11_puts) :: tl_3_847
def tl_3_845 : List Cond := (Cond.constant RX11 140 (100000 : Int32)) :: tl_3_846
def tl_3_844 : List Cond := (Cond.code yX11_eRead cX11_eRead 4 (some (.boolean))) :: tl_3_845
def tl_3_843 : List Cond := (Cond.instanceMethod yX11_eRead) :: tl_3_844
def tl_3_842 : List Cond := ((Jvm.Cond.privateMethod ({ cls := "CrierOfBoroughModel", name := "eRead", desc := "()Z" } : Jvm.MethodName))) :: tl_3_843
def tl_3_841 : List Cond := (Cond.methodLink RX11 150 yX11_eRead) :: tl_3_842
def tl_3_840 : List Cond := (Cond.code yX11_wordFrom cX11_wordFrom 6 (some (.int))) :: tl_3_841
def tl_3_839 : List Cond := (Cond.instanceMethod yX11_wordFrom) :: tl_3_840
def tl_3_838 : List Cond := ((Jvm.Cond.privateMethod ({ cls := "CrierOfBoroughModel", name := "wordFrom", desc := "(II)I" } : Jvm.MethodName))) :: tl_3_839
def tl_3_837 : List Cond := (Cond.methodLink RX11 111 yX11_wordFrom) :: tl_3_838
def tl_3_836 : List Cond := (Cond.code yX11_in cX11_in 3 (some (.boolean))) :: tl_3_837
def tl_3_835 : List Cond := (Cond.static yX11_in) :: tl_3_836
def tl_3_834 : List Cond := (Cond.methodLink RX11 78 yX11_in) :: tl_3_835
def tl_3_833 : List Cond := (Cond.code yX11_next cX11_next 3 (none)) :: tl_3_834
def tl_3_832 : List Cond := (Cond.instanceMethod yX11_next) :: tl_3_833
def tl_3_831 : List Cond := ((Jvm.Cond.privateMethod ({ cls := "CrierOfBoroughModel", name := "next", desc := "()V" } : Jvm.MethodName))) :: tl_3_832
def tl_3_830 : List Cond := (Cond.methodLink RX11 137 yX11_next) :: tl_3_831
def tl_3_829 : List Cond := (Cond.code yX11_text cX11_text 3 (some (.int))) :: tl_3_830
def tl_3_828 : List Cond := (Cond.selects RX11 yX11_text yX11_text) :: tl_3_829
def tl_3_827 : List Cond := (Cond.instanceMethod yX11_text) :: tl_3_828
def tl_3_826 : List Cond := (Cond.methodLink RX11 71 yX11_text) :: tl_3_827
def tl_3_825 : List Cond := (Cond.methodLink RX11 1 ⟨"java/lang/Object", "<init>", "()V"⟩) :: tl_3_826
def tl_3_824 : List Cond := (Cond.code yX11_init cX11_init 2 (none)) :: tl_3_825
def tl_3_823 : List Cond := (Cond.instanceMethod yX11_init) :: tl_3_824
def tl_3_822 : List Cond := (Cond.methodLink RL 12 yX11_init) :: tl_3_823
def tl_3_821 : List Cond := (Cond.instantiable RX11 32) :: tl_3_822
def tl_3_820 : List Cond := (Cond.classLink RL 10 "CrierOfBoroughModel") :: tl_3_821
def tl_3_819 : List Cond := (Cond.code yX0_isOf cX0_isOf 2 (some (.boolean))) :: tl_3_820
def tl_3_818 : List Cond := (Cond.methodLink RX8 7 yX3_isOf) :: tl_3_819
def tl_3_817 : List Cond := (Cond.code yX8_isOf cX8_isOf 2 (some (.boolean))) :: tl_3_818
def tl_3_816 : List Cond := (Cond.instanceMethod yX8_isOf) :: tl_3_817
def tl_3_815 : List Cond := (Cond.selects RX8 yX0_isOf yX8_isOf) :: tl_3_816
def tl_3_814 : List Cond := (Cond.methodLink RX5 7 yX0_isOf) :: tl_3_815
def tl_3_813 : List Cond := (Cond.code yX5_isOf cX5_isOf 2 (some (.boolean))) :: tl_3_814
def tl_3_812 : List Cond := (Cond.instanceMethod yX5_isOf) :: tl_3_813
def tl_3_811 : List Cond := (Cond.selects RX5 yX0_isOf yX5_isOf) :: tl_3_812
def tl_3_810 : List Cond := (Cond.methodLink RX3 7 yX0_isOf) :: tl_3_811
def tl_3_809 : List Cond := (Cond.code yX3_isOf cX3_isOf 2 (some (.boolean))) :: tl_3_810
def tl_3_808 : List Cond := (Cond.instanceMethod yX3_isOf) :: tl_3_809
def tl_3_807 : List Cond := (Cond.selects RX3 yX0_isOf yX3_isOf) :: tl_3_808
def tl_3_806 : List Cond := (Cond.methodLink RX2 7 yX1_isOf) :: tl_3_807
def tl_3_805 : List Cond := (Cond.code yX2_isOf cX2_isOf 2 (some (.boolean))) :: tl_3_806
def tl_3_804 : List Cond := (Cond.instanceMethod yX2_isOf) :: tl_3_805
def tl_3_803 : List Cond := (Cond.selects RX2 yX0_isOf yX2_isOf) :: tl_3_804
def tl_3_802 : List Cond := (Cond.methodLink RX1 7 yX0_isOf) :: tl_3_803
def tl_3_801 : List Cond := (Cond.code yX1_isOf cX1_isOf 2 (some (.boolean))) :: tl_3_802
def tl_3_800 : List Cond := (Cond.instanceMethod yX1_isOf) :: tl_3_801
def tl_3_799 : List Cond := (Cond.selects RX1 yX0_isOf yX1_isOf) :: tl_3_800
def tl_3_798 : List Cond := (Cond.sameMethod "CrierOfBorough$Citizen" "CrierOfBorough$Citizen" "isOf" "(I)Z") :: tl_3_799
def tl_3_797 : List Cond := (Cond.selects RX0 yX0_isOf yX0_isOf) :: tl_3_798
def tl_3_796 : List Cond := (Cond.instanceMethod yX0_isOf) :: tl_3_797
def tl_3_795 : List Cond := (Cond.methodLink RX10 262 yX0_isOf) :: tl_3_796
def tl_3_794 : List Cond := (Cond.methodLink RX10 258 yX9_nature) :: tl_3_795
def tl_3_793 : List Cond := (Cond.code yX10_taken cX10_taken 5 (some (.int))) :: tl_3_794
def tl_3_792 : List Cond := (Cond.selects RX10 yX10_taken yX10_taken) :: tl_3_793
def tl_3_791 : List Cond := (Cond.instanceMethod yX10_taken) :: tl_3_792
def tl_3_790 : List Cond := (Cond.methodLink RL 162 yX10_taken) :: tl_3_791
def tl_3_789 : List Cond := (Cond.methodLink RX10 255 yX10_citizen) :: tl_3_790
def tl_3_788 : List Cond := (Cond.code yX10_peopleBy cX10_peopleBy 9 (some (.int))) :: tl_3_789
def tl_3_787 : List Cond := (Cond.selects RX10 yX10_peopleBy yX10_peopleBy) :: tl_3_788
def tl_3_786 : List Cond := (Cond.instanceMethod yX10_peopleBy) :: tl_3_787
def tl_3_785 : List Cond := (Cond.methodLink RL 157 yX10_peopleBy) :: tl_3_786
def tl_3_784 : List Cond := (Cond.methodLink RX10 249 ⟨"java/lang/System", "arraycopy", "(Ljava/lang/Object;ILjava/lang/Object;II)V"⟩) :: tl_3_785
def tl_3_783 : List Cond := (Cond.code yX4_holds cX4_holds 3 (some (.boolean))) :: tl_3_784
def tl_3_782 : List Cond := (Cond.selects RX4 yX4_holds yX4_holds) :: tl_3_783
def tl_3_781 : List Cond := (Cond.instanceMethod yX4_holds) :: tl_3_782
def tl_3_780 : List Cond := (Cond.methodLink RX10 243 yX4_holds) :: tl_3_781
def tl_3_779 : List Cond := (Cond.code yX10_copy cX10_copy 8 (some (.int))) :: tl_3_780
def tl_3_778 : List Cond := (Cond.selects RX10 yX10_copy yX10_copy) :: tl_3_779
def tl_3_777 : List Cond := (Cond.instanceMethod yX10_copy) :: tl_3_778
def tl_3_776 : List Cond := (Cond.methodLink RL 152 yX10_copy) :: tl_3_777
def tl_3_775 : List Cond := (Cond.code yX10_cell cX10_cell 4 (some (.int))) :: tl_3_776
def tl_3_774 : List Cond := (Cond.selects RX10 yX10_cell yX10_cell) :: tl_3_775
def tl_3_773 : List Cond := (Cond.instanceMethod yX10_cell) :: tl_3_774
def tl_3_772 : List Cond := (Cond.methodLink RL 148 yX10_cell) :: tl_3_773
def tl_3_771 : List Cond := (Cond.code yX10_sheet cX10_sheet 5 (some (.int))) :: tl_3_772
def tl_3_770 : List Cond := (Cond.selects RX10 yX10_sheet yX10_sheet) :: tl_3_771
def tl_3_769 : List Cond := (Cond.instanceMethod yX10_sheet) :: tl_3_770
def tl_3_768 : List Cond := (Cond.methodLink RL 144 yX10_sheet) :: tl_3_769
def tl_3_767 : List Cond := (Cond.code yX10_back cX10_back 1 (some (.int))) :: tl_3_768
def tl_3_766 : List Cond := (Cond.selects RX10 yX10_back yX10_back) :: tl_3_767
def tl_3_765 : List Cond := (Cond.instanceMethod yX10_back) :: tl_3_766
def tl_3_764 : List Cond := (Cond.methodLink RL 140 yX10_back) :: tl_3_765
def tl_3_763 : List Cond := (Cond.code yX10_image cX10_image 1 (some (.int))) :: tl_3_764
def tl_3_762 : List Cond := (Cond.selects RX10 yX10_image yX10_image) :: tl_3_763
def tl_3_761 : List Cond := (Cond.instanceMethod yX10_image) :: tl_3_762
def tl_3_760 : List Cond := (Cond.methodLink RL 136 yX10_image) :: tl_3_761
def tl_3_759 : List Cond := (Cond.code yX10_odds cX10_odds 8 (some (.long))) :: tl_3_760
def tl_3_758 : List Cond := (Cond.selects RX10 yX10_odds yX10_odds) :: tl_3_759
def tl_3_757 : List Cond := (Cond.instanceMethod yX10_odds) :: tl_3_758
def tl_3_756 : List Cond := (Cond.methodLink RL 131 yX10_odds) :: tl_3_757
def tl_3_755 : List Cond := (Cond.constantLong RX10 271 (10 : Int64)) :: tl_3_756
def tl_3_754 : List Cond := (Cond.constantLong RX10 269 (6 : Int64)) :: tl_3_755
def tl_3_753 : List Cond := (Cond.constantLong RX10 278 (2147483647 : Int64)) :: tl_3_754
def tl_3_752 : List Cond := (Cond.constantLong RX10 276 (48271 : Int64)) :: tl_3_753
def tl_3_751 : List Cond := (Cond.code yX10_lotBehind cX10_lotBehind 2 (some (.long))) :: tl_3_752
def tl_3_750 : List Cond := (Cond.static yX10_lotBehind) :: tl_3_751
def tl_3_749 : List Cond := (Cond.methodLink RX10 265 yX10_lotBehind) :: tl_3_750
def tl_3_748 : List Cond := (Cond.code yX10_criedByLots cX10_criedByLots 8 (some (.int))) :: tl_3_749
def tl_3_747 : List Cond := (Cond.instanceMethod yX10_criedByLots) :: tl_3_748
def tl_3_746 : List Cond := ((Jvm.Cond.privateMethod ({ cls := "CrierOfBorough", name := "criedByLots", desc := "(I)I" } : Jvm.MethodName))) :: tl_3_747
def tl_3_745 : List Cond := (Cond.methodLink RX10 232 yX10_criedByLots) :: tl_3_746
def tl_3_744 : List Cond := (Cond.constant RX10 231 (99999 : Int32)) :: tl_3_745
def tl_3_743 : List Cond := (Cond.code yX10_drawn cX10_drawn 4 (some (.int))) :: tl_3_744
def tl_3_742 : List Cond := (Cond.selects RX10 yX10_drawn yX10_drawn) :: tl_3_743
def tl_3_741 : List Cond := (Cond.instanceMethod yX10_drawn) :: tl_3_742
def tl_3_740 : List Cond := (Cond.methodLink RL 127 yX10_drawn) :: tl_3_741
def tl_3_739 : List Cond := ((Jvm.Cond.methodLinkNest "CrierOfBorough$Sheet" (28 : Nat) ({ cls := "CrierOfBorough", name := "within", desc := "(III)Z" } : Jvm.MethodName) "CrierOfBorough")) :: tl_3_740
def tl_3_738 : List Cond := (Cond.code yX4_set cX4_set 3 (none)) :: tl_3_739
def tl_3_737 : List Cond := (Cond.selects RX4 yX4_set yX4_set) :: tl_3_738
def tl_3_736 : List Cond := (Cond.instanceMethod yX4_set) :: tl_3_737
def tl_3_735 : List Cond := (Cond.methodLink RX10 228 yX4_set) :: tl_3_736
def tl_3_734 : List Cond := (Cond.code yJ7_fill_53178 cJ7_fill_53178 4 (none)) :: tl_3_735
def tl_3_733 : List Cond := (Cond.static yJ7_fill_53178) :: tl_3_734
def tl_3_732 : List Cond := (Cond.methodLink RX4 22 yJ7_fill_53178) :: tl_3_733
def tl_3_731 : List Cond := (Cond.code yX4_become cX4_become 3 (none)) :: tl_3_732
def tl_3_730 : List Cond := (Cond.selects RX4 yX4_become yX4_become) :: tl_3_731
def tl_3_729 : List Cond := (Cond.instanceMethod yX4_become) :: tl_3_730
def tl_3_728 : List Cond := (Cond.methodLink RX10 225 yX4_become) :: tl_3_729
def tl_3_727 : List Cond := (Cond.code yX10_film cX10_film 4 (some (.int))) :: tl_3_728
def tl_3_726 : List Cond := (Cond.selects RX10 yX10_film yX10_film) :: tl_3_727
def tl_3_725 : List Cond := (Cond.instanceMethod yX10_film) :: tl_3_726
def tl_3_724 : List Cond := (Cond.methodLink RL 123 yX10_film) :: tl_3_725
def tl_3_723 : List Cond := (Cond.code yX10_laws cX10_laws 5 (some (.int))) :: tl_3_724
def tl_3_722 : List Cond := (Cond.selects RX10 yX10_laws yX10_laws) :: tl_3_723
def tl_3_721 : List Cond := (Cond.instanceMethod yX10_laws) :: tl_3_722
def tl_3_720 : List Cond := (Cond.methodLink RL 119 yX10_laws) :: tl_3_721
set_option maxRecDepth 100000 in
theorem te_3 : tables_1_4 = tl_3_720 := rfl
theorem tm_3_720 : ∀ w ∈ tl_3_720, w ∈ lw_tbl := fun w h => by
  rw [← te_3] at h
  unfold lw_tbl tables_1
  exact List.mem_append_right _ (List.mem_append_right _ (List.mem_append_right _ (List.mem_append_right _ (List.mem_append_left _ h))))
theorem w_720 : Cond.methodLink RL 119 yX10_laws ∈ gTB := gTB_of (tm_3_720 _ List.mem_cons_self) rfl
theorem tm_3_721 : ∀ w ∈ tl_3_721, w ∈ lw_tbl := fun w h => tm_3_720 w (List.mem_cons_of_mem _ h)
theorem w_721 : Cond.instanceMethod yX10_laws ∈ gTB := gTB_of (tm_3_721 _ List.mem_cons_self) rfl
theorem tm_3_722 : ∀ w ∈ tl_3_722, w ∈ lw_tbl := fun w h => tm_3_721 w (List.mem_cons_of_mem _ h)
theorem w_722 : Cond.selects RX10 yX10_laws yX10_laws ∈ gTB := gTB_of (tm_3_722 _ List.mem_cons_self) rfl
theorem tm_3_723 : ∀ w ∈ tl_3_723, w ∈ lw_tbl := fun w h => tm_3_722 w (List.mem_cons_of_mem _ h)
theorem w_723 : Cond.code yX10_laws cX10_laws 5 (some (.int)) ∈ gTB := gTB_of (tm_3_723 _ List.mem_cons_self) rfl
theorem tm_3_724 : ∀ w ∈ tl_3_724, w ∈ lw_tbl := fun w h => tm_3_723 w (List.mem_cons_of_mem _ h)
theorem w_724 : Cond.methodLink RL 123 yX10_film ∈ gTB := gTB_of (tm_3_724 _ List.mem_cons_self) rfl
theorem tm_3_725 : ∀ w ∈ tl_3_725, w ∈ lw_tbl := fun w h => tm_3_724 w (List.mem_cons_of_mem _ h)
theorem w_725 : Cond.instanceMethod yX10_film ∈ gTB := gTB_of (tm_3_725 _ List.mem_cons_self) rfl
theorem tm_3_726 : ∀ w ∈ tl_3_726, w ∈ lw_tbl := fun w h => tm_3_725 w (List.mem_cons_of_mem _ h)
theorem w_726 : Cond.selects RX10 yX10_film yX10_film ∈ gTB := gTB_of (tm_3_726 _ List.mem_cons_self) rfl
theorem tm_3_727 : ∀ w ∈ tl_3_727, w ∈ lw_tbl := fun w h => tm_3_726 w (List.mem_cons_of_mem _ h)
theorem w_727 : Cond.code yX10_film cX10_film 4 (some (.int)) ∈ gTB := gTB_of (tm_3_727 _ List.mem_cons_self) rfl
theorem tm_3_728 : ∀ w ∈ tl_3_728, w ∈ lw_tbl := fun w h => tm_3_727 w (List.mem_cons_of_mem _ h)
theorem w_728 : Cond.methodLink RX10 225 yX4_become ∈ gTB := gTB_of (tm_3_728 _ List.mem_cons_self) rfl
theorem tm_3_729 : ∀ w ∈ tl_3_729, w ∈ lw_tbl := fun w h => tm_3_728 w (List.mem_cons_of_mem _ h)
theorem w_729 : Cond.instanceMethod yX4_become ∈ gTB := gTB_of (tm_3_729 _ List.mem_cons_self) rfl
theorem tm_3_730 : ∀ w ∈ tl_3_730, w ∈ lw_tbl := fun w h => tm_3_729 w (List.mem_cons_of_mem _ h)
theorem w_730 : Cond.selects RX4 yX4_become yX4_become ∈ gTB := gTB_of (tm_3_730 _ List.mem_cons_self) rfl
theorem tm_3_731 : ∀ w ∈ tl_3_731, w ∈ lw_tbl := fun w h => tm_3_730 w (List.mem_cons_of_mem _ h)
theorem w_731 : Cond.code yX4_become cX4_become 3 (none) ∈ gTB := gTB_of (tm_3_731 _ List.mem_cons_self) rfl
theorem tm_3_732 : ∀ w ∈ tl_3_732, w ∈ lw_tbl := fun w h => tm_3_731 w (List.mem_cons_of_mem _ h)
theorem w_732 : Cond.methodLink RX4 22 yJ7_fill_53178 ∈ gTB := gTB_of (tm_3_732 _ List.mem_cons_self) rfl
theorem tm_3_733 : ∀ w ∈ tl_3_733, w ∈ lw_tbl := fun w h => tm_3_732 w (List.mem_cons_of_mem _ h)
theorem w_733 : Cond.static yJ7_fill_53178 ∈ gTB := gTB_of (tm_3_733 _ List.mem_cons_self) rfl
theorem tm_3_734 : ∀ w ∈ tl_3_734, w ∈ lw_tbl := fun w h => tm_3_733 w (List.mem_cons_of_mem _ h)
theorem w_734 : Cond.code yJ7_fill_53178 cJ7_fill_53178 4 (none) ∈ gTB := gTB_of (tm_3_734 _ List.mem_cons_self) rfl
theorem tm_3_735 : ∀ w ∈ tl_3_735, w ∈ lw_tbl := fun w h => tm_3_734 w (List.mem_cons_of_mem _ h)
theorem w_735 : Cond.methodLink RX10 228 yX4_set ∈ gTB := gTB_of (tm_3_735 _ List.mem_cons_self) rfl
theorem tm_3_736 : ∀ w ∈ tl_3_736, w ∈ lw_tbl := fun w h => tm_3_735 w (List.mem_cons_of_mem _ h)
theorem w_736 : Cond.instanceMethod yX4_set ∈ gTB := gTB_of (tm_3_736 _ List.mem_cons_self) rfl
theorem tm_3_737 : ∀ w ∈ tl_3_737, w ∈ lw_tbl := fun w h => tm_3_736 w (List.mem_cons_of_mem _ h)
theorem w_737 : Cond.selects RX4 yX4_set yX4_set ∈ gTB := gTB_of (tm_3_737 _ List.mem_cons_self) rfl
theorem tm_3_738 : ∀ w ∈ tl_3_738, w ∈ lw_tbl := fun w h => tm_3_737 w (List.mem_cons_of_mem _ h)
theorem w_738 : Cond.code yX4_set cX4_set 3 (none) ∈ gTB := gTB_of (tm_3_738 _ List.mem_cons_self) rfl
theorem tm_3_739 : ∀ w ∈ tl_3_739, w ∈ lw_tbl := fun w h => tm_3_738 w (List.mem_cons_of_mem _ h)
theorem w_739 : Cond.methodLinkNest RX4 28 yX10_within RX10 ∈ lw_tbl := tm_3_739 _ List.mem_cons_self
theorem tm_3_740 : ∀ w ∈ tl_3_740, w ∈ lw_tbl := fun w h => tm_3_739 w (List.mem_cons_of_mem _ h)
theorem w_740 : Cond.methodLink RL 127 yX10_drawn ∈ gTB := gTB_of (tm_3_740 _ List.mem_cons_self) rfl
theorem tm_3_741 : ∀ w ∈ tl_3_741, w ∈ lw_tbl := fun w h => tm_3_740 w (List.mem_cons_of_mem _ h)
theorem w_741 : Cond.instanceMethod yX10_drawn ∈ gTB := gTB_of (tm_3_741 _ List.mem_cons_self) rfl
theorem tm_3_742 : ∀ w ∈ tl_3_742, w ∈ lw_tbl := fun w h => tm_3_741 w (List.mem_cons_of_mem _ h)
theorem w_742 : Cond.selects RX10 yX10_drawn yX10_drawn ∈ gTB := gTB_of (tm_3_742 _ List.mem_cons_self) rfl
theorem tm_3_743 : ∀ w ∈ tl_3_743, w ∈ lw_tbl := fun w h => tm_3_742 w (List.mem_cons_of_mem _ h)
theorem w_743 : Cond.code yX10_drawn cX10_drawn 4 (some (.int)) ∈ gTB := gTB_of (tm_3_743 _ List.mem_cons_self) rfl
theorem tm_3_744 : ∀ w ∈ tl_3_744, w ∈ lw_tbl := fun w h => tm_3_743 w (List.mem_cons_of_mem _ h)
theorem w_744 : Cond.constant RX10 231 (99999 : Int32) ∈ gTB := gTB_of (tm_3_744 _ List.mem_cons_self) rfl
theorem tm_3_745 : ∀ w ∈ tl_3_745, w ∈ lw_tbl := fun w h => tm_3_744 w (List.mem_cons_of_mem _ h)
theorem w_745 : Cond.methodLink RX10 232 yX10_criedByLots ∈ gTB := gTB_of (tm_3_745 _ List.mem_cons_self) rfl
theorem tm_3_746 : ∀ w ∈ tl_3_746, w ∈ lw_tbl := fun w h => tm_3_745 w (List.mem_cons_of_mem _ h)
theorem tm_3_747 : ∀ w ∈ tl_3_747, w ∈ lw_tbl := fun w h => tm_3_746 w (List.mem_cons_of_mem _ h)
theorem w_747 : Cond.instanceMethod yX10_criedByLots ∈ gTB := gTB_of (tm_3_747 _ List.mem_cons_self) rfl
theorem tm_3_748 : ∀ w ∈ tl_3_748, w ∈ lw_tbl := fun w h => tm_3_747 w (List.mem_cons_of_mem _ h)
theorem w_748 : Cond.code yX10_criedByLots cX10_criedByLots 8 (some (.int)) ∈ gTB := gTB_of (tm_3_748 _ List.mem_cons_self) rfl
theorem tm_3_749 : ∀ w ∈ tl_3_749, w ∈ lw_tbl := fun w h => tm_3_748 w (List.mem_cons_of_mem _ h)
theorem w_749 : Cond.methodLink RX10 265 yX10_lotBehind ∈ gTB := gTB_of (tm_3_749 _ List.mem_cons_self) rfl
theorem tm_3_750 : ∀ w ∈ tl_3_750, w ∈ lw_tbl := fun w h => tm_3_749 w (List.mem_cons_of_mem _ h)
theorem w_750 : Cond.static yX10_lotBehind ∈ gTB := gTB_of (tm_3_750 _ List.mem_cons_self) rfl
theorem tm_3_751 : ∀ w ∈ tl_3_751, w ∈ lw_tbl := fun w h => tm_3_750 w (List.mem_cons_of_mem _ h)
theorem w_751 : Cond.code yX10_lotBehind cX10_lotBehind 2 (some (.long)) ∈ gTB := gTB_of (tm_3_751 _ List.mem_cons_self) rfl
theorem tm_3_752 : ∀ w ∈ tl_3_752, w ∈ lw_tbl := fun w h => tm_3_751 w (List.mem_cons_of_mem _ h)
theorem w_752 : Cond.constantLong RX10 276 (48271 : Int64) ∈ gTB := gTB_of (tm_3_752 _ List.mem_cons_self) rfl
theorem tm_3_753 : ∀ w ∈ tl_3_753, w ∈ lw_tbl := fun w h => tm_3_752 w (List.mem_cons_of_mem _ h)
theorem w_753 : Cond.constantLong RX10 278 (2147483647 : Int64) ∈ gTB := gTB_of (tm_3_753 _ List.mem_cons_self) rfl
theorem tm_3_754 : ∀ w ∈ tl_3_754, w ∈ lw_tbl := fun w h => tm_3_753 w (List.mem_cons_of_mem _ h)
theorem w_754 : Cond.constantLong RX10 269 (6 : Int64) ∈ gTB := gTB_of (tm_3_754 _ List.mem_cons_self) rfl
theorem tm_3_755 : ∀ w ∈ tl_3_755, w ∈ lw_tbl := fun w h => tm_3_754 w (List.mem_cons_of_mem _ h)
theorem w_755 : Cond.constantLong RX10 271 (10 : Int64) ∈ gTB := gTB_of (tm_3_755 _ List.mem_cons_self) rfl
theorem tm_3_756 : ∀ w ∈ tl_3_756, w ∈ lw_tbl := fun w h => tm_3_755 w (List.mem_cons_of_mem _ h)
theorem w_756 : Cond.methodLink RL 131 yX10_odds ∈ gTB := gTB_of (tm_3_756 _ List.mem_cons_self) rfl
theorem tm_3_757 : ∀ w ∈ tl_3_757, w ∈ lw_tbl := fun w h => tm_3_756 w (List.mem_cons_of_mem _ h)
theorem w_757 : Cond.instanceMethod yX10_odds ∈ gTB := gTB_of (tm_3_757 _ List.mem_cons_self) rfl
theorem tm_3_758 : ∀ w ∈ tl_3_758, w ∈ lw_tbl := fun w h => tm_3_757 w (List.mem_cons_of_mem _ h)
theorem w_758 : Cond.selects RX10 yX10_odds yX10_odds ∈ gTB := gTB_of (tm_3_758 _ List.mem_cons_self) rfl
theorem tm_3_759 : ∀ w ∈ tl_3_759, w ∈ lw_tbl := fun w h => tm_3_758 w (List.mem_cons_of_mem _ h)
theorem w_759 : Cond.code yX10_odds cX10_odds 8 (some (.long)) ∈ gTB := gTB_of (tm_3_759 _ List.mem_cons_self) rfl
theorem tm_3_760 : ∀ w ∈ tl_3_760, w ∈ lw_tbl := fun w h => tm_3_759 w (List.mem_cons_of_mem _ h)
theorem w_760 : Cond.methodLink RL 136 yX10_image ∈ gTB := gTB_of (tm_3_760 _ List.mem_cons_self) rfl
theorem tm_3_761 : ∀ w ∈ tl_3_761, w ∈ lw_tbl := fun w h => tm_3_760 w (List.mem_cons_of_mem _ h)
theorem w_761 : Cond.instanceMethod yX10_image ∈ gTB := gTB_of (tm_3_761 _ List.mem_cons_self) rfl
theorem tm_3_762 : ∀ w ∈ tl_3_762, w ∈ lw_tbl := fun w h => tm_3_761 w (List.mem_cons_of_mem _ h)
theorem w_762 : Cond.selects RX10 yX10_image yX10_image ∈ gTB := gTB_of (tm_3_762 _ List.mem_cons_self) rfl
theorem tm_3_763 : ∀ w ∈ tl_3_763, w ∈ lw_tbl := fun w h => tm_3_762 w (List.mem_cons_of_mem _ h)
theorem w_763 : Cond.code yX10_image cX10_image 1 (some (.int)) ∈ gTB := gTB_of (tm_3_763 _ List.mem_cons_self) rfl
theorem tm_3_764 : ∀ w ∈ tl_3_764, w ∈ lw_tbl := fun w h => tm_3_763 w (List.mem_cons_of_mem _ h)
theorem w_764 : Cond.methodLink RL 140 yX10_back ∈ gTB := gTB_of (tm_3_764 _ List.mem_cons_self) rfl
theorem tm_3_765 : ∀ w ∈ tl_3_765, w ∈ lw_tbl := fun w h => tm_3_764 w (List.mem_cons_of_mem _ h)
theorem w_765 : Cond.instanceMethod yX10_back ∈ gTB := gTB_of (tm_3_765 _ List.mem_cons_self) rfl
theorem tm_3_766 : ∀ w ∈ tl_3_766, w ∈ lw_tbl := fun w h => tm_3_765 w (List.mem_cons_of_mem _ h)
theorem w_766 : Cond.selects RX10 yX10_back yX10_back ∈ gTB := gTB_of (tm_3_766 _ List.mem_cons_self) rfl
theorem tm_3_767 : ∀ w ∈ tl_3_767, w ∈ lw_tbl := fun w h => tm_3_766 w (List.mem_cons_of_mem _ h)
theorem w_767 : Cond.code yX10_back cX10_back 1 (some (.int)) ∈ gTB := gTB_of (tm_3_767 _ List.mem_cons_self) rfl
theorem tm_3_768 : ∀ w ∈ tl_3_768, w ∈ lw_tbl := fun w h => tm_3_767 w (List.mem_cons_of_mem _ h)
theorem w_768 : Cond.methodLink RL 144 yX10_sheet ∈ gTB := gTB_of (tm_3_768 _ List.mem_cons_self) rfl
theorem tm_3_769 : ∀ w ∈ tl_3_769, w ∈ lw_tbl := fun w h => tm_3_768 w (List.mem_cons_of_mem _ h)
theorem w_769 : Cond.instanceMethod yX10_sheet ∈ gTB := gTB_of (tm_3_769 _ List.mem_cons_self) rfl
theorem tm_3_770 : ∀ w ∈ tl_3_770, w ∈ lw_tbl := fun w h => tm_3_769 w (List.mem_cons_of_mem _ h)
theorem w_770 : Cond.selects RX10 yX10_sheet yX10_sheet ∈ gTB := gTB_of (tm_3_770 _ List.mem_cons_self) rfl
theorem tm_3_771 : ∀ w ∈ tl_3_771, w ∈ lw_tbl := fun w h => tm_3_770 w (List.mem_cons_of_mem _ h)
theorem w_771 : Cond.code yX10_sheet cX10_sheet 5 (some (.int)) ∈ gTB := gTB_of (tm_3_771 _ List.mem_cons_self) rfl
theorem tm_3_772 : ∀ w ∈ tl_3_772, w ∈ lw_tbl := fun w h => tm_3_771 w (List.mem_cons_of_mem _ h)
theorem w_772 : Cond.methodLink RL 148 yX10_cell ∈ gTB := gTB_of (tm_3_772 _ List.mem_cons_self) rfl
theorem tm_3_773 : ∀ w ∈ tl_3_773, w ∈ lw_tbl := fun w h => tm_3_772 w (List.mem_cons_of_mem _ h)
theorem w_773 : Cond.instanceMethod yX10_cell ∈ gTB := gTB_of (tm_3_773 _ List.mem_cons_self) rfl
theorem tm_3_774 : ∀ w ∈ tl_3_774, w ∈ lw_tbl := fun w h => tm_3_773 w (List.mem_cons_of_mem _ h)
theorem w_774 : Cond.selects RX10 yX10_cell yX10_cell ∈ gTB := gTB_of (tm_3_774 _ List.mem_cons_self) rfl
theorem tm_3_775 : ∀ w ∈ tl_3_775, w ∈ lw_tbl := fun w h => tm_3_774 w (List.mem_cons_of_mem _ h)
theorem w_775 : Cond.code yX10_cell cX10_cell 4 (some (.int)) ∈ gTB := gTB_of (tm_3_775 _ List.mem_cons_self) rfl
theorem tm_3_776 : ∀ w ∈ tl_3_776, w ∈ lw_tbl := fun w h => tm_3_775 w (List.mem_cons_of_mem _ h)
theorem w_776 : Cond.methodLink RL 152 yX10_copy ∈ gTB := gTB_of (tm_3_776 _ List.mem_cons_self) rfl
theorem tm_3_777 : ∀ w ∈ tl_3_777, w ∈ lw_tbl := fun w h => tm_3_776 w (List.mem_cons_of_mem _ h)
theorem w_777 : Cond.instanceMethod yX10_copy ∈ gTB := gTB_of (tm_3_777 _ List.mem_cons_self) rfl
theorem tm_3_778 : ∀ w ∈ tl_3_778, w ∈ lw_tbl := fun w h => tm_3_777 w (List.mem_cons_of_mem _ h)
theorem w_778 : Cond.selects RX10 yX10_copy yX10_copy ∈ gTB := gTB_of (tm_3_778 _ List.mem_cons_self) rfl
theorem tm_3_779 : ∀ w ∈ tl_3_779, w ∈ lw_tbl := fun w h => tm_3_778 w (List.mem_cons_of_mem _ h)
theorem w_779 : Cond.code yX10_copy cX10_copy 8 (some (.int)) ∈ gTB := gTB_of (tm_3_779 _ List.mem_cons_self) rfl
theorem tm_3_780 : ∀ w ∈ tl_3_780, w ∈ lw_tbl := fun w h => tm_3_779 w (List.mem_cons_of_mem _ h)
theorem w_780 : Cond.methodLink RX10 243 yX4_holds ∈ gTB := gTB_of (tm_3_780 _ List.mem_cons_self) rfl
theorem tm_3_781 : ∀ w ∈ tl_3_781, w ∈ lw_tbl := fun w h => tm_3_780 w (List.mem_cons_of_mem _ h)
theorem w_781 : Cond.instanceMethod yX4_holds ∈ gTB := gTB_of (tm_3_781 _ List.mem_cons_self) rfl
theorem tm_3_782 : ∀ w ∈ tl_3_782, w ∈ lw_tbl := fun w h => tm_3_781 w (List.mem_cons_of_mem _ h)
theorem w_782 : Cond.selects RX4 yX4_holds yX4_holds ∈ gTB := gTB_of (tm_3_782 _ List.mem_cons_self) rfl
theorem tm_3_783 : ∀ w ∈ tl_3_783, w ∈ lw_tbl := fun w h => tm_3_782 w (List.mem_cons_of_mem _ h)
theorem w_783 : Cond.code yX4_holds cX4_holds 3 (some (.boolean)) ∈ gTB := gTB_of (tm_3_783 _ List.mem_cons_self) rfl
theorem tm_3_784 : ∀ w ∈ tl_3_784, w ∈ lw_tbl := fun w h => tm_3_783 w (List.mem_cons_of_mem _ h)
theorem w_784 : Cond.methodLink RX10 249 ⟨"java/lang/System", "arraycopy", "(Ljava/lang/Object;ILjava/lang/Object;II)V"⟩ ∈ gTB := gTB_of (tm_3_784 _ List.mem_cons_self) rfl
theorem tm_3_785 : ∀ w ∈ tl_3_785, w ∈ lw_tbl := fun w h => tm_3_784 w (List.mem_cons_of_mem _ h)
theorem w_785 : Cond.methodLink RL 157 yX10_peopleBy ∈ gTB := gTB_of (tm_3_785 _ List.mem_cons_self) rfl
theorem tm_3_786 : ∀ w ∈ tl_3_786, w ∈ lw_tbl := fun w h => tm_3_785 w (List.mem_cons_of_mem _ h)
theorem w_786 : Cond.instanceMethod yX10_peopleBy ∈ gTB := gTB_of (tm_3_786 _ List.mem_cons_self) rfl
theorem tm_3_787 : ∀ w ∈ tl_3_787, w ∈ lw_tbl := fun w h => tm_3_786 w (List.mem_cons_of_mem _ h)
theorem w_787 : Cond.selects RX10 yX10_peopleBy yX10_peopleBy ∈ gTB := gTB_of (tm_3_787 _ List.mem_cons_self) rfl
theorem tm_3_788 : ∀ w ∈ tl_3_788, w ∈ lw_tbl := fun w h => tm_3_787 w (List.mem_cons_of_mem _ h)
theorem w_788 : Cond.code yX10_peopleBy cX10_peopleBy 9 (some (.int)) ∈ gTB := gTB_of (tm_3_788 _ List.mem_cons_self) rfl
theorem tm_3_789 : ∀ w ∈ tl_3_789, w ∈ lw_tbl := fun w h => tm_3_788 w (List.mem_cons_of_mem _ h)
theorem w_789 : Cond.methodLink RX10 255 yX10_citizen ∈ gTB := gTB_of (tm_3_789 _ List.mem_cons_self) rfl
theorem tm_3_790 : ∀ w ∈ tl_3_790, w ∈ lw_tbl := fun w h => tm_3_789 w (List.mem_cons_of_mem _ h)
theorem w_790 : Cond.methodLink RL 162 yX10_taken ∈ gTB := gTB_of (tm_3_790 _ List.mem_cons_self) rfl
theorem tm_3_791 : ∀ w ∈ tl_3_791, w ∈ lw_tbl := fun w h => tm_3_790 w (List.mem_cons_of_mem _ h)
theorem w_791 : Cond.instanceMethod yX10_taken ∈ gTB := gTB_of (tm_3_791 _ List.mem_cons_self) rfl
theorem tm_3_792 : ∀ w ∈ tl_3_792, w ∈ lw_tbl := fun w h => tm_3_791 w (List.mem_cons_of_mem _ h)
theorem w_792 : Cond.selects RX10 yX10_taken yX10_taken ∈ gTB := gTB_of (tm_3_792 _ List.mem_cons_self) rfl
theorem tm_3_793 : ∀ w ∈ tl_3_793, w ∈ lw_tbl := fun w h => tm_3_792 w (List.mem_cons_of_mem _ h)
theorem w_793 : Cond.code yX10_taken cX10_taken 5 (some (.int)) ∈ gTB := gTB_of (tm_3_793 _ List.mem_cons_self) rfl
theorem tm_3_794 : ∀ w ∈ tl_3_794, w ∈ lw_tbl := fun w h => tm_3_793 w (List.mem_cons_of_mem _ h)
theorem w_794 : Cond.methodLink RX10 258 yX9_nature ∈ gTB := gTB_of (tm_3_794 _ List.mem_cons_self) rfl
theorem tm_3_795 : ∀ w ∈ tl_3_795, w ∈ lw_tbl := fun w h => tm_3_794 w (List.mem_cons_of_mem _ h)
theorem w_795 : Cond.methodLink RX10 262 yX0_isOf ∈ gTB := gTB_of (tm_3_795 _ List.mem_cons_self) rfl
theorem tm_3_796 : ∀ w ∈ tl_3_796, w ∈ lw_tbl := fun w h => tm_3_795 w (List.mem_cons_of_mem _ h)
theorem w_796 : Cond.instanceMethod yX0_isOf ∈ gTB := gTB_of (tm_3_796 _ List.mem_cons_self) rfl
theorem tm_3_797 : ∀ w ∈ tl_3_797, w ∈ lw_tbl := fun w h => tm_3_796 w (List.mem_cons_of_mem _ h)
theorem w_797 : Cond.selects RX0 yX0_isOf yX0_isOf ∈ gTB := gTB_of (tm_3_797 _ List.mem_cons_self) rfl
theorem tm_3_798 : ∀ w ∈ tl_3_798, w ∈ lw_tbl := fun w h => tm_3_797 w (List.mem_cons_of_mem _ h)
theorem w_798 : Cond.sameMethod "CrierOfBorough$Citizen" "CrierOfBorough$Citizen" "isOf" "(I)Z" ∈ gTB := gTB_of (tm_3_798 _ List.mem_cons_self) rfl
theorem tm_3_799 : ∀ w ∈ tl_3_799, w ∈ lw_tbl := fun w h => tm_3_798 w (List.mem_cons_of_mem _ h)
theorem w_799 : Cond.selects RX1 yX0_isOf yX1_isOf ∈ gTB := gTB_of (tm_3_799 _ List.mem_cons_self) rfl
theorem tm_3_800 : ∀ w ∈ tl_3_800, w ∈ lw_tbl := fun w h => tm_3_799 w (List.mem_cons_of_mem _ h)
theorem w_800 : Cond.instanceMethod yX1_isOf ∈ gTB := gTB_of (tm_3_800 _ List.mem_cons_self) rfl
theorem tm_3_801 : ∀ w ∈ tl_3_801, w ∈ lw_tbl := fun w h => tm_3_800 w (List.mem_cons_of_mem _ h)
theorem w_801 : Cond.code yX1_isOf cX1_isOf 2 (some (.boolean)) ∈ gTB := gTB_of (tm_3_801 _ List.mem_cons_self) rfl
theorem tm_3_802 : ∀ w ∈ tl_3_802, w ∈ lw_tbl := fun w h => tm_3_801 w (List.mem_cons_of_mem _ h)
theorem w_802 : Cond.methodLink RX1 7 yX0_isOf ∈ gTB := gTB_of (tm_3_802 _ List.mem_cons_self) rfl
theorem tm_3_803 : ∀ w ∈ tl_3_803, w ∈ lw_tbl := fun w h => tm_3_802 w (List.mem_cons_of_mem _ h)
theorem w_803 : Cond.selects RX2 yX0_isOf yX2_isOf ∈ gTB := gTB_of (tm_3_803 _ List.mem_cons_self) rfl
theorem tm_3_804 : ∀ w ∈ tl_3_804, w ∈ lw_tbl := fun w h => tm_3_803 w (List.mem_cons_of_mem _ h)
theorem w_804 : Cond.instanceMethod yX2_isOf ∈ gTB := gTB_of (tm_3_804 _ List.mem_cons_self) rfl
theorem tm_3_805 : ∀ w ∈ tl_3_805, w ∈ lw_tbl := fun w h => tm_3_804 w (List.mem_cons_of_mem _ h)
theorem w_805 : Cond.code yX2_isOf cX2_isOf 2 (some (.boolean)) ∈ gTB := gTB_of (tm_3_805 _ List.mem_cons_self) rfl
theorem tm_3_806 : ∀ w ∈ tl_3_806, w ∈ lw_tbl := fun w h => tm_3_805 w (List.mem_cons_of_mem _ h)
theorem w_806 : Cond.methodLink RX2 7 yX1_isOf ∈ gTB := gTB_of (tm_3_806 _ List.mem_cons_self) rfl
theorem tm_3_807 : ∀ w ∈ tl_3_807, w ∈ lw_tbl := fun w h => tm_3_806 w (List.mem_cons_of_mem _ h)
theorem w_807 : Cond.selects RX3 yX0_isOf yX3_isOf ∈ gTB := gTB_of (tm_3_807 _ List.mem_cons_self) rfl
theorem tm_3_808 : ∀ w ∈ tl_3_808, w ∈ lw_tbl := fun w h => tm_3_807 w (List.mem_cons_of_mem _ h)
theorem w_808 : Cond.instanceMethod yX3_isOf ∈ gTB := gTB_of (tm_3_808 _ List.mem_cons_self) rfl
theorem tm_3_809 : ∀ w ∈ tl_3_809, w ∈ lw_tbl := fun w h => tm_3_808 w (List.mem_cons_of_mem _ h)
theorem w_809 : Cond.code yX3_isOf cX3_isOf 2 (some (.boolean)) ∈ gTB := gTB_of (tm_3_809 _ List.mem_cons_self) rfl
theorem tm_3_810 : ∀ w ∈ tl_3_810, w ∈ lw_tbl := fun w h => tm_3_809 w (List.mem_cons_of_mem _ h)
theorem w_810 : Cond.methodLink RX3 7 yX0_isOf ∈ gTB := gTB_of (tm_3_810 _ List.mem_cons_self) rfl
theorem tm_3_811 : ∀ w ∈ tl_3_811, w ∈ lw_tbl := fun w h => tm_3_810 w (List.mem_cons_of_mem _ h)
theorem w_811 : Cond.selects RX5 yX0_isOf yX5_isOf ∈ gTB := gTB_of (tm_3_811 _ List.mem_cons_self) rfl
theorem tm_3_812 : ∀ w ∈ tl_3_812, w ∈ lw_tbl := fun w h => tm_3_811 w (List.mem_cons_of_mem _ h)
theorem w_812 : Cond.instanceMethod yX5_isOf ∈ gTB := gTB_of (tm_3_812 _ List.mem_cons_self) rfl
theorem tm_3_813 : ∀ w ∈ tl_3_813, w ∈ lw_tbl := fun w h => tm_3_812 w (List.mem_cons_of_mem _ h)
theorem w_813 : Cond.code yX5_isOf cX5_isOf 2 (some (.boolean)) ∈ gTB := gTB_of (tm_3_813 _ List.mem_cons_self) rfl
theorem tm_3_814 : ∀ w ∈ tl_3_814, w ∈ lw_tbl := fun w h => tm_3_813 w (List.mem_cons_of_mem _ h)
theorem w_814 : Cond.methodLink RX5 7 yX0_isOf ∈ gTB := gTB_of (tm_3_814 _ List.mem_cons_self) rfl
theorem tm_3_815 : ∀ w ∈ tl_3_815, w ∈ lw_tbl := fun w h => tm_3_814 w (List.mem_cons_of_mem _ h)
theorem w_815 : Cond.selects RX8 yX0_isOf yX8_isOf ∈ gTB := gTB_of (tm_3_815 _ List.mem_cons_self) rfl
theorem tm_3_816 : ∀ w ∈ tl_3_816, w ∈ lw_tbl := fun w h => tm_3_815 w (List.mem_cons_of_mem _ h)
theorem w_816 : Cond.instanceMethod yX8_isOf ∈ gTB := gTB_of (tm_3_816 _ List.mem_cons_self) rfl
theorem tm_3_817 : ∀ w ∈ tl_3_817, w ∈ lw_tbl := fun w h => tm_3_816 w (List.mem_cons_of_mem _ h)
theorem w_817 : Cond.code yX8_isOf cX8_isOf 2 (some (.boolean)) ∈ gTB := gTB_of (tm_3_817 _ List.mem_cons_self) rfl
theorem tm_3_818 : ∀ w ∈ tl_3_818, w ∈ lw_tbl := fun w h => tm_3_817 w (List.mem_cons_of_mem _ h)
theorem w_818 : Cond.methodLink RX8 7 yX3_isOf ∈ gTB := gTB_of (tm_3_818 _ List.mem_cons_self) rfl
theorem tm_3_819 : ∀ w ∈ tl_3_819, w ∈ lw_tbl := fun w h => tm_3_818 w (List.mem_cons_of_mem _ h)
theorem w_819 : Cond.code yX0_isOf cX0_isOf 2 (some (.boolean)) ∈ gTB := gTB_of (tm_3_819 _ List.mem_cons_self) rfl
theorem tm_3_820 : ∀ w ∈ tl_3_820, w ∈ lw_tbl := fun w h => tm_3_819 w (List.mem_cons_of_mem _ h)
theorem w_820 : Cond.classLink RL 10 "CrierOfBoroughModel" ∈ gTB := gTB_of (tm_3_820 _ List.mem_cons_self) rfl
theorem tm_3_821 : ∀ w ∈ tl_3_821, w ∈ lw_tbl := fun w h => tm_3_820 w (List.mem_cons_of_mem _ h)
theorem w_821 : Cond.instantiable RX11 32 ∈ gTB := gTB_of (tm_3_821 _ List.mem_cons_self) rfl
theorem tm_3_822 : ∀ w ∈ tl_3_822, w ∈ lw_tbl := fun w h => tm_3_821 w (List.mem_cons_of_mem _ h)
theorem w_822 : Cond.methodLink RL 12 yX11_init ∈ gTB := gTB_of (tm_3_822 _ List.mem_cons_self) rfl
theorem tm_3_823 : ∀ w ∈ tl_3_823, w ∈ lw_tbl := fun w h => tm_3_822 w (List.mem_cons_of_mem _ h)
theorem w_823 : Cond.instanceMethod yX11_init ∈ gTB := gTB_of (tm_3_823 _ List.mem_cons_self) rfl
theorem tm_3_824 : ∀ w ∈ tl_3_824, w ∈ lw_tbl := fun w h => tm_3_823 w (List.mem_cons_of_mem _ h)
theorem w_824 : Cond.code yX11_init cX11_init 2 (none) ∈ gTB := gTB_of (tm_3_824 _ List.mem_cons_self) rfl
theorem tm_3_825 : ∀ w ∈ tl_3_825, w ∈ lw_tbl := fun w h => tm_3_824 w (List.mem_cons_of_mem _ h)
theorem w_825 : Cond.methodLink RX11 1 ⟨"java/lang/Object", "<init>", "()V"⟩ ∈ gTB := gTB_of (tm_3_825 _ List.mem_cons_self) rfl
theorem tm_3_826 : ∀ w ∈ tl_3_826, w ∈ lw_tbl := fun w h => tm_3_825 w (List.mem_cons_of_mem _ h)
theorem w_826 : Cond.methodLink RX11 71 yX11_text ∈ gTB := gTB_of (tm_3_826 _ List.mem_cons_self) rfl
theorem tm_3_827 : ∀ w ∈ tl_3_827, w ∈ lw_tbl := fun w h => tm_3_826 w (List.mem_cons_of_mem _ h)
theorem w_827 : Cond.instanceMethod yX11_text ∈ gTB := gTB_of (tm_3_827 _ List.mem_cons_self) rfl
theorem tm_3_828 : ∀ w ∈ tl_3_828, w ∈ lw_tbl := fun w h => tm_3_827 w (List.mem_cons_of_mem _ h)
theorem w_828 : Cond.selects RX11 yX11_text yX11_text ∈ gTB := gTB_of (tm_3_828 _ List.mem_cons_self) rfl
theorem tm_3_829 : ∀ w ∈ tl_3_829, w ∈ lw_tbl := fun w h => tm_3_828 w (List.mem_cons_of_mem _ h)
theorem w_829 : Cond.code yX11_text cX11_text 3 (some (.int)) ∈ gTB := gTB_of (tm_3_829 _ List.mem_cons_self) rfl
theorem tm_3_830 : ∀ w ∈ tl_3_830, w ∈ lw_tbl := fun w h => tm_3_829 w (List.mem_cons_of_mem _ h)
theorem w_830 : Cond.methodLink RX11 137 yX11_next ∈ gTB := gTB_of (tm_3_830 _ List.mem_cons_self) rfl
theorem tm_3_831 : ∀ w ∈ tl_3_831, w ∈ lw_tbl := fun w h => tm_3_830 w (List.mem_cons_of_mem _ h)
theorem tm_3_832 : ∀ w ∈ tl_3_832, w ∈ lw_tbl := fun w h => tm_3_831 w (List.mem_cons_of_mem _ h)
theorem w_832 : Cond.instanceMethod yX11_next ∈ gTB := gTB_of (tm_3_832 _ List.mem_cons_self) rfl
theorem tm_3_833 : ∀ w ∈ tl_3_833, w ∈ lw_tbl := fun w h => tm_3_832 w (List.mem_cons_of_mem _ h)
theorem w_833 : Cond.code yX11_next cX11_next 3 (none) ∈ gTB := gTB_of (tm_3_833 _ List.mem_cons_self) rfl
theorem tm_3_834 : ∀ w ∈ tl_3_834, w ∈ lw_tbl := fun w h => tm_3_833 w (List.mem_cons_of_mem _ h)
theorem w_834 : Cond.methodLink RX11 78 yX11_in ∈ gTB := gTB_of (tm_3_834 _ List.mem_cons_self) rfl
theorem tm_3_835 : ∀ w ∈ tl_3_835, w ∈ lw_tbl := fun w h => tm_3_834 w (List.mem_cons_of_mem _ h)
theorem w_835 : Cond.static yX11_in ∈ gTB := gTB_of (tm_3_835 _ List.mem_cons_self) rfl
theorem tm_3_836 : ∀ w ∈ tl_3_836, w ∈ lw_tbl := fun w h => tm_3_835 w (List.mem_cons_of_mem _ h)
theorem w_836 : Cond.code yX11_in cX11_in 3 (some (.boolean)) ∈ gTB := gTB_of (tm_3_836 _ List.mem_cons_self) rfl
theorem tm_3_837 : ∀ w ∈ tl_3_837, w ∈ lw_tbl := fun w h => tm_3_836 w (List.mem_cons_of_mem _ h)
theorem w_837 : Cond.methodLink RX11 111 yX11_wordFrom ∈ gTB := gTB_of (tm_3_837 _ List.mem_cons_self) rfl
theorem tm_3_838 : ∀ w ∈ tl_3_838, w ∈ lw_tbl := fun w h => tm_3_837 w (List.mem_cons_of_mem _ h)
theorem tm_3_839 : ∀ w ∈ tl_3_839, w ∈ lw_tbl := fun w h => tm_3_838 w (List.mem_cons_of_mem _ h)
theorem w_839 : Cond.instanceMethod yX11_wordFrom ∈ gTB := gTB_of (tm_3_839 _ List.mem_cons_self) rfl
theorem tm_3_840 : ∀ w ∈ tl_3_840, w ∈ lw_tbl := fun w h => tm_3_839 w (List.mem_cons_of_mem _ h)
theorem w_840 : Cond.code yX11_wordFrom cX11_wordFrom 6 (some (.int)) ∈ gTB := gTB_of (tm_3_840 _ List.mem_cons_self) rfl
theorem tm_3_841 : ∀ w ∈ tl_3_841, w ∈ lw_tbl := fun w h => tm_3_840 w (List.mem_cons_of_mem _ h)
theorem w_841 : Cond.methodLink RX11 150 yX11_eRead ∈ gTB := gTB_of (tm_3_841 _ List.mem_cons_self) rfl
theorem tm_3_842 : ∀ w ∈ tl_3_842, w ∈ lw_tbl := fun w h => tm_3_841 w (List.mem_cons_of_mem _ h)
theorem tm_3_843 : ∀ w ∈ tl_3_843, w ∈ lw_tbl := fun w h => tm_3_842 w (List.mem_cons_of_mem _ h)
theorem w_843 : Cond.instanceMethod yX11_eRead ∈ gTB := gTB_of (tm_3_843 _ List.mem_cons_self) rfl
theorem tm_3_844 : ∀ w ∈ tl_3_844, w ∈ lw_tbl := fun w h => tm_3_843 w (List.mem_cons_of_mem _ h)
theorem w_844 : Cond.code yX11_eRead cX11_eRead 4 (some (.boolean)) ∈ gTB := gTB_of (tm_3_844 _ List.mem_cons_self) rfl
theorem tm_3_845 : ∀ w ∈ tl_3_845, w ∈ lw_tbl := fun w h => tm_3_844 w (List.mem_cons_of_mem _ h)
theorem w_845 : Cond.constant RX11 140 (100000 : Int32) ∈ gTB := gTB_of (tm_3_845 _ List.mem_cons_self) rfl
theorem tm_3_846 : ∀ w ∈ tl_3_846, w ∈ lw_tbl := fun w h => tm_3_845 w (List.mem_cons_of_mem _ h)
theorem w_846 : Cond.methodLink RX11 127 yX11_puts ∈ gTB := gTB_of (tm_3_846 _ List.mem_cons_self) rfl
theorem tm_3_847 : ∀ w ∈ tl_3_847, w ∈ lw_tbl := fun w h => tm_3_846 w (List.mem_cons_of_mem _ h)
theorem tm_3_848 : ∀ w ∈ tl_3_848, w ∈ lw_tbl := fun w h => tm_3_847 w (List.mem_cons_of_mem _ h)
theorem w_848 : Cond.instanceMethod yX11_puts ∈ gTB := gTB_of (tm_3_848 _ List.mem_cons_self) rfl
theorem tm_3_849 : ∀ w ∈ tl_3_849, w ∈ lw_tbl := fun w h => tm_3_848 w (List.mem_cons_of_mem _ h)
theorem w_849 : Cond.code yX11_puts cX11_puts 2 (none) ∈ gTB := gTB_of (tm_3_849 _ List.mem_cons_self) rfl
theorem tm_3_850 : ∀ w ∈ tl_3_850, w ∈ lw_tbl := fun w h => tm_3_849 w (List.mem_cons_of_mem _ h)
theorem w_850 : Cond.methodLink RX11 134 yX11_unwinds ∈ gTB := gTB_of (tm_3_850 _ List.mem_cons_self) rfl
theorem tm_3_851 : ∀ w ∈ tl_3_851, w ∈ lw_tbl := fun w h => tm_3_850 w (List.mem_cons_of_mem _ h)
theorem tm_3_852 : ∀ w ∈ tl_3_852, w ∈ lw_tbl := fun w h => tm_3_851 w (List.mem_cons_of_mem _ h)
theorem w_852 : Cond.instanceMethod yX11_unwinds ∈ gTB := gTB_of (tm_3_852 _ List.mem_cons_self) rfl
theorem tm_3_853 : ∀ w ∈ tl_3_853, w ∈ lw_tbl := fun w h => tm_3_852 w (List.mem_cons_of_mem _ h)
theorem w_853 : Cond.code yX11_unwinds cX11_unwinds 3 (none) ∈ gTB := gTB_of (tm_3_853 _ List.mem_cons_self) rfl
theorem tm_3_854 : ∀ w ∈ tl_3_854, w ∈ lw_tbl := fun w h => tm_3_853 w (List.mem_cons_of_mem _ h)
theorem w_854 : Cond.methodLink RX11 121 yX11_rank ∈ gTB := gTB_of (tm_3_854 _ List.mem_cons_self) rfl
theorem tm_3_855 : ∀ w ∈ tl_3_855, w ∈ lw_tbl := fun w h => tm_3_854 w (List.mem_cons_of_mem _ h)
theorem w_855 : Cond.static yX11_rank ∈ gTB := gTB_of (tm_3_855 _ List.mem_cons_self) rfl
theorem tm_3_856 : ∀ w ∈ tl_3_856, w ∈ lw_tbl := fun w h => tm_3_855 w (List.mem_cons_of_mem _ h)
theorem w_856 : Cond.code yX11_rank cX11_rank 1 (some (.int)) ∈ gTB := gTB_of (tm_3_856 _ List.mem_cons_self) rfl
theorem tm_3_857 : ∀ w ∈ tl_3_857, w ∈ lw_tbl := fun w h => tm_3_856 w (List.mem_cons_of_mem _ h)
theorem w_857 : Cond.methodLink RX11 141 yX11_opensOne ∈ gTB := gTB_of (tm_3_857 _ List.mem_cons_self) rfl
theorem tm_3_858 : ∀ w ∈ tl_3_858, w ∈ lw_tbl := fun w h => tm_3_857 w (List.mem_cons_of_mem _ h)
theorem tm_3_859 : ∀ w ∈ tl_3_859, w ∈ lw_tbl := fun w h => tm_3_858 w (List.mem_cons_of_mem _ h)
theorem w_859 : Cond.instanceMethod yX11_opensOne ∈ gTB := gTB_of (tm_3_859 _ List.mem_cons_self) rfl
theorem tm_3_860 : ∀ w ∈ tl_3_860, w ∈ lw_tbl := fun w h => tm_3_859 w (List.mem_cons_of_mem _ h)
theorem w_860 : Cond.code yX11_opensOne cX11_opensOne 2 (some (.boolean)) ∈ gTB := gTB_of (tm_3_860 _ List.mem_cons_self) rfl
theorem tm_3_861 : ∀ w ∈ tl_3_861, w ∈ lw_tbl := fun w h => tm_3_860 w (List.mem_cons_of_mem _ h)
theorem w_861 : Cond.methodLink RX11 131 yX11_holds ∈ gTB := gTB_of (tm_3_861 _ List.mem_cons_self) rfl
theorem tm_3_862 : ∀ w ∈ tl_3_862, w ∈ lw_tbl := fun w h => tm_3_861 w (List.mem_cons_of_mem _ h)
theorem tm_3_863 : ∀ w ∈ tl_3_863, w ∈ lw_tbl := fun w h => tm_3_862 w (List.mem_cons_of_mem _ h)
theorem w_863 : Cond.instanceMethod yX11_holds ∈ gTB := gTB_of (tm_3_863 _ List.mem_cons_self) rfl
theorem tm_3_864 : ∀ w ∈ tl_3_864, w ∈ lw_tbl := fun w h => tm_3_863 w (List.mem_cons_of_mem _ h)
theorem w_864 : Cond.code yX11_holds cX11_holds 2 (none) ∈ gTB := gTB_of (tm_3_864 _ List.mem_cons_self) rfl
theorem tm_3_865 : ∀ w ∈ tl_3_865, w ∈ lw_tbl := fun w h => tm_3_864 w (List.mem_cons_of_mem _ h)
theorem w_865 : Cond.methodLink RX11 144 yX11_signOf ∈ gTB := gTB_of (tm_3_865 _ List.mem_cons_self) rfl
theorem tm_3_866 : ∀ w ∈ tl_3_866, w ∈ lw_tbl := fun w h => tm_3_865 w (List.mem_cons_of_mem _ h)
theorem tm_3_867 : ∀ w ∈ tl_3_867, w ∈ lw_tbl := fun w h => tm_3_866 w (List.mem_cons_of_mem _ h)
theorem w_867 : Cond.instanceMethod yX11_signOf ∈ gTB := gTB_of (tm_3_867 _ List.mem_cons_self) rfl
theorem tm_3_868 : ∀ w ∈ tl_3_868, w ∈ lw_tbl := fun w h => tm_3_867 w (List.mem_cons_of_mem _ h)
theorem w_868 : Cond.code yX11_signOf cX11_signOf 1 (some (.int)) ∈ gTB := gTB_of (tm_3_868 _ List.mem_cons_self) rfl
theorem tm_3_869 : ∀ w ∈ tl_3_869, w ∈ lw_tbl := fun w h => tm_3_868 w (List.mem_cons_of_mem _ h)
theorem w_869 : Cond.methodLink RX11 147 yX11_between ∈ gTB := gTB_of (tm_3_869 _ List.mem_cons_self) rfl
theorem tm_3_870 : ∀ w ∈ tl_3_870, w ∈ lw_tbl := fun w h => tm_3_869 w (List.mem_cons_of_mem _ h)
theorem tm_3_871 : ∀ w ∈ tl_3_871, w ∈ lw_tbl := fun w h => tm_3_870 w (List.mem_cons_of_mem _ h)
theorem w_871 : Cond.instanceMethod yX11_between ∈ gTB := gTB_of (tm_3_871 _ List.mem_cons_self) rfl
theorem tm_3_872 : ∀ w ∈ tl_3_872, w ∈ lw_tbl := fun w h => tm_3_871 w (List.mem_cons_of_mem _ h)
theorem w_872 : Cond.code yX11_between cX11_between 2 (some (.boolean)) ∈ gTB := gTB_of (tm_3_872 _ List.mem_cons_self) rfl
theorem tm_3_873 : ∀ w ∈ tl_3_873, w ∈ lw_tbl := fun w h => tm_3_872 w (List.mem_cons_of_mem _ h)
theorem w_873 : Cond.fieldLink "CrierOfBoroughModel" 75 "CrierOfBoroughModel" "people" "I" ∈ gTB := gTB_of (tm_3_873 _ List.mem_cons_self) rfl
theorem tm_3_874 : ∀ w ∈ tl_3_874, w ∈ lw_tbl := fun w h => tm_3_873 w (List.mem_cons_of_mem _ h)
theorem w_874 : Cond.fieldLink "CrierOfBoroughModel" 7 "CrierOfBoroughModel" "kind" "[I" ∈ gTB := gTB_of (tm_3_874 _ List.mem_cons_self) rfl
theorem tm_3_875 : ∀ w ∈ tl_3_875, w ∈ lw_tbl := fun w h => tm_3_874 w (List.mem_cons_of_mem _ h)
theorem w_875 : Cond.fieldLink "CrierOfBoroughModel" 13 "CrierOfBoroughModel" "moreOf" "[I" ∈ gTB := gTB_of (tm_3_875 _ List.mem_cons_self) rfl
theorem tm_3_876 : ∀ w ∈ tl_3_876, w ∈ lw_tbl := fun w h => tm_3_875 w (List.mem_cons_of_mem _ h)
theorem w_876 : Cond.fieldLink "CrierOfBoroughModel" 16 "CrierOfBoroughModel" "rows" "[I" ∈ gTB := gTB_of (tm_3_876 _ List.mem_cons_self) rfl
theorem tm_3_877 : ∀ w ∈ tl_3_877, w ∈ lw_tbl := fun w h => tm_3_876 w (List.mem_cons_of_mem _ h)
theorem w_877 : Cond.fieldLink "CrierOfBoroughModel" 19 "CrierOfBoroughModel" "borough" "[I" ∈ gTB := gTB_of (tm_3_877 _ List.mem_cons_self) rfl
theorem tm_3_878 : ∀ w ∈ tl_3_878, w ∈ lw_tbl := fun w h => tm_3_877 w (List.mem_cons_of_mem _ h)
theorem w_878 : Cond.fieldLink "CrierOfBoroughModel" 22 "CrierOfBoroughModel" "tape" "[I" ∈ gTB := gTB_of (tm_3_878 _ List.mem_cons_self) rfl
theorem tm_3_879 : ∀ w ∈ tl_3_879, w ∈ lw_tbl := fun w h => tm_3_878 w (List.mem_cons_of_mem _ h)
theorem w_879 : Cond.fieldLink "CrierOfBoroughModel" 67 "CrierOfBoroughModel" "taped" "I" ∈ gTB := gTB_of (tm_3_879 _ List.mem_cons_self) rfl
theorem tm_3_880 : ∀ w ∈ tl_3_880, w ∈ lw_tbl := fun w h => tm_3_879 w (List.mem_cons_of_mem _ h)
theorem w_880 : Cond.fieldLink "CrierOfBoroughModel" 25 "CrierOfBoroughModel" "codes" "[I" ∈ gTB := gTB_of (tm_3_880 _ List.mem_cons_self) rfl
theorem tm_3_881 : ∀ w ∈ tl_3_881, w ∈ lw_tbl := fun w h => tm_3_880 w (List.mem_cons_of_mem _ h)
theorem w_881 : Cond.fieldLink "CrierOfBoroughModel" 28 "CrierOfBoroughModel" "starts" "[I" ∈ gTB := gTB_of (tm_3_881 _ List.mem_cons_self) rfl
theorem tm_3_882 : ∀ w ∈ tl_3_882, w ∈ lw_tbl := fun w h => tm_3_881 w (List.mem_cons_of_mem _ h)
theorem w_882 : Cond.fieldLink "CrierOfBoroughModel" 86 "CrierOfBoroughModel" "texts" "I" ∈ gTB := gTB_of (tm_3_882 _ List.mem_cons_self) rfl
theorem tm_3_883 : ∀ w ∈ tl_3_883, w ∈ lw_tbl := fun w h => tm_3_882 w (List.mem_cons_of_mem _ h)
theorem w_883 : Cond.fieldLink "CrierOfBoroughModel" 89 "CrierOfBoroughModel" "rule" "I" ∈ gTB := gTB_of (tm_3_883 _ List.mem_cons_self) rfl
theorem tm_3_884 : ∀ w ∈ tl_3_884, w ∈ lw_tbl := fun w h => tm_3_883 w (List.mem_cons_of_mem _ h)
theorem w_884 : Cond.fieldLink "CrierOfBoroughModel" 266 "CrierOfBoroughModel" "hasImage" "Z" ∈ gTB := gTB_of (tm_3_884 _ List.mem_cons_self) rfl
theorem tm_3_885 : ∀ w ∈ tl_3_885, w ∈ lw_tbl := fun w h => tm_3_884 w (List.mem_cons_of_mem _ h)
theorem w_885 : Cond.fieldLink "CrierOfBoroughModel" 31 "CrierOfBoroughModel" "imageRows" "[I" ∈ gTB := gTB_of (tm_3_885 _ List.mem_cons_self) rfl
theorem tm_3_886 : ∀ w ∈ tl_3_886, w ∈ lw_tbl := fun w h => tm_3_885 w (List.mem_cons_of_mem _ h)
theorem w_886 : Cond.fieldLink "CrierOfBoroughModel" 34 "CrierOfBoroughModel" "imageHeld" "[I" ∈ gTB := gTB_of (tm_3_886 _ List.mem_cons_self) rfl
theorem tm_3_887 : ∀ w ∈ tl_3_887, w ∈ lw_tbl := fun w h => tm_3_886 w (List.mem_cons_of_mem _ h)
theorem w_887 : Cond.fieldLink "CrierOfBoroughModel" 37 "CrierOfBoroughModel" "sheetSort" "[I" ∈ gTB := gTB_of (tm_3_887 _ List.mem_cons_self) rfl
theorem tm_3_888 : ∀ w ∈ tl_3_888, w ∈ lw_tbl := fun w h => tm_3_887 w (List.mem_cons_of_mem _ h)
theorem w_888 : Cond.fieldLink "CrierOfBoroughModel" 40 "CrierOfBoroughModel" "sheetSize" "[I" ∈ gTB := gTB_of (tm_3_888 _ List.mem_cons_self) rfl
theorem tm_3_889 : ∀ w ∈ tl_3_889, w ∈ lw_tbl := fun w h => tm_3_888 w (List.mem_cons_of_mem _ h)
theorem w_889 : Cond.fieldLink "CrierOfBoroughModel" 43 "CrierOfBoroughModel" "cells" "[I" ∈ gTB := gTB_of (tm_3_889 _ List.mem_cons_self) rfl
theorem tm_3_890 : ∀ w ∈ tl_3_890, w ∈ lw_tbl := fun w h => tm_3_889 w (List.mem_cons_of_mem _ h)
theorem w_890 : Cond.fieldLink "CrierOfBoroughModel" 46 "CrierOfBoroughModel" "law" "[I" ∈ gTB := gTB_of (tm_3_890 _ List.mem_cons_self) rfl
theorem tm_3_891 : ∀ w ∈ tl_3_891, w ∈ lw_tbl := fun w h => tm_3_890 w (List.mem_cons_of_mem _ h)
theorem w_891 : Cond.fieldLink "CrierOfBoroughModel" 99 "CrierOfBoroughModel" "at" "I" ∈ gTB := gTB_of (tm_3_891 _ List.mem_cons_self) rfl
theorem tm_3_892 : ∀ w ∈ tl_3_892, w ∈ lw_tbl := fun w h => tm_3_891 w (List.mem_cons_of_mem _ h)
theorem w_892 : Cond.fieldLink "CrierOfBoroughModel" 102 "CrierOfBoroughModel" "begun" "I" ∈ gTB := gTB_of (tm_3_892 _ List.mem_cons_self) rfl
theorem tm_3_893 : ∀ w ∈ tl_3_893, w ∈ lw_tbl := fun w h => tm_3_892 w (List.mem_cons_of_mem _ h)
theorem w_893 : Cond.fieldLink "CrierOfBoroughModel" 105 "CrierOfBoroughModel" "token" "I" ∈ gTB := gTB_of (tm_3_893 _ List.mem_cons_self) rfl
theorem tm_3_894 : ∀ w ∈ tl_3_894, w ∈ lw_tbl := fun w h => tm_3_893 w (List.mem_cons_of_mem _ h)
theorem w_894 : Cond.fieldLink "CrierOfBoroughModel" 108 "CrierOfBoroughModel" "value" "I" ∈ gTB := gTB_of (tm_3_894 _ List.mem_cons_self) rfl
theorem tm_3_895 : ∀ w ∈ tl_3_895, w ∈ lw_tbl := fun w h => tm_3_894 w (List.mem_cons_of_mem _ h)
theorem w_895 : Cond.fieldLink "CrierOfBoroughModel" 49 "CrierOfBoroughModel" "words" "[I" ∈ gTB := gTB_of (tm_3_895 _ List.mem_cons_self) rfl
theorem tm_3_896 : ∀ w ∈ tl_3_896, w ∈ lw_tbl := fun w h => tm_3_895 w (List.mem_cons_of_mem _ h)
theorem w_896 : Cond.fieldLink "CrierOfBoroughModel" 52 "CrierOfBoroughModel" "held" "[I" ∈ gTB := gTB_of (tm_3_896 _ List.mem_cons_self) rfl
theorem tm_3_897 : ∀ w ∈ tl_3_897, w ∈ lw_tbl := fun w h => tm_3_896 w (List.mem_cons_of_mem _ h)
theorem w_897 : Cond.fieldLink "CrierOfBoroughModel" 118 "CrierOfBoroughModel" "heldMany" "I" ∈ gTB := gTB_of (tm_3_897 _ List.mem_cons_self) rfl
theorem tm_3_898 : ∀ w ∈ tl_3_898, w ∈ lw_tbl := fun w h => tm_3_897 w (List.mem_cons_of_mem _ h)
theorem w_898 : Cond.fieldLink "CrierOfBoroughModel" 124 "CrierOfBoroughModel" "opens" "I" ∈ gTB := gTB_of (tm_3_898 _ List.mem_cons_self) rfl
theorem tm_3_899 : ∀ w ∈ tl_3_899, w ∈ lw_tbl := fun w h => tm_3_898 w (List.mem_cons_of_mem _ h)
theorem w_899 : Cond.fieldLink "CrierOfBoroughModel" 115 "CrierOfBoroughModel" "out" "I" ∈ gTB := gTB_of (tm_3_899 _ List.mem_cons_self) rfl
theorem tm_3_900 : ∀ w ∈ tl_3_900, w ∈ lw_tbl := fun w h => tm_3_899 w (List.mem_cons_of_mem _ h)
theorem w_900 : Cond.fieldLink "CrierOfBoroughModel" 55 "CrierOfBoroughModel" "stack" "[I" ∈ gTB := gTB_of (tm_3_900 _ List.mem_cons_self) rfl
theorem tm_3_901 : ∀ w ∈ tl_3_901, w ∈ lw_tbl := fun w h => tm_3_900 w (List.mem_cons_of_mem _ h)
theorem w_901 : Cond.fieldLink "CrierOfBoroughModel" 58 "CrierOfBoroughModel" "named" "[I" ∈ gTB := gTB_of (tm_3_901 _ List.mem_cons_self) rfl
theorem tm_3_902 : ∀ w ∈ tl_3_902, w ∈ lw_tbl := fun w h => tm_3_901 w (List.mem_cons_of_mem _ h)
theorem w_902 : Cond.fieldLink "CrierOfBoroughModel" 61 "CrierOfBoroughModel" "kept" "[I" ∈ gTB := gTB_of (tm_3_902 _ List.mem_cons_self) rfl
theorem tm_3_903 : ∀ w ∈ tl_3_903, w ∈ lw_tbl := fun w h => tm_3_902 w (List.mem_cons_of_mem _ h)
theorem w_903 : Cond.fieldLink "CrierOfBoroughModel" 64 "CrierOfBoroughModel" "tellable" "[I" ∈ gTB := gTB_of (tm_3_903 _ List.mem_cons_self) rfl
theorem tm_3_904 : ∀ w ∈ tl_3_904, w ∈ lw_tbl := fun w h => tm_3_903 w (List.mem_cons_of_mem _ h)
theorem w_904 : Cond.fieldLink "CrierOfBoroughModel" 259 "CrierOfBoroughModel" "newsThen" "I" ∈ gTB := gTB_of (tm_3_904 _ List.mem_cons_self) rfl
theorem tm_3_905 : ∀ w ∈ tl_3_905, w ∈ lw_tbl := fun w h => tm_3_904 w (List.mem_cons_of_mem _ h)
theorem w_905 : Cond.lays "CrierOfBoroughModel" "CrierOfBoroughModel" "people" "I" ∈ gTB := gTB_of (tm_3_905 _ List.mem_cons_self) rfl
theorem tm_3_906 : ∀ w ∈ tl_3_906, w ∈ lw_tbl := fun w h => tm_3_905 w (List.mem_cons_of_mem _ h)
theorem tm_3_907 : ∀ w ∈ tl_3_907, w ∈ lw_tbl := fun w h => tm_3_906 w (List.mem_cons_of_mem _ h)
theorem w_907 : Cond.laysFinal "CrierOfBoroughModel" "CrierOfBoroughModel" "kind" "[I" ∈ gTB := gTB_of (tm_3_907 _ List.mem_cons_self) rfl
theorem tm_3_908 : ∀ w ∈ tl_3_908, w ∈ lw_tbl := fun w h => tm_3_907 w (List.mem_cons_of_mem _ h)
theorem tm_3_909 : ∀ w ∈ tl_3_909, w ∈ lw_tbl := fun w h => tm_3_908 w (List.mem_cons_of_mem _ h)
theorem w_909 : Cond.laysFinal "CrierOfBoroughModel" "CrierOfBoroughModel" "moreOf" "[I" ∈ gTB := gTB_of (tm_3_909 _ List.mem_cons_self) rfl
theorem tm_3_910 : ∀ w ∈ tl_3_910, w ∈ lw_tbl := fun w h => tm_3_909 w (List.mem_cons_of_mem _ h)
theorem tm_3_911 : ∀ w ∈ tl_3_911, w ∈ lw_tbl := fun w h => tm_3_910 w (List.mem_cons_of_mem _ h)
theorem w_911 : Cond.laysFinal "CrierOfBoroughModel" "CrierOfBoroughModel" "rows" "[I" ∈ gTB := gTB_of (tm_3_911 _ List.mem_cons_self) rfl
theorem tm_3_912 : ∀ w ∈ tl_3_912, w ∈ lw_tbl := fun w h => tm_3_911 w (List.mem_cons_of_mem _ h)
theorem tm_3_913 : ∀ w ∈ tl_3_913, w ∈ lw_tbl := fun w h => tm_3_912 w (List.mem_cons_of_mem _ h)
theorem w_913 : Cond.laysFinal "CrierOfBoroughModel" "CrierOfBoroughModel" "borough" "[I" ∈ gTB := gTB_of (tm_3_913 _ List.mem_cons_self) rfl
theorem tm_3_914 : ∀ w ∈ tl_3_914, w ∈ lw_tbl := fun w h => tm_3_913 w (List.mem_cons_of_mem _ h)
theorem tm_3_915 : ∀ w ∈ tl_3_915, w ∈ lw_tbl := fun w h => tm_3_914 w (List.mem_cons_of_mem _ h)
theorem w_915 : Cond.laysFinal "CrierOfBoroughModel" "CrierOfBoroughModel" "tape" "[I" ∈ gTB := gTB_of (tm_3_915 _ List.mem_cons_self) rfl
theorem tm_3_916 : ∀ w ∈ tl_3_916, w ∈ lw_tbl := fun w h => tm_3_915 w (List.mem_cons_of_mem _ h)
theorem tm_3_917 : ∀ w ∈ tl_3_917, w ∈ lw_tbl := fun w h => tm_3_916 w (List.mem_cons_of_mem _ h)
theorem w_917 : Cond.lays "CrierOfBoroughModel" "CrierOfBoroughModel" "taped" "I" ∈ gTB := gTB_of (tm_3_917 _ List.mem_cons_self) rfl
theorem tm_3_918 : ∀ w ∈ tl_3_918, w ∈ lw_tbl := fun w h => tm_3_917 w (List.mem_cons_of_mem _ h)
theorem tm_3_919 : ∀ w ∈ tl_3_919, w ∈ lw_tbl := fun w h => tm_3_918 w (List.mem_cons_of_mem _ h)
theorem w_919 : Cond.laysFinal "CrierOfBoroughModel" "CrierOfBoroughModel" "codes" "[I" ∈ gTB := gTB_of (tm_3_919 _ List.mem_cons_self) rfl
theorem tm_3_920 : ∀ w ∈ tl_3_920, w ∈ lw_tbl := fun w h => tm_3_919 w (List.mem_cons_of_mem _ h)
theorem tm_3_921 : ∀ w ∈ tl_3_921, w ∈ lw_tbl := fun w h => tm_3_920 w (List.mem_cons_of_mem _ h)
theorem w_921 : Cond.laysFinal "CrierOfBoroughModel" "CrierOfBoroughModel" "starts" "[I" ∈ gTB := gTB_of (tm_3_921 _ List.mem_cons_self) rfl
theorem tm_3_922 : ∀ w ∈ tl_3_922, w ∈ lw_tbl := fun w h => tm_3_921 w (List.mem_cons_of_mem _ h)
theorem tm_3_923 : ∀ w ∈ tl_3_923, w ∈ lw_tbl := fun w h => tm_3_922 w (List.mem_cons_of_mem _ h)
theorem w_923 : Cond.lays "CrierOfBoroughModel" "CrierOfBoroughModel" "texts" "I" ∈ gTB := gTB_of (tm_3_923 _ List.mem_cons_self) rfl
theorem tm_3_924 : ∀ w ∈ tl_3_924, w ∈ lw_tbl := fun w h => tm_3_923 w (List.mem_cons_of_mem _ h)
theorem tm_3_925 : ∀ w ∈ tl_3_925, w ∈ lw_tbl := fun w h => tm_3_924 w (List.mem_cons_of_mem _ h)
theorem w_925 : Cond.lays "CrierOfBoroughModel" "CrierOfBoroughModel" "rule" "I" ∈ gTB := gTB_of (tm_3_925 _ List.mem_cons_self) rfl
theorem tm_3_926 : ∀ w ∈ tl_3_926, w ∈ lw_tbl := fun w h => tm_3_925 w (List.mem_cons_of_mem _ h)
theorem tm_3_927 : ∀ w ∈ tl_3_927, w ∈ lw_tbl := fun w h => tm_3_926 w (List.mem_cons_of_mem _ h)
theorem w_927 : Cond.lays "CrierOfBoroughModel" "CrierOfBoroughModel" "hasImage" "Z" ∈ gTB := gTB_of (tm_3_927 _ List.mem_cons_self) rfl
theorem tm_3_928 : ∀ w ∈ tl_3_928, w ∈ lw_tbl := fun w h => tm_3_927 w (List.mem_cons_of_mem _ h)
theorem tm_3_929 : ∀ w ∈ tl_3_929, w ∈ lw_tbl := fun w h => tm_3_928 w (List.mem_cons_of_mem _ h)
theorem w_929 : Cond.laysFinal "CrierOfBoroughModel" "CrierOfBoroughModel" "imageRows" "[I" ∈ gTB := gTB_of (tm_3_929 _ List.mem_cons_self) rfl
theorem tm_3_930 : ∀ w ∈ tl_3_930, w ∈ lw_tbl := fun w h => tm_3_929 w (List.mem_cons_of_mem _ h)
theorem tm_3_931 : ∀ w ∈ tl_3_931, w ∈ lw_tbl := fun w h => tm_3_930 w (List.mem_cons_of_mem _ h)
theorem w_931 : Cond.laysFinal "CrierOfBoroughModel" "CrierOfBoroughModel" "imageHeld" "[I" ∈ gTB := gTB_of (tm_3_931 _ List.mem_cons_self) rfl
theorem tm_3_932 : ∀ w ∈ tl_3_932, w ∈ lw_tbl := fun w h => tm_3_931 w (List.mem_cons_of_mem _ h)
theorem tm_3_933 : ∀ w ∈ tl_3_933, w ∈ lw_tbl := fun w h => tm_3_932 w (List.mem_cons_of_mem _ h)
theorem w_933 : Cond.laysFinal "CrierOfBoroughModel" "CrierOfBoroughModel" "sheetSort" "[I" ∈ gTB := gTB_of (tm_3_933 _ List.mem_cons_self) rfl
theorem tm_3_934 : ∀ w ∈ tl_3_934, w ∈ lw_tbl := fun w h => tm_3_933 w (List.mem_cons_of_mem _ h)
theorem tm_3_935 : ∀ w ∈ tl_3_935, w ∈ lw_tbl := fun w h => tm_3_934 w (List.mem_cons_of_mem _ h)
theorem w_935 : Cond.laysFinal "CrierOfBoroughModel" "CrierOfBoroughModel" "sheetSize" "[I" ∈ gTB := gTB_of (tm_3_935 _ List.mem_cons_self) rfl
theorem tm_3_936 : ∀ w ∈ tl_3_936, w ∈ lw_tbl := fun w h => tm_3_935 w (List.mem_cons_of_mem _ h)
theorem tm_3_937 : ∀ w ∈ tl_3_937, w ∈ lw_tbl := fun w h => tm_3_936 w (List.mem_cons_of_mem _ h)
theorem w_937 : Cond.laysFinal "CrierOfBoroughModel" "CrierOfBoroughModel" "cells" "[I" ∈ gTB := gTB_of (tm_3_937 _ List.mem_cons_self) rfl
theorem tm_3_938 : ∀ w ∈ tl_3_938, w ∈ lw_tbl := fun w h => tm_3_937 w (List.mem_cons_of_mem _ h)
theorem tm_3_939 : ∀ w ∈ tl_3_939, w ∈ lw_tbl := fun w h => tm_3_938 w (List.mem_cons_of_mem _ h)
theorem w_939 : Cond.laysFinal "CrierOfBoroughModel" "CrierOfBoroughModel" "law" "[I" ∈ gTB := gTB_of (tm_3_939 _ List.mem_cons_self) rfl
theorem tm_3_940 : ∀ w ∈ tl_3_940, w ∈ lw_tbl := fun w h => tm_3_939 w (List.mem_cons_of_mem _ h)
theorem tm_3_941 : ∀ w ∈ tl_3_941, w ∈ lw_tbl := fun w h => tm_3_940 w (List.mem_cons_of_mem _ h)
theorem w_941 : Cond.lays "CrierOfBoroughModel" "CrierOfBoroughModel" "at" "I" ∈ gTB := gTB_of (tm_3_941 _ List.mem_cons_self) rfl
theorem tm_3_942 : ∀ w ∈ tl_3_942, w ∈ lw_tbl := fun w h => tm_3_941 w (List.mem_cons_of_mem _ h)
theorem tm_3_943 : ∀ w ∈ tl_3_943, w ∈ lw_tbl := fun w h => tm_3_942 w (List.mem_cons_of_mem _ h)
theorem w_943 : Cond.lays "CrierOfBoroughModel" "CrierOfBoroughModel" "begun" "I" ∈ gTB := gTB_of (tm_3_943 _ List.mem_cons_self) rfl
theorem tm_3_944 : ∀ w ∈ tl_3_944, w ∈ lw_tbl := fun w h => tm_3_943 w (List.mem_cons_of_mem _ h)
theorem tm_3_945 : ∀ w ∈ tl_3_945, w ∈ lw_tbl := fun w h => tm_3_944 w (List.mem_cons_of_mem _ h)
theorem w_945 : Cond.lays "CrierOfBoroughModel" "CrierOfBoroughModel" "token" "I" ∈ gTB := gTB_of (tm_3_945 _ List.mem_cons_self) rfl
theorem tm_3_946 : ∀ w ∈ tl_3_946, w ∈ lw_tbl := fun w h => tm_3_945 w (List.mem_cons_of_mem _ h)
theorem tm_3_947 : ∀ w ∈ tl_3_947, w ∈ lw_tbl := fun w h => tm_3_946 w (List.mem_cons_of_mem _ h)
theorem w_947 : Cond.lays "CrierOfBoroughModel" "CrierOfBoroughModel" "value" "I" ∈ gTB := gTB_of (tm_3_947 _ List.mem_cons_self) rfl
theorem tm_3_948 : ∀ w ∈ tl_3_948, w ∈ lw_tbl := fun w h => tm_3_947 w (List.mem_cons_of_mem _ h)
theorem tm_3_949 : ∀ w ∈ tl_3_949, w ∈ lw_tbl := fun w h => tm_3_948 w (List.mem_cons_of_mem _ h)
theorem w_949 : Cond.laysFinal "CrierOfBoroughModel" "CrierOfBoroughModel" "words" "[I" ∈ gTB := gTB_of (tm_3_949 _ List.mem_cons_self) rfl
theorem tm_3_950 : ∀ w ∈ tl_3_950, w ∈ lw_tbl := fun w h => tm_3_949 w (List.mem_cons_of_mem _ h)
theorem tm_3_951 : ∀ w ∈ tl_3_951, w ∈ lw_tbl := fun w h => tm_3_950 w (List.mem_cons_of_mem _ h)
theorem w_951 : Cond.laysFinal "CrierOfBoroughModel" "CrierOfBoroughModel" "held" "[I" ∈ gTB := gTB_of (tm_3_951 _ List.mem_cons_self) rfl
theorem tm_3_952 : ∀ w ∈ tl_3_952, w ∈ lw_tbl := fun w h => tm_3_951 w (List.mem_cons_of_mem _ h)
theorem tm_3_953 : ∀ w ∈ tl_3_953, w ∈ lw_tbl := fun w h => tm_3_952 w (List.mem_cons_of_mem _ h)
theorem w_953 : Cond.lays "CrierOfBoroughModel" "CrierOfBoroughModel" "heldMany" "I" ∈ gTB := gTB_of (tm_3_953 _ List.mem_cons_self) rfl
theorem tm_3_954 : ∀ w ∈ tl_3_954, w ∈ lw_tbl := fun w h => tm_3_953 w (List.mem_cons_of_mem _ h)
theorem tm_3_955 : ∀ w ∈ tl_3_955, w ∈ lw_tbl := fun w h => tm_3_954 w (List.mem_cons_of_mem _ h)
theorem w_955 : Cond.lays "CrierOfBoroughModel" "CrierOfBoroughModel" "opens" "I" ∈ gTB := gTB_of (tm_3_955 _ List.mem_cons_self) rfl
theorem tm_3_956 : ∀ w ∈ tl_3_956, w ∈ lw_tbl := fun w h => tm_3_955 w (List.mem_cons_of_mem _ h)
theorem tm_3_957 : ∀ w ∈ tl_3_957, w ∈ lw_tbl := fun w h => tm_3_956 w (List.mem_cons_of_mem _ h)
theorem w_957 : Cond.lays "CrierOfBoroughModel" "CrierOfBoroughModel" "out" "I" ∈ gTB := gTB_of (tm_3_957 _ List.mem_cons_self) rfl
theorem tm_3_958 : ∀ w ∈ tl_3_958, w ∈ lw_tbl := fun w h => tm_3_957 w (List.mem_cons_of_mem _ h)
theorem tm_3_959 : ∀ w ∈ tl_3_959, w ∈ lw_tbl := fun w h => tm_3_958 w (List.mem_cons_of_mem _ h)
theorem w_959 : Cond.laysFinal "CrierOfBoroughModel" "CrierOfBoroughModel" "stack" "[I" ∈ gTB := gTB_of (tm_3_959 _ List.mem_cons_self) rfl
def tl_4_1200 : List Cond := []
def tl_4_1199 : List Cond := (Cond.selects RX11 yX11_film yX11_film) :: tl_4_1200
def tl_4_1198 : List Cond := (Cond.instanceMethod yX11_film) :: tl_4_1199
def tl_4_1197 : List Cond := (Cond.methodLink RL 126 yX11_film) :: tl_4_1198
def tl_4_1196 : List Cond := (Cond.code yX11_laws cX11_laws 6 (some (.int))) :: tl_4_1197
def tl_4_1195 : List Cond := (Cond.selects RX11 yX11_laws yX11_laws) :: tl_4_1196
def tl_4_1194 : List Cond := (Cond.instanceMethod yX11_laws) :: tl_4_1195
def tl_4_1193 : List Cond := (Cond.methodLink RL 122 yX11_laws) :: tl_4_1194
def tl_4_1192 : List Cond := (Cond.code yX11_evils cX11_evils 10 (some (.int))) :: tl_4_1193
def tl_4_1191 : List Cond := (Cond.selects RX11 yX11_evils yX11_evils) :: tl_4_1192
def tl_4_1190 : List Cond := (Cond.instanceMethod yX11_evils) :: tl_4_1191
def tl_4_1189 : List Cond := (Cond.methodLink RL 118 yX11_evils) :: tl_4_1190
def tl_4_1188 : List Cond := (Cond.code yX11_turned cX11_turned 7 (some (.int))) :: tl_4_1189
def tl_4_1187 : List Cond := (Cond.selects RX11 yX11_turned yX11_turned) :: tl_4_1188
def tl_4_1186 : List Cond := (Cond.instanceMethod yX11_turned) :: tl_4_1187
def tl_4_1185 : List Cond := (Cond.methodLink RL 114 yX11_turned) :: tl_4_1186
def tl_4_1184 : List Cond := (Cond.code yX11_corners cX11_corners 7 (some (.int))) :: tl_4_1185
def tl_4_1183 : List Cond := (Cond.selects RX11 yX11_corners yX11_corners) :: tl_4_1184
def tl_4_1182 : List Cond := (Cond.instanceMethod yX11_corners) :: tl_4_1183
def tl_4_1181 : List Cond := (Cond.methodLink RL 110 yX11_corners) :: tl_4_1182
def tl_4_1180 : List Cond := (Cond.code yX11_kinds cX11_kinds 9 (some (.int))) :: tl_4_1181
def tl_4_1179 : List Cond := (Cond.selects RX11 yX11_kinds yX11_kinds) :: tl_4_1180
def tl_4_1178 : List Cond := (Cond.instanceMethod yX11_kinds) :: tl_4_1179
def tl_4_1177 : List Cond := (Cond.methodLink RL 106 yX11_kinds) :: tl_4_1178
def tl_4_1176 : List Cond := (Cond.code yX11_unlike cX11_unlike 4 (some (.int))) :: tl_4_1177
def tl_4_1175 : List Cond := (Cond.instanceMethod yX11_unlike) :: tl_4_1176
def tl_4_1174 : List Cond := ((Jvm.Cond.privateMethod ({ cls := "CrierOfBoroughModel", name := "unlike", desc := "(I)I" } : Jvm.MethodName))) :: tl_4_1175
def tl_4_1173 : List Cond := (Cond.methodLink RX11 248 yX11_unlike) :: tl_4_1174
def tl_4_1172 : List Cond := (Cond.code yX11_sheetWrong cX11_sheetWrong 2 (some (.int))) :: tl_4_1173
def tl_4_1171 : List Cond := (Cond.instanceMethod yX11_sheetWrong) :: tl_4_1172
def tl_4_1170 : List Cond := ((Jvm.Cond.privateMethod ({ cls := "CrierOfBoroughModel", name := "sheetWrong", desc := "(I)I" } : Jvm.MethodName))) :: tl_4_1171
def tl_4_1169 : List Cond := (Cond.methodLink RX11 245 yX11_sheetWrong) :: tl_4_1170
def tl_4_1168 : List Cond := (Cond.code yX11_judge cX11_judge 3 (some (.int))) :: tl_4_1169
def tl_4_1167 : List Cond := (Cond.selects RX11 yX11_judge yX11_judge) :: tl_4_1168
def tl_4_1166 : List Cond := (Cond.instanceMethod yX11_judge) :: tl_4_1167
def tl_4_1165 : List Cond := (Cond.methodLink RL 102 yX11_judge) :: tl_4_1166
def tl_4_1164 : List Cond := (Cond.constantLong RX11 243 (-4611686018427387904 : Int64)) :: tl_4_1165
def tl_4_1163 : List Cond := (Cond.code yX11_lowest cX11_lowest 11 (some (.long))) :: tl_4_1164
def tl_4_1162 : List Cond := (Cond.static yX11_lowest) :: tl_4_1163
def tl_4_1161 : List Cond := (Cond.methodLink RX11 239 yX11_lowest) :: tl_4_1162
def tl_4_1160 : List Cond := (Cond.code yX11_mean cX11_mean 4 (some (.long))) :: tl_4_1161
def tl_4_1159 : List Cond := (Cond.selects RX11 yX11_mean yX11_mean) :: tl_4_1160
def tl_4_1158 : List Cond := (Cond.instanceMethod yX11_mean) :: tl_4_1159
def tl_4_1157 : List Cond := (Cond.methodLink RL 98 yX11_mean) :: tl_4_1158
def tl_4_1156 : List Cond := (Cond.code yX11_toldBy cX11_toldBy 4 (some (.int))) :: tl_4_1157
def tl_4_1155 : List Cond := (Cond.instanceMethod yX11_toldBy) :: tl_4_1156
def tl_4_1154 : List Cond := ((Jvm.Cond.privateMethod ({ cls := "CrierOfBoroughModel", name := "toldBy", desc := "(I)I" } : Jvm.MethodName))) :: tl_4_1155
def tl_4_1153 : List Cond := (Cond.methodLink RX11 236 yX11_toldBy) :: tl_4_1154
def tl_4_1152 : List Cond := (Cond.code yX11_round cX11_round 7 (some (.int))) :: tl_4_1153
def tl_4_1151 : List Cond := (Cond.selects RX11 yX11_round yX11_round) :: tl_4_1152
def tl_4_1150 : List Cond := (Cond.instanceMethod yX11_round) :: tl_4_1151
def tl_4_1149 : List Cond := (Cond.methodLink RL 93 yX11_round) :: tl_4_1150
def tl_4_1148 : List Cond := (Cond.code yX11_mayHushed cX11_mayHushed 5 (some (.boolean))) :: tl_4_1149
def tl_4_1147 : List Cond := (Cond.instanceMethod yX11_mayHushed) :: tl_4_1148
def tl_4_1146 : List Cond := ((Jvm.Cond.privateMethod ({ cls := "CrierOfBoroughModel", name := "mayHushed", desc := "(III)Z" } : Jvm.MethodName))) :: tl_4_1147
def tl_4_1145 : List Cond := (Cond.methodLink RX11 233 yX11_mayHushed) :: tl_4_1146
def tl_4_1144 : List Cond := (Cond.code yX11_isThing cX11_isThing 1 (some (.boolean))) :: tl_4_1145
def tl_4_1143 : List Cond := (Cond.static yX11_isThing) :: tl_4_1144
def tl_4_1142 : List Cond := (Cond.methodLink RX11 230 yX11_isThing) :: tl_4_1143
def tl_4_1141 : List Cond := (Cond.code yX11_hush cX11_hush 10 (some (.int))) :: tl_4_1142
def tl_4_1140 : List Cond := (Cond.selects RX11 yX11_hush yX11_hush) :: tl_4_1141
def tl_4_1139 : List Cond := (Cond.instanceMethod yX11_hush) :: tl_4_1140
def tl_4_1138 : List Cond := (Cond.methodLink RL 89 yX11_hush) :: tl_4_1139
def tl_4_1137 : List Cond := (Cond.code yX11_windows cX11_windows 7 (some (.int))) :: tl_4_1138
def tl_4_1136 : List Cond := (Cond.selects RX11 yX11_windows yX11_windows) :: tl_4_1137
def tl_4_1135 : List Cond := (Cond.instanceMethod yX11_windows) :: tl_4_1136
def tl_4_1134 : List Cond := (Cond.methodLink RL 85 yX11_windows) :: tl_4_1135
def tl_4_1133 : List Cond := (Cond.code yX11_criedIn cX11_criedIn 3 (some (.int))) :: tl_4_1134
def tl_4_1132 : List Cond := (Cond.instanceMethod yX11_criedIn) :: tl_4_1133
def tl_4_1131 : List Cond := ((Jvm.Cond.privateMethod ({ cls := "CrierOfBoroughModel", name := "criedIn", desc := "(I)I" } : Jvm.MethodName))) :: tl_4_1132
def tl_4_1130 : List Cond := (Cond.methodLink RX11 227 yX11_criedIn) :: tl_4_1131
def tl_4_1129 : List Cond := (Cond.code yX11_begin cX11_begin 8 (some (.int))) :: tl_4_1130
def tl_4_1128 : List Cond := (Cond.selects RX11 yX11_begin yX11_begin) :: tl_4_1129
def tl_4_1127 : List Cond := (Cond.instanceMethod yX11_begin) :: tl_4_1128
def tl_4_1126 : List Cond := (Cond.methodLink RL 81 yX11_begin) :: tl_4_1127
def tl_4_1125 : List Cond := (Cond.code yX11_where cX11_where 6 (some (.int))) :: tl_4_1126
def tl_4_1124 : List Cond := (Cond.selects RX11 yX11_where yX11_where) :: tl_4_1125
def tl_4_1123 : List Cond := (Cond.instanceMethod yX11_where) :: tl_4_1124
def tl_4_1122 : List Cond := (Cond.methodLink RL 77 yX11_where) :: tl_4_1123
def tl_4_1121 : List Cond := (Cond.code yX11_isNow cX11_isNow 3 (some (.boolean))) :: tl_4_1122
def tl_4_1120 : List Cond := (Cond.instanceMethod yX11_isNow) :: tl_4_1121
def tl_4_1119 : List Cond := ((Jvm.Cond.privateMethod ({ cls := "CrierOfBoroughModel", name := "isNow", desc := "(I)Z" } : Jvm.MethodName))) :: tl_4_1120
def tl_4_1118 : List Cond := (Cond.methodLink RX11 224 yX11_isNow) :: tl_4_1119
def tl_4_1117 : List Cond := (Cond.code yX11_when cX11_when 4 (some (.int))) :: tl_4_1118
def tl_4_1116 : List Cond := (Cond.selects RX11 yX11_when yX11_when) :: tl_4_1117
def tl_4_1115 : List Cond := (Cond.instanceMethod yX11_when) :: tl_4_1116
def tl_4_1114 : List Cond := (Cond.methodLink RL 73 yX11_when) :: tl_4_1115
def tl_4_1113 : List Cond := (Cond.code yX11_lays cX11_lays 2 (none)) :: tl_4_1114
def tl_4_1112 : List Cond := (Cond.instanceMethod yX11_lays) :: tl_4_1113
def tl_4_1111 : List Cond := ((Jvm.Cond.privateMethod ({ cls := "CrierOfBoroughModel", name := "lays", desc := "()V" } : Jvm.MethodName))) :: tl_4_1112
def tl_4_1110 : List Cond := (Cond.methodLink RX11 218 yX11_lays) :: tl_4_1111
def tl_4_1109 : List Cond := (Cond.code yX11_knownAll cX11_knownAll 3 (some (.int))) :: tl_4_1110
def tl_4_1108 : List Cond := (Cond.instanceMethod yX11_knownAll) :: tl_4_1109
def tl_4_1107 : List Cond := ((Jvm.Cond.privateMethod ({ cls := "CrierOfBoroughModel", name := "knownAll", desc := "()I" } : Jvm.MethodName))) :: tl_4_1108
def tl_4_1106 : List Cond := (Cond.methodLink RX11 221 yX11_knownAll) :: tl_4_1107
def tl_4_1105 : List Cond := (Cond.code yX11_goes cX11_goes 4 (some (.int))) :: tl_4_1106
def tl_4_1104 : List Cond := (Cond.instanceMethod yX11_goes) :: tl_4_1105
def tl_4_1103 : List Cond := ((Jvm.Cond.privateMethod ({ cls := "CrierOfBoroughModel", name := "goes", desc := "(I)I" } : Jvm.MethodName))) :: tl_4_1104
def tl_4_1102 : List Cond := (Cond.methodLink RX11 215 yX11_goes) :: tl_4_1103
def tl_4_1101 : List Cond := (Cond.code yX11_keeps cX11_keeps 2 (none)) :: tl_4_1102
def tl_4_1100 : List Cond := (Cond.instanceMethod yX11_keeps) :: tl_4_1101
def tl_4_1099 : List Cond := ((Jvm.Cond.privateMethod ({ cls := "CrierOfBoroughModel", name := "keeps", desc := "()V" } : Jvm.MethodName))) :: tl_4_1100
def tl_4_1098 : List Cond := (Cond.methodLink RX11 212 yX11_keeps) :: tl_4_1099
def tl_4_1097 : List Cond := (Cond.code yX11_run cX11_run 5 (some (.int))) :: tl_4_1098
def tl_4_1096 : List Cond := (Cond.selects RX11 yX11_run yX11_run) :: tl_4_1097
def tl_4_1095 : List Cond := (Cond.instanceMethod yX11_run) :: tl_4_1096
def tl_4_1094 : List Cond := (Cond.methodLink RL 69 yX11_run) :: tl_4_1095
def tl_4_1093 : List Cond := (Cond.code yX11_knownToOthers cX11_knownToOthers 4 (some (.int))) :: tl_4_1094
def tl_4_1092 : List Cond := (Cond.instanceMethod yX11_knownToOthers) :: tl_4_1093
def tl_4_1091 : List Cond := ((Jvm.Cond.privateMethod ({ cls := "CrierOfBoroughModel", name := "knownToOthers", desc := "(I)I" } : Jvm.MethodName))) :: tl_4_1092
def tl_4_1090 : List Cond := (Cond.methodLink RX11 206 yX11_knownToOthers) :: tl_4_1091
def tl_4_1089 : List Cond := (Cond.code yX11_hourOf cX11_hourOf 4 (some (.int))) :: tl_4_1090
def tl_4_1088 : List Cond := (Cond.instanceMethod yX11_hourOf) :: tl_4_1089
def tl_4_1087 : List Cond := ((Jvm.Cond.privateMethod ({ cls := "CrierOfBoroughModel", name := "hourOf", desc := "()I" } : Jvm.MethodName))) :: tl_4_1088
def tl_4_1086 : List Cond := (Cond.methodLink RX11 209 yX11_hourOf) :: tl_4_1087
def tl_4_1085 : List Cond := (Cond.code yX11_hour cX11_hour 1 (some (.int))) :: tl_4_1086
def tl_4_1084 : List Cond := (Cond.selects RX11 yX11_hour yX11_hour) :: tl_4_1085
def tl_4_1083 : List Cond := (Cond.instanceMethod yX11_hour) :: tl_4_1084
def tl_4_1082 : List Cond := (Cond.methodLink RL 65 yX11_hour) :: tl_4_1083
def tl_4_1081 : List Cond := (Cond.code yX11_maySet cX11_maySet 5 (some (.int))) :: tl_4_1082
def tl_4_1080 : List Cond := (Cond.instanceMethod yX11_maySet) :: tl_4_1081
def tl_4_1079 : List Cond := ((Jvm.Cond.privateMethod ({ cls := "CrierOfBoroughModel", name := "maySet", desc := "(II)I" } : Jvm.MethodName))) :: tl_4_1080
def tl_4_1078 : List Cond := (Cond.methodLink RX11 203 yX11_maySet) :: tl_4_1079
def tl_4_1077 : List Cond := (Cond.code yX11_listeners cX11_listeners 4 (some (.int))) :: tl_4_1078
def tl_4_1076 : List Cond := (Cond.instanceMethod yX11_listeners) :: tl_4_1077
def tl_4_1075 : List Cond := ((Jvm.Cond.privateMethod ({ cls := "CrierOfBoroughModel", name := "listeners", desc := "(I)I" } : Jvm.MethodName))) :: tl_4_1076
def tl_4_1074 : List Cond := (Cond.methodLink RX11 200 yX11_listeners) :: tl_4_1075
def tl_4_1073 : List Cond := (Cond.code yX11_whoAt cX11_whoAt 4 (some (.int))) :: tl_4_1074
def tl_4_1072 : List Cond := (Cond.instanceMethod yX11_whoAt) :: tl_4_1073
def tl_4_1071 : List Cond := ((Jvm.Cond.privateMethod ({ cls := "CrierOfBoroughModel", name := "whoAt", desc := "(I)I" } : Jvm.MethodName))) :: tl_4_1072
def tl_4_1070 : List Cond := (Cond.methodLink RX11 197 yX11_whoAt) :: tl_4_1071
def tl_4_1069 : List Cond := (Cond.code yX11_ring cX11_ring 3 (some (.int))) :: tl_4_1070
def tl_4_1068 : List Cond := (Cond.selects RX11 yX11_ring yX11_ring) :: tl_4_1069
def tl_4_1067 : List Cond := (Cond.instanceMethod yX11_ring) :: tl_4_1068
def tl_4_1066 : List Cond := (Cond.methodLink RL 61 yX11_ring) :: tl_4_1067
def tl_4_1065 : List Cond := (Cond.code yX11_goesOf cX11_goesOf 3 (some (.int))) :: tl_4_1066
def tl_4_1064 : List Cond := (Cond.instanceMethod yX11_goesOf) :: tl_4_1065
def tl_4_1063 : List Cond := ((Jvm.Cond.privateMethod ({ cls := "CrierOfBoroughModel", name := "goesOf", desc := "(I)I" } : Jvm.MethodName))) :: tl_4_1064
def tl_4_1062 : List Cond := (Cond.methodLink RX11 191 yX11_goesOf) :: tl_4_1063
def tl_4_1061 : List Cond := (Cond.code yX11_wishSet cX11_wishSet 5 (some (.int))) :: tl_4_1062
def tl_4_1060 : List Cond := (Cond.instanceMethod yX11_wishSet) :: tl_4_1061
def tl_4_1059 : List Cond := ((Jvm.Cond.privateMethod ({ cls := "CrierOfBoroughModel", name := "wishSet", desc := "(II)I" } : Jvm.MethodName))) :: tl_4_1060
def tl_4_1058 : List Cond := (Cond.methodLink RX11 185 yX11_wishSet) :: tl_4_1059
def tl_4_1057 : List Cond := (Cond.code yX11_told cX11_told 3 (some (.int))) :: tl_4_1058
def tl_4_1056 : List Cond := (Cond.selects RX11 yX11_told yX11_told) :: tl_4_1057
def tl_4_1055 : List Cond := (Cond.instanceMethod yX11_told) :: tl_4_1056
def tl_4_1054 : List Cond := (Cond.methodLink RL 57 yX11_told) :: tl_4_1055
def tl_4_1053 : List Cond := (Cond.code yX11_put cX11_put 6 (some (.int))) :: tl_4_1054
def tl_4_1052 : List Cond := (Cond.selects RX11 yX11_put yX11_put) :: tl_4_1053
def tl_4_1051 : List Cond := (Cond.instanceMethod yX11_put) :: tl_4_1052
def tl_4_1050 : List Cond := (Cond.methodLink RL 53 yX11_put) :: tl_4_1051
def tl_4_1049 : List Cond := (Cond.code yX11_isCorner cX11_isCorner 1 (some (.boolean))) :: tl_4_1050
def tl_4_1048 : List Cond := (Cond.static yX11_isCorner) :: tl_4_1049
def tl_4_1047 : List Cond := (Cond.methodLink RX11 170 yX11_isCorner) :: tl_4_1048
def tl_4_1046 : List Cond := (Cond.code yX11_citizen cX11_citizen 4 (some (.int))) :: tl_4_1047
def tl_4_1045 : List Cond := (Cond.selects RX11 yX11_citizen yX11_citizen) :: tl_4_1046
def tl_4_1044 : List Cond := (Cond.instanceMethod yX11_citizen) :: tl_4_1045
def tl_4_1043 : List Cond := (Cond.methodLink RL 49 yX11_citizen) :: tl_4_1044
def tl_4_1042 : List Cond := (Cond.code yX11_isOne cX11_isOne 2 (some (.boolean))) :: tl_4_1043
def tl_4_1041 : List Cond := (Cond.instanceMethod yX11_isOne) :: tl_4_1042
def tl_4_1040 : List Cond := ((Jvm.Cond.privateMethod ({ cls := "CrierOfBoroughModel", name := "isOne", desc := "(I)Z" } : Jvm.MethodName))) :: tl_4_1041
def tl_4_1039 : List Cond := (Cond.methodLink RX11 164 yX11_isOne) :: tl_4_1040
def tl_4_1038 : List Cond := (Cond.code yX11_asks cX11_asks 4 (some (.int))) :: tl_4_1039
def tl_4_1037 : List Cond := (Cond.selects RX11 yX11_asks yX11_asks) :: tl_4_1038
def tl_4_1036 : List Cond := (Cond.instanceMethod yX11_asks) :: tl_4_1037
def tl_4_1035 : List Cond := (Cond.methodLink RL 45 yX11_asks) :: tl_4_1036
def tl_4_1034 : List Cond := (Cond.code yX11_force cX11_force 3 (some (.int))) :: tl_4_1035
def tl_4_1033 : List Cond := (Cond.selects RX11 yX11_force yX11_force) :: tl_4_1034
def tl_4_1032 : List Cond := (Cond.instanceMethod yX11_force) :: tl_4_1033
def tl_4_1031 : List Cond := (Cond.methodLink RL 40 yX11_force) :: tl_4_1032
def tl_4_1030 : List Cond := (Cond.methodLink RL 36 yX11_text) :: tl_4_1031
def tl_4_1029 : List Cond := (Cond.code yX11_isByte cX11_isByte 1 (some (.boolean))) :: tl_4_1030
def tl_4_1028 : List Cond := (Cond.static yX11_isByte) :: tl_4_1029
def tl_4_1027 : List Cond := (Cond.methodLink RX11 95 yX11_isByte) :: tl_4_1028
def tl_4_1026 : List Cond := (Cond.code yX11_feed cX11_feed 8 (some (.int))) :: tl_4_1027
def tl_4_1025 : List Cond := (Cond.selects RX11 yX11_feed yX11_feed) :: tl_4_1026
def tl_4_1024 : List Cond := (Cond.instanceMethod yX11_feed) :: tl_4_1025
def tl_4_1023 : List Cond := (Cond.methodLink RL 31 yX11_feed) :: tl_4_1024
def tl_4_1022 : List Cond := (Cond.code yX11_plainWish cX11_plainWish 4 (some (.boolean))) :: tl_4_1023
def tl_4_1021 : List Cond := (Cond.instanceMethod yX11_plainWish) :: tl_4_1022
def tl_4_1020 : List Cond := ((Jvm.Cond.privateMethod ({ cls := "CrierOfBoroughModel", name := "plainWish", desc := "(IIZ)Z" } : Jvm.MethodName))) :: tl_4_1021
def tl_4_1019 : List Cond := (Cond.methodLink RX11 177 yX11_plainWish) :: tl_4_1020
def tl_4_1018 : List Cond := (Cond.code yX11_within cX11_within 3 (some (.int))) :: tl_4_1019
def tl_4_1017 : List Cond := (Cond.static yX11_within) :: tl_4_1018
def tl_4_1016 : List Cond := (Cond.methodLink RX11 161 yX11_within) :: tl_4_1017
def tl_4_1015 : List Cond := (Cond.code yX11_two cX11_two 3 (some (.int))) :: tl_4_1016
def tl_4_1014 : List Cond := (Cond.static yX11_two) :: tl_4_1015
def tl_4_1013 : List Cond := (Cond.methodLink RX11 154 yX11_two) :: tl_4_1014
def tl_4_1012 : List Cond := (Cond.code yX11_says cX11_says 5 (some (.int))) :: tl_4_1013
def tl_4_1011 : List Cond := (Cond.instanceMethod yX11_says) :: tl_4_1012
def tl_4_1010 : List Cond := ((Jvm.Cond.privateMethod ({ cls := "CrierOfBoroughModel", name := "says", desc := "(I)I" } : Jvm.MethodName))) :: tl_4_1011
def tl_4_1009 : List Cond := (Cond.methodLink RX11 158 yX11_says) :: tl_4_1010
def tl_4_1008 : List Cond := (Cond.code yX11_asksOf cX11_asksOf 4 (some (.int))) :: tl_4_1009
def tl_4_1007 : List Cond := (Cond.instanceMethod yX11_asksOf) :: tl_4_1008
def tl_4_1006 : List Cond := ((Jvm.Cond.privateMethod ({ cls := "CrierOfBoroughModel", name := "asksOf", desc := "(III)I" } : Jvm.MethodName))) :: tl_4_1007
def tl_4_1005 : List Cond := (Cond.methodLink RX11 167 yX11_asksOf) :: tl_4_1006
def tl_4_1004 : List Cond := (Cond.code yX11_motherWish cX11_motherWish 5 (some (.boolean))) :: tl_4_1005
def tl_4_1003 : List Cond := (Cond.instanceMethod yX11_motherWish) :: tl_4_1004
def tl_4_1002 : List Cond := ((Jvm.Cond.privateMethod ({ cls := "CrierOfBoroughModel", name := "motherWish", desc := "(IIZI)Z" } : Jvm.MethodName))) :: tl_4_1003
def tl_4_1001 : List Cond := (Cond.methodLink RX11 173 yX11_motherWish) :: tl_4_1002
def tl_4_1000 : List Cond := (Cond.code yX11_wishes cX11_wishes 4 (some (.boolean))) :: tl_4_1001
def tl_4_999 : List Cond := (Cond.instanceMethod yX11_wishes) :: tl_4_1000
def tl_4_998 : List Cond := ((Jvm.Cond.privateMethod ({ cls := "CrierOfBoroughModel", name := "wishes", desc := "(II)Z" } : Jvm.MethodName))) :: tl_4_999
def tl_4_997 : List Cond := (Cond.methodLink RX11 181 yX11_wishes) :: tl_4_998
def tl_4_996 : List Cond := (Cond.code yX11_listens cX11_listens 3 (some (.boolean))) :: tl_4_997
def tl_4_995 : List Cond := (Cond.instanceMethod yX11_listens) :: tl_4_996
def tl_4_994 : List Cond := ((Jvm.Cond.privateMethod ({ cls := "CrierOfBoroughModel", name := "listens", desc := "(I)Z" } : Jvm.MethodName))) :: tl_4_995
def tl_4_993 : List Cond := (Cond.methodLink RX11 188 yX11_listens) :: tl_4_994
def tl_4_992 : List Cond := (Cond.code yX11_may cX11_may 4 (some (.boolean))) :: tl_4_993
def tl_4_991 : List Cond := (Cond.instanceMethod yX11_may) :: tl_4_992
def tl_4_990 : List Cond := ((Jvm.Cond.privateMethod ({ cls := "CrierOfBoroughModel", name := "may", desc := "(II)Z" } : Jvm.MethodName))) :: tl_4_991
def tl_4_989 : List Cond := (Cond.methodLink RX11 194 yX11_may) :: tl_4_990
def tl_4_988 : List Cond := (Cond.code yX11_criedNow cX11_criedNow 2 (some (.int))) :: tl_4_989
def tl_4_987 : List Cond := (Cond.instanceMethod yX11_criedNow) :: tl_4_988
def tl_4_986 : List Cond := ((Jvm.Cond.privateMethod ({ cls := "CrierOfBoroughModel", name := "criedNow", desc := "()I" } : Jvm.MethodName))) :: tl_4_987
def tl_4_985 : List Cond := (Cond.methodLink RX11 92 yX11_criedNow) :: tl_4_986
def tl_4_984 : List Cond := (Cond.code yX11_crier cX11_crier 2 (some (.int))) :: tl_4_985
def tl_4_983 : List Cond := (Cond.selects RX11 yX11_crier yX11_crier) :: tl_4_984
def tl_4_982 : List Cond := (Cond.instanceMethod yX11_crier) :: tl_4_983
def tl_4_981 : List Cond := (Cond.methodLink RL 26 yX11_crier) :: tl_4_982
def tl_4_980 : List Cond := (Cond.code yX11_borough cX11_borough 5 (some (.int))) :: tl_4_981
def tl_4_979 : List Cond := (Cond.selects RX11 yX11_borough yX11_borough) :: tl_4_980
def tl_4_978 : List Cond := (Cond.instanceMethod yX11_borough) :: tl_4_979
def tl_4_977 : List Cond := (Cond.methodLink RL 22 yX11_borough) :: tl_4_978
def tl_4_976 : List Cond := (Cond.code yX11_onesOf cX11_onesOf 3 (some (.int))) :: tl_4_977
def tl_4_975 : List Cond := (Cond.static yX11_onesOf) :: tl_4_976
def tl_4_974 : List Cond := (Cond.methodLink RX11 82 yX11_onesOf) :: tl_4_975
def tl_4_973 : List Cond := (Cond.code yX11_count cX11_count 2 (some (.int))) :: tl_4_974
def tl_4_972 : List Cond := (Cond.selects RX11 yX11_count yX11_count) :: tl_4_973
def tl_4_971 : List Cond := (Cond.instanceMethod yX11_count) :: tl_4_972
def tl_4_970 : List Cond := (Cond.methodLink RL 17 yX11_count) :: tl_4_971
def tl_4_969 : List Cond := (Cond.superclass RX11 "java/lang/Object") :: tl_4_970
def tl_4_968 : List Cond := ((Jvm.Cond.soleField "CrierOfBoroughModel" "newsThen")) :: tl_4_969
def tl_4_967 : List Cond := (Cond.lays "CrierOfBoroughModel" "CrierOfBoroughModel" "newsThen" "I") :: tl_4_968
def tl_4_966 : List Cond := ((Jvm.Cond.soleField "CrierOfBoroughModel" "tellable")) :: tl_4_967
def tl_4_965 : List Cond := (Cond.laysFinal "CrierOfBoroughModel" "CrierOfBoroughModel" "tellable" "[I") :: tl_4_966
def tl_4_964 : List Cond := ((Jvm.Cond.soleField "CrierOfBoroughModel" "kept")) :: tl_4_965
def tl_4_963 : List Cond := (Cond.laysFinal "CrierOfBoroughModel" "CrierOfBoroughModel" "kept" "[I") :: tl_4_964
def tl_4_962 : List Cond := ((Jvm.Cond.soleField "CrierOfBoroughModel" "named")) :: tl_4_963
def tl_4_961 : List Cond := (Cond.laysFinal "CrierOfBoroughModel" "CrierOfBoroughModel" "named" "[I") :: tl_4_962
def tl_4_960 : List Cond := ((Jvm.Cond.soleField "CrierOfBoroughModel" "stack")) :: tl_4_961
set_option maxRecDepth 100000 in
theorem te_4 : tables_1_5 = tl_4_960 := rfl
theorem tm_4_960 : ∀ w ∈ tl_4_960, w ∈ lw_tbl := fun w h => by
  rw [← te_4] at h
  unfold lw_tbl tables_1
  exact List.mem_append_right _ (List.mem_append_right _ (List.mem_append_right _ (List.mem_append_right _ (List.mem_append_right _ (List.mem_append_left _ h)))))
theorem tm_4_961 : ∀ w ∈ tl_4_961, w ∈ lw_tbl := fun w h => tm_4_960 w (List.mem_cons_of_mem _ h)
theorem w_961 : Cond.laysFinal "CrierOfBoroughModel" "CrierOfBoroughModel" "named" "[I" ∈ gTB := gTB_of (tm_4_961 _ List.mem_cons_self) rfl
theorem tm_4_962 : ∀ w ∈ tl_4_962, w ∈ lw_tbl := fun w h => tm_4_961 w (List.mem_cons_of_mem _ h)
theorem tm_4_963 : ∀ w ∈ tl_4_963, w ∈ lw_tbl := fun w h => tm_4_962 w (List.mem_cons_of_mem _ h)
theorem w_963 : Cond.laysFinal "CrierOfBoroughModel" "CrierOfBoroughModel" "kept" "[I" ∈ gTB := gTB_of (tm_4_963 _ List.mem_cons_self) rfl
theorem tm_4_964 : ∀ w ∈ tl_4_964, w ∈ lw_tbl := fun w h => tm_4_963 w (List.mem_cons_of_mem _ h)
theorem tm_4_965 : ∀ w ∈ tl_4_965, w ∈ lw_tbl := fun w h => tm_4_964 w (List.mem_cons_of_mem _ h)
theorem w_965 : Cond.laysFinal "CrierOfBoroughModel" "CrierOfBoroughModel" "tellable" "[I" ∈ gTB := gTB_of (tm_4_965 _ List.mem_cons_self) rfl
theorem tm_4_966 : ∀ w ∈ tl_4_966, w ∈ lw_tbl := fun w h => tm_4_965 w (List.mem_cons_of_mem _ h)
theorem tm_4_967 : ∀ w ∈ tl_4_967, w ∈ lw_tbl := fun w h => tm_4_966 w (List.mem_cons_of_mem _ h)
theorem w_967 : Cond.lays "CrierOfBoroughModel" "CrierOfBoroughModel" "newsThen" "I" ∈ gTB := gTB_of (tm_4_967 _ List.mem_cons_self) rfl
theorem tm_4_968 : ∀ w ∈ tl_4_968, w ∈ lw_tbl := fun w h => tm_4_967 w (List.mem_cons_of_mem _ h)
theorem tm_4_969 : ∀ w ∈ tl_4_969, w ∈ lw_tbl := fun w h => tm_4_968 w (List.mem_cons_of_mem _ h)
theorem w_969 : Cond.superclass RX11 "java/lang/Object" ∈ gTB := gTB_of (tm_4_969 _ List.mem_cons_self) rfl
theorem tm_4_970 : ∀ w ∈ tl_4_970, w ∈ lw_tbl := fun w h => tm_4_969 w (List.mem_cons_of_mem _ h)
theorem w_970 : Cond.methodLink RL 17 yX11_count ∈ gTB := gTB_of (tm_4_970 _ List.mem_cons_self) rfl
theorem tm_4_971 : ∀ w ∈ tl_4_971, w ∈ lw_tbl := fun w h => tm_4_970 w (List.mem_cons_of_mem _ h)
theorem w_971 : Cond.instanceMethod yX11_count ∈ gTB := gTB_of (tm_4_971 _ List.mem_cons_self) rfl
theorem tm_4_972 : ∀ w ∈ tl_4_972, w ∈ lw_tbl := fun w h => tm_4_971 w (List.mem_cons_of_mem _ h)
theorem w_972 : Cond.selects RX11 yX11_count yX11_count ∈ gTB := gTB_of (tm_4_972 _ List.mem_cons_self) rfl
theorem tm_4_973 : ∀ w ∈ tl_4_973, w ∈ lw_tbl := fun w h => tm_4_972 w (List.mem_cons_of_mem _ h)
theorem w_973 : Cond.code yX11_count cX11_count 2 (some (.int)) ∈ gTB := gTB_of (tm_4_973 _ List.mem_cons_self) rfl
theorem tm_4_974 : ∀ w ∈ tl_4_974, w ∈ lw_tbl := fun w h => tm_4_973 w (List.mem_cons_of_mem _ h)
theorem w_974 : Cond.methodLink RX11 82 yX11_onesOf ∈ gTB := gTB_of (tm_4_974 _ List.mem_cons_self) rfl
theorem tm_4_975 : ∀ w ∈ tl_4_975, w ∈ lw_tbl := fun w h => tm_4_974 w (List.mem_cons_of_mem _ h)
theorem w_975 : Cond.static yX11_onesOf ∈ gTB := gTB_of (tm_4_975 _ List.mem_cons_self) rfl
theorem tm_4_976 : ∀ w ∈ tl_4_976, w ∈ lw_tbl := fun w h => tm_4_975 w (List.mem_cons_of_mem _ h)
theorem w_976 : Cond.code yX11_onesOf cX11_onesOf 3 (some (.int)) ∈ gTB := gTB_of (tm_4_976 _ List.mem_cons_self) rfl
theorem tm_4_977 : ∀ w ∈ tl_4_977, w ∈ lw_tbl := fun w h => tm_4_976 w (List.mem_cons_of_mem _ h)
theorem w_977 : Cond.methodLink RL 22 yX11_borough ∈ gTB := gTB_of (tm_4_977 _ List.mem_cons_self) rfl
theorem tm_4_978 : ∀ w ∈ tl_4_978, w ∈ lw_tbl := fun w h => tm_4_977 w (List.mem_cons_of_mem _ h)
theorem w_978 : Cond.instanceMethod yX11_borough ∈ gTB := gTB_of (tm_4_978 _ List.mem_cons_self) rfl
theorem tm_4_979 : ∀ w ∈ tl_4_979, w ∈ lw_tbl := fun w h => tm_4_978 w (List.mem_cons_of_mem _ h)
theorem w_979 : Cond.selects RX11 yX11_borough yX11_borough ∈ gTB := gTB_of (tm_4_979 _ List.mem_cons_self) rfl
theorem tm_4_980 : ∀ w ∈ tl_4_980, w ∈ lw_tbl := fun w h => tm_4_979 w (List.mem_cons_of_mem _ h)
theorem w_980 : Cond.code yX11_borough cX11_borough 5 (some (.int)) ∈ gTB := gTB_of (tm_4_980 _ List.mem_cons_self) rfl
theorem tm_4_981 : ∀ w ∈ tl_4_981, w ∈ lw_tbl := fun w h => tm_4_980 w (List.mem_cons_of_mem _ h)
theorem w_981 : Cond.methodLink RL 26 yX11_crier ∈ gTB := gTB_of (tm_4_981 _ List.mem_cons_self) rfl
theorem tm_4_982 : ∀ w ∈ tl_4_982, w ∈ lw_tbl := fun w h => tm_4_981 w (List.mem_cons_of_mem _ h)
theorem w_982 : Cond.instanceMethod yX11_crier ∈ gTB := gTB_of (tm_4_982 _ List.mem_cons_self) rfl
theorem tm_4_983 : ∀ w ∈ tl_4_983, w ∈ lw_tbl := fun w h => tm_4_982 w (List.mem_cons_of_mem _ h)
theorem w_983 : Cond.selects RX11 yX11_crier yX11_crier ∈ gTB := gTB_of (tm_4_983 _ List.mem_cons_self) rfl
theorem tm_4_984 : ∀ w ∈ tl_4_984, w ∈ lw_tbl := fun w h => tm_4_983 w (List.mem_cons_of_mem _ h)
theorem w_984 : Cond.code yX11_crier cX11_crier 2 (some (.int)) ∈ gTB := gTB_of (tm_4_984 _ List.mem_cons_self) rfl
theorem tm_4_985 : ∀ w ∈ tl_4_985, w ∈ lw_tbl := fun w h => tm_4_984 w (List.mem_cons_of_mem _ h)
theorem w_985 : Cond.methodLink RX11 92 yX11_criedNow ∈ gTB := gTB_of (tm_4_985 _ List.mem_cons_self) rfl
theorem tm_4_986 : ∀ w ∈ tl_4_986, w ∈ lw_tbl := fun w h => tm_4_985 w (List.mem_cons_of_mem _ h)
theorem tm_4_987 : ∀ w ∈ tl_4_987, w ∈ lw_tbl := fun w h => tm_4_986 w (List.mem_cons_of_mem _ h)
theorem w_987 : Cond.instanceMethod yX11_criedNow ∈ gTB := gTB_of (tm_4_987 _ List.mem_cons_self) rfl
theorem tm_4_988 : ∀ w ∈ tl_4_988, w ∈ lw_tbl := fun w h => tm_4_987 w (List.mem_cons_of_mem _ h)
theorem w_988 : Cond.code yX11_criedNow cX11_criedNow 2 (some (.int)) ∈ gTB := gTB_of (tm_4_988 _ List.mem_cons_self) rfl
theorem tm_4_989 : ∀ w ∈ tl_4_989, w ∈ lw_tbl := fun w h => tm_4_988 w (List.mem_cons_of_mem _ h)
theorem w_989 : Cond.methodLink RX11 194 yX11_may ∈ gTB := gTB_of (tm_4_989 _ List.mem_cons_self) rfl
theorem tm_4_990 : ∀ w ∈ tl_4_990, w ∈ lw_tbl := fun w h => tm_4_989 w (List.mem_cons_of_mem _ h)
theorem tm_4_991 : ∀ w ∈ tl_4_991, w ∈ lw_tbl := fun w h => tm_4_990 w (List.mem_cons_of_mem _ h)
theorem w_991 : Cond.instanceMethod yX11_may ∈ gTB := gTB_of (tm_4_991 _ List.mem_cons_self) rfl
theorem tm_4_992 : ∀ w ∈ tl_4_992, w ∈ lw_tbl := fun w h => tm_4_991 w (List.mem_cons_of_mem _ h)
theorem w_992 : Cond.code yX11_may cX11_may 4 (some (.boolean)) ∈ gTB := gTB_of (tm_4_992 _ List.mem_cons_self) rfl
theorem tm_4_993 : ∀ w ∈ tl_4_993, w ∈ lw_tbl := fun w h => tm_4_992 w (List.mem_cons_of_mem _ h)
theorem w_993 : Cond.methodLink RX11 188 yX11_listens ∈ gTB := gTB_of (tm_4_993 _ List.mem_cons_self) rfl
theorem tm_4_994 : ∀ w ∈ tl_4_994, w ∈ lw_tbl := fun w h => tm_4_993 w (List.mem_cons_of_mem _ h)
theorem tm_4_995 : ∀ w ∈ tl_4_995, w ∈ lw_tbl := fun w h => tm_4_994 w (List.mem_cons_of_mem _ h)
theorem w_995 : Cond.instanceMethod yX11_listens ∈ gTB := gTB_of (tm_4_995 _ List.mem_cons_self) rfl
theorem tm_4_996 : ∀ w ∈ tl_4_996, w ∈ lw_tbl := fun w h => tm_4_995 w (List.mem_cons_of_mem _ h)
theorem w_996 : Cond.code yX11_listens cX11_listens 3 (some (.boolean)) ∈ gTB := gTB_of (tm_4_996 _ List.mem_cons_self) rfl
theorem tm_4_997 : ∀ w ∈ tl_4_997, w ∈ lw_tbl := fun w h => tm_4_996 w (List.mem_cons_of_mem _ h)
theorem w_997 : Cond.methodLink RX11 181 yX11_wishes ∈ gTB := gTB_of (tm_4_997 _ List.mem_cons_self) rfl
theorem tm_4_998 : ∀ w ∈ tl_4_998, w ∈ lw_tbl := fun w h => tm_4_997 w (List.mem_cons_of_mem _ h)
theorem tm_4_999 : ∀ w ∈ tl_4_999, w ∈ lw_tbl := fun w h => tm_4_998 w (List.mem_cons_of_mem _ h)
theorem w_999 : Cond.instanceMethod yX11_wishes ∈ gTB := gTB_of (tm_4_999 _ List.mem_cons_self) rfl
theorem tm_4_1000 : ∀ w ∈ tl_4_1000, w ∈ lw_tbl := fun w h => tm_4_999 w (List.mem_cons_of_mem _ h)
theorem w_1000 : Cond.code yX11_wishes cX11_wishes 4 (some (.boolean)) ∈ gTB := gTB_of (tm_4_1000 _ List.mem_cons_self) rfl
theorem tm_4_1001 : ∀ w ∈ tl_4_1001, w ∈ lw_tbl := fun w h => tm_4_1000 w (List.mem_cons_of_mem _ h)
theorem w_1001 : Cond.methodLink RX11 173 yX11_motherWish ∈ gTB := gTB_of (tm_4_1001 _ List.mem_cons_self) rfl
theorem tm_4_1002 : ∀ w ∈ tl_4_1002, w ∈ lw_tbl := fun w h => tm_4_1001 w (List.mem_cons_of_mem _ h)
theorem tm_4_1003 : ∀ w ∈ tl_4_1003, w ∈ lw_tbl := fun w h => tm_4_1002 w (List.mem_cons_of_mem _ h)
theorem w_1003 : Cond.instanceMethod yX11_motherWish ∈ gTB := gTB_of (tm_4_1003 _ List.mem_cons_self) rfl
theorem tm_4_1004 : ∀ w ∈ tl_4_1004, w ∈ lw_tbl := fun w h => tm_4_1003 w (List.mem_cons_of_mem _ h)
theorem w_1004 : Cond.code yX11_motherWish cX11_motherWish 5 (some (.boolean)) ∈ gTB := gTB_of (tm_4_1004 _ List.mem_cons_self) rfl
theorem tm_4_1005 : ∀ w ∈ tl_4_1005, w ∈ lw_tbl := fun w h => tm_4_1004 w (List.mem_cons_of_mem _ h)
theorem w_1005 : Cond.methodLink RX11 167 yX11_asksOf ∈ gTB := gTB_of (tm_4_1005 _ List.mem_cons_self) rfl
theorem tm_4_1006 : ∀ w ∈ tl_4_1006, w ∈ lw_tbl := fun w h => tm_4_1005 w (List.mem_cons_of_mem _ h)
theorem tm_4_1007 : ∀ w ∈ tl_4_1007, w ∈ lw_tbl := fun w h => tm_4_1006 w (List.mem_cons_of_mem _ h)
theorem w_1007 : Cond.instanceMethod yX11_asksOf ∈ gTB := gTB_of (tm_4_1007 _ List.mem_cons_self) rfl
theorem tm_4_1008 : ∀ w ∈ tl_4_1008, w ∈ lw_tbl := fun w h => tm_4_1007 w (List.mem_cons_of_mem _ h)
theorem w_1008 : Cond.code yX11_asksOf cX11_asksOf 4 (some (.int)) ∈ gTB := gTB_of (tm_4_1008 _ List.mem_cons_self) rfl
theorem tm_4_1009 : ∀ w ∈ tl_4_1009, w ∈ lw_tbl := fun w h => tm_4_1008 w (List.mem_cons_of_mem _ h)
theorem w_1009 : Cond.methodLink RX11 158 yX11_says ∈ gTB := gTB_of (tm_4_1009 _ List.mem_cons_self) rfl
theorem tm_4_1010 : ∀ w ∈ tl_4_1010, w ∈ lw_tbl := fun w h => tm_4_1009 w (List.mem_cons_of_mem _ h)
theorem tm_4_1011 : ∀ w ∈ tl_4_1011, w ∈ lw_tbl := fun w h => tm_4_1010 w (List.mem_cons_of_mem _ h)
theorem w_1011 : Cond.instanceMethod yX11_says ∈ gTB := gTB_of (tm_4_1011 _ List.mem_cons_self) rfl
theorem tm_4_1012 : ∀ w ∈ tl_4_1012, w ∈ lw_tbl := fun w h => tm_4_1011 w (List.mem_cons_of_mem _ h)
theorem w_1012 : Cond.code yX11_says cX11_says 5 (some (.int)) ∈ gTB := gTB_of (tm_4_1012 _ List.mem_cons_self) rfl
theorem tm_4_1013 : ∀ w ∈ tl_4_1013, w ∈ lw_tbl := fun w h => tm_4_1012 w (List.mem_cons_of_mem _ h)
theorem w_1013 : Cond.methodLink RX11 154 yX11_two ∈ gTB := gTB_of (tm_4_1013 _ List.mem_cons_self) rfl
theorem tm_4_1014 : ∀ w ∈ tl_4_1014, w ∈ lw_tbl := fun w h => tm_4_1013 w (List.mem_cons_of_mem _ h)
theorem w_1014 : Cond.static yX11_two ∈ gTB := gTB_of (tm_4_1014 _ List.mem_cons_self) rfl
theorem tm_4_1015 : ∀ w ∈ tl_4_1015, w ∈ lw_tbl := fun w h => tm_4_1014 w (List.mem_cons_of_mem _ h)
theorem w_1015 : Cond.code yX11_two cX11_two 3 (some (.int)) ∈ gTB := gTB_of (tm_4_1015 _ List.mem_cons_self) rfl
theorem tm_4_1016 : ∀ w ∈ tl_4_1016, w ∈ lw_tbl := fun w h => tm_4_1015 w (List.mem_cons_of_mem _ h)
theorem w_1016 : Cond.methodLink RX11 161 yX11_within ∈ gTB := gTB_of (tm_4_1016 _ List.mem_cons_self) rfl
theorem tm_4_1017 : ∀ w ∈ tl_4_1017, w ∈ lw_tbl := fun w h => tm_4_1016 w (List.mem_cons_of_mem _ h)
theorem w_1017 : Cond.static yX11_within ∈ gTB := gTB_of (tm_4_1017 _ List.mem_cons_self) rfl
theorem tm_4_1018 : ∀ w ∈ tl_4_1018, w ∈ lw_tbl := fun w h => tm_4_1017 w (List.mem_cons_of_mem _ h)
theorem w_1018 : Cond.code yX11_within cX11_within 3 (some (.int)) ∈ gTB := gTB_of (tm_4_1018 _ List.mem_cons_self) rfl
theorem tm_4_1019 : ∀ w ∈ tl_4_1019, w ∈ lw_tbl := fun w h => tm_4_1018 w (List.mem_cons_of_mem _ h)
theorem w_1019 : Cond.methodLink RX11 177 yX11_plainWish ∈ gTB := gTB_of (tm_4_1019 _ List.mem_cons_self) rfl
theorem tm_4_1020 : ∀ w ∈ tl_4_1020, w ∈ lw_tbl := fun w h => tm_4_1019 w (List.mem_cons_of_mem _ h)
theorem tm_4_1021 : ∀ w ∈ tl_4_1021, w ∈ lw_tbl := fun w h => tm_4_1020 w (List.mem_cons_of_mem _ h)
theorem w_1021 : Cond.instanceMethod yX11_plainWish ∈ gTB := gTB_of (tm_4_1021 _ List.mem_cons_self) rfl
theorem tm_4_1022 : ∀ w ∈ tl_4_1022, w ∈ lw_tbl := fun w h => tm_4_1021 w (List.mem_cons_of_mem _ h)
theorem w_1022 : Cond.code yX11_plainWish cX11_plainWish 4 (some (.boolean)) ∈ gTB := gTB_of (tm_4_1022 _ List.mem_cons_self) rfl
theorem tm_4_1023 : ∀ w ∈ tl_4_1023, w ∈ lw_tbl := fun w h => tm_4_1022 w (List.mem_cons_of_mem _ h)
theorem w_1023 : Cond.methodLink RL 31 yX11_feed ∈ gTB := gTB_of (tm_4_1023 _ List.mem_cons_self) rfl
theorem tm_4_1024 : ∀ w ∈ tl_4_1024, w ∈ lw_tbl := fun w h => tm_4_1023 w (List.mem_cons_of_mem _ h)
theorem w_1024 : Cond.instanceMethod yX11_feed ∈ gTB := gTB_of (tm_4_1024 _ List.mem_cons_self) rfl
theorem tm_4_1025 : ∀ w ∈ tl_4_1025, w ∈ lw_tbl := fun w h => tm_4_1024 w (List.mem_cons_of_mem _ h)
theorem w_1025 : Cond.selects RX11 yX11_feed yX11_feed ∈ gTB := gTB_of (tm_4_1025 _ List.mem_cons_self) rfl
theorem tm_4_1026 : ∀ w ∈ tl_4_1026, w ∈ lw_tbl := fun w h => tm_4_1025 w (List.mem_cons_of_mem _ h)
theorem w_1026 : Cond.code yX11_feed cX11_feed 8 (some (.int)) ∈ gTB := gTB_of (tm_4_1026 _ List.mem_cons_self) rfl
theorem tm_4_1027 : ∀ w ∈ tl_4_1027, w ∈ lw_tbl := fun w h => tm_4_1026 w (List.mem_cons_of_mem _ h)
theorem w_1027 : Cond.methodLink RX11 95 yX11_isByte ∈ gTB := gTB_of (tm_4_1027 _ List.mem_cons_self) rfl
theorem tm_4_1028 : ∀ w ∈ tl_4_1028, w ∈ lw_tbl := fun w h => tm_4_1027 w (List.mem_cons_of_mem _ h)
theorem w_1028 : Cond.static yX11_isByte ∈ gTB := gTB_of (tm_4_1028 _ List.mem_cons_self) rfl
theorem tm_4_1029 : ∀ w ∈ tl_4_1029, w ∈ lw_tbl := fun w h => tm_4_1028 w (List.mem_cons_of_mem _ h)
theorem w_1029 : Cond.code yX11_isByte cX11_isByte 1 (some (.boolean)) ∈ gTB := gTB_of (tm_4_1029 _ List.mem_cons_self) rfl
theorem tm_4_1030 : ∀ w ∈ tl_4_1030, w ∈ lw_tbl := fun w h => tm_4_1029 w (List.mem_cons_of_mem _ h)
theorem w_1030 : Cond.methodLink RL 36 yX11_text ∈ gTB := gTB_of (tm_4_1030 _ List.mem_cons_self) rfl
theorem tm_4_1031 : ∀ w ∈ tl_4_1031, w ∈ lw_tbl := fun w h => tm_4_1030 w (List.mem_cons_of_mem _ h)
theorem w_1031 : Cond.methodLink RL 40 yX11_force ∈ gTB := gTB_of (tm_4_1031 _ List.mem_cons_self) rfl
theorem tm_4_1032 : ∀ w ∈ tl_4_1032, w ∈ lw_tbl := fun w h => tm_4_1031 w (List.mem_cons_of_mem _ h)
theorem w_1032 : Cond.instanceMethod yX11_force ∈ gTB := gTB_of (tm_4_1032 _ List.mem_cons_self) rfl
theorem tm_4_1033 : ∀ w ∈ tl_4_1033, w ∈ lw_tbl := fun w h => tm_4_1032 w (List.mem_cons_of_mem _ h)
theorem w_1033 : Cond.selects RX11 yX11_force yX11_force ∈ gTB := gTB_of (tm_4_1033 _ List.mem_cons_self) rfl
theorem tm_4_1034 : ∀ w ∈ tl_4_1034, w ∈ lw_tbl := fun w h => tm_4_1033 w (List.mem_cons_of_mem _ h)
theorem w_1034 : Cond.code yX11_force cX11_force 3 (some (.int)) ∈ gTB := gTB_of (tm_4_1034 _ List.mem_cons_self) rfl
theorem tm_4_1035 : ∀ w ∈ tl_4_1035, w ∈ lw_tbl := fun w h => tm_4_1034 w (List.mem_cons_of_mem _ h)
theorem w_1035 : Cond.methodLink RL 45 yX11_asks ∈ gTB := gTB_of (tm_4_1035 _ List.mem_cons_self) rfl
theorem tm_4_1036 : ∀ w ∈ tl_4_1036, w ∈ lw_tbl := fun w h => tm_4_1035 w (List.mem_cons_of_mem _ h)
theorem w_1036 : Cond.instanceMethod yX11_asks ∈ gTB := gTB_of (tm_4_1036 _ List.mem_cons_self) rfl
theorem tm_4_1037 : ∀ w ∈ tl_4_1037, w ∈ lw_tbl := fun w h => tm_4_1036 w (List.mem_cons_of_mem _ h)
theorem w_1037 : Cond.selects RX11 yX11_asks yX11_asks ∈ gTB := gTB_of (tm_4_1037 _ List.mem_cons_self) rfl
theorem tm_4_1038 : ∀ w ∈ tl_4_1038, w ∈ lw_tbl := fun w h => tm_4_1037 w (List.mem_cons_of_mem _ h)
theorem w_1038 : Cond.code yX11_asks cX11_asks 4 (some (.int)) ∈ gTB := gTB_of (tm_4_1038 _ List.mem_cons_self) rfl
theorem tm_4_1039 : ∀ w ∈ tl_4_1039, w ∈ lw_tbl := fun w h => tm_4_1038 w (List.mem_cons_of_mem _ h)
theorem w_1039 : Cond.methodLink RX11 164 yX11_isOne ∈ gTB := gTB_of (tm_4_1039 _ List.mem_cons_self) rfl
theorem tm_4_1040 : ∀ w ∈ tl_4_1040, w ∈ lw_tbl := fun w h => tm_4_1039 w (List.mem_cons_of_mem _ h)
theorem tm_4_1041 : ∀ w ∈ tl_4_1041, w ∈ lw_tbl := fun w h => tm_4_1040 w (List.mem_cons_of_mem _ h)
theorem w_1041 : Cond.instanceMethod yX11_isOne ∈ gTB := gTB_of (tm_4_1041 _ List.mem_cons_self) rfl
theorem tm_4_1042 : ∀ w ∈ tl_4_1042, w ∈ lw_tbl := fun w h => tm_4_1041 w (List.mem_cons_of_mem _ h)
theorem w_1042 : Cond.code yX11_isOne cX11_isOne 2 (some (.boolean)) ∈ gTB := gTB_of (tm_4_1042 _ List.mem_cons_self) rfl
theorem tm_4_1043 : ∀ w ∈ tl_4_1043, w ∈ lw_tbl := fun w h => tm_4_1042 w (List.mem_cons_of_mem _ h)
theorem w_1043 : Cond.methodLink RL 49 yX11_citizen ∈ gTB := gTB_of (tm_4_1043 _ List.mem_cons_self) rfl
theorem tm_4_1044 : ∀ w ∈ tl_4_1044, w ∈ lw_tbl := fun w h => tm_4_1043 w (List.mem_cons_of_mem _ h)
theorem w_1044 : Cond.instanceMethod yX11_citizen ∈ gTB := gTB_of (tm_4_1044 _ List.mem_cons_self) rfl
theorem tm_4_1045 : ∀ w ∈ tl_4_1045, w ∈ lw_tbl := fun w h => tm_4_1044 w (List.mem_cons_of_mem _ h)
theorem w_1045 : Cond.selects RX11 yX11_citizen yX11_citizen ∈ gTB := gTB_of (tm_4_1045 _ List.mem_cons_self) rfl
theorem tm_4_1046 : ∀ w ∈ tl_4_1046, w ∈ lw_tbl := fun w h => tm_4_1045 w (List.mem_cons_of_mem _ h)
theorem w_1046 : Cond.code yX11_citizen cX11_citizen 4 (some (.int)) ∈ gTB := gTB_of (tm_4_1046 _ List.mem_cons_self) rfl
theorem tm_4_1047 : ∀ w ∈ tl_4_1047, w ∈ lw_tbl := fun w h => tm_4_1046 w (List.mem_cons_of_mem _ h)
theorem w_1047 : Cond.methodLink RX11 170 yX11_isCorner ∈ gTB := gTB_of (tm_4_1047 _ List.mem_cons_self) rfl
theorem tm_4_1048 : ∀ w ∈ tl_4_1048, w ∈ lw_tbl := fun w h => tm_4_1047 w (List.mem_cons_of_mem _ h)
theorem w_1048 : Cond.static yX11_isCorner ∈ gTB := gTB_of (tm_4_1048 _ List.mem_cons_self) rfl
theorem tm_4_1049 : ∀ w ∈ tl_4_1049, w ∈ lw_tbl := fun w h => tm_4_1048 w (List.mem_cons_of_mem _ h)
theorem w_1049 : Cond.code yX11_isCorner cX11_isCorner 1 (some (.boolean)) ∈ gTB := gTB_of (tm_4_1049 _ List.mem_cons_self) rfl
theorem tm_4_1050 : ∀ w ∈ tl_4_1050, w ∈ lw_tbl := fun w h => tm_4_1049 w (List.mem_cons_of_mem _ h)
theorem w_1050 : Cond.methodLink RL 53 yX11_put ∈ gTB := gTB_of (tm_4_1050 _ List.mem_cons_self) rfl
theorem tm_4_1051 : ∀ w ∈ tl_4_1051, w ∈ lw_tbl := fun w h => tm_4_1050 w (List.mem_cons_of_mem _ h)
theorem w_1051 : Cond.instanceMethod yX11_put ∈ gTB := gTB_of (tm_4_1051 _ List.mem_cons_self) rfl
theorem tm_4_1052 : ∀ w ∈ tl_4_1052, w ∈ lw_tbl := fun w h => tm_4_1051 w (List.mem_cons_of_mem _ h)
theorem w_1052 : Cond.selects RX11 yX11_put yX11_put ∈ gTB := gTB_of (tm_4_1052 _ List.mem_cons_self) rfl
theorem tm_4_1053 : ∀ w ∈ tl_4_1053, w ∈ lw_tbl := fun w h => tm_4_1052 w (List.mem_cons_of_mem _ h)
theorem w_1053 : Cond.code yX11_put cX11_put 6 (some (.int)) ∈ gTB := gTB_of (tm_4_1053 _ List.mem_cons_self) rfl
theorem tm_4_1054 : ∀ w ∈ tl_4_1054, w ∈ lw_tbl := fun w h => tm_4_1053 w (List.mem_cons_of_mem _ h)
theorem w_1054 : Cond.methodLink RL 57 yX11_told ∈ gTB := gTB_of (tm_4_1054 _ List.mem_cons_self) rfl
theorem tm_4_1055 : ∀ w ∈ tl_4_1055, w ∈ lw_tbl := fun w h => tm_4_1054 w (List.mem_cons_of_mem _ h)
theorem w_1055 : Cond.instanceMethod yX11_told ∈ gTB := gTB_of (tm_4_1055 _ List.mem_cons_self) rfl
theorem tm_4_1056 : ∀ w ∈ tl_4_1056, w ∈ lw_tbl := fun w h => tm_4_1055 w (List.mem_cons_of_mem _ h)
theorem w_1056 : Cond.selects RX11 yX11_told yX11_told ∈ gTB := gTB_of (tm_4_1056 _ List.mem_cons_self) rfl
theorem tm_4_1057 : ∀ w ∈ tl_4_1057, w ∈ lw_tbl := fun w h => tm_4_1056 w (List.mem_cons_of_mem _ h)
theorem w_1057 : Cond.code yX11_told cX11_told 3 (some (.int)) ∈ gTB := gTB_of (tm_4_1057 _ List.mem_cons_self) rfl
theorem tm_4_1058 : ∀ w ∈ tl_4_1058, w ∈ lw_tbl := fun w h => tm_4_1057 w (List.mem_cons_of_mem _ h)
theorem w_1058 : Cond.methodLink RX11 185 yX11_wishSet ∈ gTB := gTB_of (tm_4_1058 _ List.mem_cons_self) rfl
theorem tm_4_1059 : ∀ w ∈ tl_4_1059, w ∈ lw_tbl := fun w h => tm_4_1058 w (List.mem_cons_of_mem _ h)
theorem tm_4_1060 : ∀ w ∈ tl_4_1060, w ∈ lw_tbl := fun w h => tm_4_1059 w (List.mem_cons_of_mem _ h)
theorem w_1060 : Cond.instanceMethod yX11_wishSet ∈ gTB := gTB_of (tm_4_1060 _ List.mem_cons_self) rfl
theorem tm_4_1061 : ∀ w ∈ tl_4_1061, w ∈ lw_tbl := fun w h => tm_4_1060 w (List.mem_cons_of_mem _ h)
theorem w_1061 : Cond.code yX11_wishSet cX11_wishSet 5 (some (.int)) ∈ gTB := gTB_of (tm_4_1061 _ List.mem_cons_self) rfl
theorem tm_4_1062 : ∀ w ∈ tl_4_1062, w ∈ lw_tbl := fun w h => tm_4_1061 w (List.mem_cons_of_mem _ h)
theorem w_1062 : Cond.methodLink RX11 191 yX11_goesOf ∈ gTB := gTB_of (tm_4_1062 _ List.mem_cons_self) rfl
theorem tm_4_1063 : ∀ w ∈ tl_4_1063, w ∈ lw_tbl := fun w h => tm_4_1062 w (List.mem_cons_of_mem _ h)
theorem tm_4_1064 : ∀ w ∈ tl_4_1064, w ∈ lw_tbl := fun w h => tm_4_1063 w (List.mem_cons_of_mem _ h)
theorem w_1064 : Cond.instanceMethod yX11_goesOf ∈ gTB := gTB_of (tm_4_1064 _ List.mem_cons_self) rfl
theorem tm_4_1065 : ∀ w ∈ tl_4_1065, w ∈ lw_tbl := fun w h => tm_4_1064 w (List.mem_cons_of_mem _ h)
theorem w_1065 : Cond.code yX11_goesOf cX11_goesOf 3 (some (.int)) ∈ gTB := gTB_of (tm_4_1065 _ List.mem_cons_self) rfl
theorem tm_4_1066 : ∀ w ∈ tl_4_1066, w ∈ lw_tbl := fun w h => tm_4_1065 w (List.mem_cons_of_mem _ h)
theorem w_1066 : Cond.methodLink RL 61 yX11_ring ∈ gTB := gTB_of (tm_4_1066 _ List.mem_cons_self) rfl
theorem tm_4_1067 : ∀ w ∈ tl_4_1067, w ∈ lw_tbl := fun w h => tm_4_1066 w (List.mem_cons_of_mem _ h)
theorem w_1067 : Cond.instanceMethod yX11_ring ∈ gTB := gTB_of (tm_4_1067 _ List.mem_cons_self) rfl
theorem tm_4_1068 : ∀ w ∈ tl_4_1068, w ∈ lw_tbl := fun w h => tm_4_1067 w (List.mem_cons_of_mem _ h)
theorem w_1068 : Cond.selects RX11 yX11_ring yX11_ring ∈ gTB := gTB_of (tm_4_1068 _ List.mem_cons_self) rfl
theorem tm_4_1069 : ∀ w ∈ tl_4_1069, w ∈ lw_tbl := fun w h => tm_4_1068 w (List.mem_cons_of_mem _ h)
theorem w_1069 : Cond.code yX11_ring cX11_ring 3 (some (.int)) ∈ gTB := gTB_of (tm_4_1069 _ List.mem_cons_self) rfl
theorem tm_4_1070 : ∀ w ∈ tl_4_1070, w ∈ lw_tbl := fun w h => tm_4_1069 w (List.mem_cons_of_mem _ h)
theorem w_1070 : Cond.methodLink RX11 197 yX11_whoAt ∈ gTB := gTB_of (tm_4_1070 _ List.mem_cons_self) rfl
theorem tm_4_1071 : ∀ w ∈ tl_4_1071, w ∈ lw_tbl := fun w h => tm_4_1070 w (List.mem_cons_of_mem _ h)
theorem tm_4_1072 : ∀ w ∈ tl_4_1072, w ∈ lw_tbl := fun w h => tm_4_1071 w (List.mem_cons_of_mem _ h)
theorem w_1072 : Cond.instanceMethod yX11_whoAt ∈ gTB := gTB_of (tm_4_1072 _ List.mem_cons_self) rfl
theorem tm_4_1073 : ∀ w ∈ tl_4_1073, w ∈ lw_tbl := fun w h => tm_4_1072 w (List.mem_cons_of_mem _ h)
theorem w_1073 : Cond.code yX11_whoAt cX11_whoAt 4 (some (.int)) ∈ gTB := gTB_of (tm_4_1073 _ List.mem_cons_self) rfl
theorem tm_4_1074 : ∀ w ∈ tl_4_1074, w ∈ lw_tbl := fun w h => tm_4_1073 w (List.mem_cons_of_mem _ h)
theorem w_1074 : Cond.methodLink RX11 200 yX11_listeners ∈ gTB := gTB_of (tm_4_1074 _ List.mem_cons_self) rfl
theorem tm_4_1075 : ∀ w ∈ tl_4_1075, w ∈ lw_tbl := fun w h => tm_4_1074 w (List.mem_cons_of_mem _ h)
theorem tm_4_1076 : ∀ w ∈ tl_4_1076, w ∈ lw_tbl := fun w h => tm_4_1075 w (List.mem_cons_of_mem _ h)
theorem w_1076 : Cond.instanceMethod yX11_listeners ∈ gTB := gTB_of (tm_4_1076 _ List.mem_cons_self) rfl
theorem tm_4_1077 : ∀ w ∈ tl_4_1077, w ∈ lw_tbl := fun w h => tm_4_1076 w (List.mem_cons_of_mem _ h)
theorem w_1077 : Cond.code yX11_listeners cX11_listeners 4 (some (.int)) ∈ gTB := gTB_of (tm_4_1077 _ List.mem_cons_self) rfl
theorem tm_4_1078 : ∀ w ∈ tl_4_1078, w ∈ lw_tbl := fun w h => tm_4_1077 w (List.mem_cons_of_mem _ h)
theorem w_1078 : Cond.methodLink RX11 203 yX11_maySet ∈ gTB := gTB_of (tm_4_1078 _ List.mem_cons_self) rfl
theorem tm_4_1079 : ∀ w ∈ tl_4_1079, w ∈ lw_tbl := fun w h => tm_4_1078 w (List.mem_cons_of_mem _ h)
theorem tm_4_1080 : ∀ w ∈ tl_4_1080, w ∈ lw_tbl := fun w h => tm_4_1079 w (List.mem_cons_of_mem _ h)
theorem w_1080 : Cond.instanceMethod yX11_maySet ∈ gTB := gTB_of (tm_4_1080 _ List.mem_cons_self) rfl
theorem tm_4_1081 : ∀ w ∈ tl_4_1081, w ∈ lw_tbl := fun w h => tm_4_1080 w (List.mem_cons_of_mem _ h)
theorem w_1081 : Cond.code yX11_maySet cX11_maySet 5 (some (.int)) ∈ gTB := gTB_of (tm_4_1081 _ List.mem_cons_self) rfl
theorem tm_4_1082 : ∀ w ∈ tl_4_1082, w ∈ lw_tbl := fun w h => tm_4_1081 w (List.mem_cons_of_mem _ h)
theorem w_1082 : Cond.methodLink RL 65 yX11_hour ∈ gTB := gTB_of (tm_4_1082 _ List.mem_cons_self) rfl
theorem tm_4_1083 : ∀ w ∈ tl_4_1083, w ∈ lw_tbl := fun w h => tm_4_1082 w (List.mem_cons_of_mem _ h)
theorem w_1083 : Cond.instanceMethod yX11_hour ∈ gTB := gTB_of (tm_4_1083 _ List.mem_cons_self) rfl
theorem tm_4_1084 : ∀ w ∈ tl_4_1084, w ∈ lw_tbl := fun w h => tm_4_1083 w (List.mem_cons_of_mem _ h)
theorem w_1084 : Cond.selects RX11 yX11_hour yX11_hour ∈ gTB := gTB_of (tm_4_1084 _ List.mem_cons_self) rfl
theorem tm_4_1085 : ∀ w ∈ tl_4_1085, w ∈ lw_tbl := fun w h => tm_4_1084 w (List.mem_cons_of_mem _ h)
theorem w_1085 : Cond.code yX11_hour cX11_hour 1 (some (.int)) ∈ gTB := gTB_of (tm_4_1085 _ List.mem_cons_self) rfl
theorem tm_4_1086 : ∀ w ∈ tl_4_1086, w ∈ lw_tbl := fun w h => tm_4_1085 w (List.mem_cons_of_mem _ h)
theorem w_1086 : Cond.methodLink RX11 209 yX11_hourOf ∈ gTB := gTB_of (tm_4_1086 _ List.mem_cons_self) rfl
theorem tm_4_1087 : ∀ w ∈ tl_4_1087, w ∈ lw_tbl := fun w h => tm_4_1086 w (List.mem_cons_of_mem _ h)
theorem tm_4_1088 : ∀ w ∈ tl_4_1088, w ∈ lw_tbl := fun w h => tm_4_1087 w (List.mem_cons_of_mem _ h)
theorem w_1088 : Cond.instanceMethod yX11_hourOf ∈ gTB := gTB_of (tm_4_1088 _ List.mem_cons_self) rfl
theorem tm_4_1089 : ∀ w ∈ tl_4_1089, w ∈ lw_tbl := fun w h => tm_4_1088 w (List.mem_cons_of_mem _ h)
theorem w_1089 : Cond.code yX11_hourOf cX11_hourOf 4 (some (.int)) ∈ gTB := gTB_of (tm_4_1089 _ List.mem_cons_self) rfl
theorem tm_4_1090 : ∀ w ∈ tl_4_1090, w ∈ lw_tbl := fun w h => tm_4_1089 w (List.mem_cons_of_mem _ h)
theorem w_1090 : Cond.methodLink RX11 206 yX11_knownToOthers ∈ gTB := gTB_of (tm_4_1090 _ List.mem_cons_self) rfl
theorem tm_4_1091 : ∀ w ∈ tl_4_1091, w ∈ lw_tbl := fun w h => tm_4_1090 w (List.mem_cons_of_mem _ h)
theorem tm_4_1092 : ∀ w ∈ tl_4_1092, w ∈ lw_tbl := fun w h => tm_4_1091 w (List.mem_cons_of_mem _ h)
theorem w_1092 : Cond.instanceMethod yX11_knownToOthers ∈ gTB := gTB_of (tm_4_1092 _ List.mem_cons_self) rfl
theorem tm_4_1093 : ∀ w ∈ tl_4_1093, w ∈ lw_tbl := fun w h => tm_4_1092 w (List.mem_cons_of_mem _ h)
theorem w_1093 : Cond.code yX11_knownToOthers cX11_knownToOthers 4 (some (.int)) ∈ gTB := gTB_of (tm_4_1093 _ List.mem_cons_self) rfl
theorem tm_4_1094 : ∀ w ∈ tl_4_1094, w ∈ lw_tbl := fun w h => tm_4_1093 w (List.mem_cons_of_mem _ h)
theorem w_1094 : Cond.methodLink RL 69 yX11_run ∈ gTB := gTB_of (tm_4_1094 _ List.mem_cons_self) rfl
theorem tm_4_1095 : ∀ w ∈ tl_4_1095, w ∈ lw_tbl := fun w h => tm_4_1094 w (List.mem_cons_of_mem _ h)
theorem w_1095 : Cond.instanceMethod yX11_run ∈ gTB := gTB_of (tm_4_1095 _ List.mem_cons_self) rfl
theorem tm_4_1096 : ∀ w ∈ tl_4_1096, w ∈ lw_tbl := fun w h => tm_4_1095 w (List.mem_cons_of_mem _ h)
theorem w_1096 : Cond.selects RX11 yX11_run yX11_run ∈ gTB := gTB_of (tm_4_1096 _ List.mem_cons_self) rfl
theorem tm_4_1097 : ∀ w ∈ tl_4_1097, w ∈ lw_tbl := fun w h => tm_4_1096 w (List.mem_cons_of_mem _ h)
theorem w_1097 : Cond.code yX11_run cX11_run 5 (some (.int)) ∈ gTB := gTB_of (tm_4_1097 _ List.mem_cons_self) rfl
theorem tm_4_1098 : ∀ w ∈ tl_4_1098, w ∈ lw_tbl := fun w h => tm_4_1097 w (List.mem_cons_of_mem _ h)
theorem w_1098 : Cond.methodLink RX11 212 yX11_keeps ∈ gTB := gTB_of (tm_4_1098 _ List.mem_cons_self) rfl
theorem tm_4_1099 : ∀ w ∈ tl_4_1099, w ∈ lw_tbl := fun w h => tm_4_1098 w (List.mem_cons_of_mem _ h)
theorem tm_4_1100 : ∀ w ∈ tl_4_1100, w ∈ lw_tbl := fun w h => tm_4_1099 w (List.mem_cons_of_mem _ h)
theorem w_1100 : Cond.instanceMethod yX11_keeps ∈ gTB := gTB_of (tm_4_1100 _ List.mem_cons_self) rfl
theorem tm_4_1101 : ∀ w ∈ tl_4_1101, w ∈ lw_tbl := fun w h => tm_4_1100 w (List.mem_cons_of_mem _ h)
theorem w_1101 : Cond.code yX11_keeps cX11_keeps 2 (none) ∈ gTB := gTB_of (tm_4_1101 _ List.mem_cons_self) rfl
theorem tm_4_1102 : ∀ w ∈ tl_4_1102, w ∈ lw_tbl := fun w h => tm_4_1101 w (List.mem_cons_of_mem _ h)
theorem w_1102 : Cond.methodLink RX11 215 yX11_goes ∈ gTB := gTB_of (tm_4_1102 _ List.mem_cons_self) rfl
theorem tm_4_1103 : ∀ w ∈ tl_4_1103, w ∈ lw_tbl := fun w h => tm_4_1102 w (List.mem_cons_of_mem _ h)
theorem tm_4_1104 : ∀ w ∈ tl_4_1104, w ∈ lw_tbl := fun w h => tm_4_1103 w (List.mem_cons_of_mem _ h)
theorem w_1104 : Cond.instanceMethod yX11_goes ∈ gTB := gTB_of (tm_4_1104 _ List.mem_cons_self) rfl
theorem tm_4_1105 : ∀ w ∈ tl_4_1105, w ∈ lw_tbl := fun w h => tm_4_1104 w (List.mem_cons_of_mem _ h)
theorem w_1105 : Cond.code yX11_goes cX11_goes 4 (some (.int)) ∈ gTB := gTB_of (tm_4_1105 _ List.mem_cons_self) rfl
theorem tm_4_1106 : ∀ w ∈ tl_4_1106, w ∈ lw_tbl := fun w h => tm_4_1105 w (List.mem_cons_of_mem _ h)
theorem w_1106 : Cond.methodLink RX11 221 yX11_knownAll ∈ gTB := gTB_of (tm_4_1106 _ List.mem_cons_self) rfl
theorem tm_4_1107 : ∀ w ∈ tl_4_1107, w ∈ lw_tbl := fun w h => tm_4_1106 w (List.mem_cons_of_mem _ h)
theorem tm_4_1108 : ∀ w ∈ tl_4_1108, w ∈ lw_tbl := fun w h => tm_4_1107 w (List.mem_cons_of_mem _ h)
theorem w_1108 : Cond.instanceMethod yX11_knownAll ∈ gTB := gTB_of (tm_4_1108 _ List.mem_cons_self) rfl
theorem tm_4_1109 : ∀ w ∈ tl_4_1109, w ∈ lw_tbl := fun w h => tm_4_1108 w (List.mem_cons_of_mem _ h)
theorem w_1109 : Cond.code yX11_knownAll cX11_knownAll 3 (some (.int)) ∈ gTB := gTB_of (tm_4_1109 _ List.mem_cons_self) rfl
theorem tm_4_1110 : ∀ w ∈ tl_4_1110, w ∈ lw_tbl := fun w h => tm_4_1109 w (List.mem_cons_of_mem _ h)
theorem w_1110 : Cond.methodLink RX11 218 yX11_lays ∈ gTB := gTB_of (tm_4_1110 _ List.mem_cons_self) rfl
theorem tm_4_1111 : ∀ w ∈ tl_4_1111, w ∈ lw_tbl := fun w h => tm_4_1110 w (List.mem_cons_of_mem _ h)
theorem tm_4_1112 : ∀ w ∈ tl_4_1112, w ∈ lw_tbl := fun w h => tm_4_1111 w (List.mem_cons_of_mem _ h)
theorem w_1112 : Cond.instanceMethod yX11_lays ∈ gTB := gTB_of (tm_4_1112 _ List.mem_cons_self) rfl
theorem tm_4_1113 : ∀ w ∈ tl_4_1113, w ∈ lw_tbl := fun w h => tm_4_1112 w (List.mem_cons_of_mem _ h)
theorem w_1113 : Cond.code yX11_lays cX11_lays 2 (none) ∈ gTB := gTB_of (tm_4_1113 _ List.mem_cons_self) rfl
theorem tm_4_1114 : ∀ w ∈ tl_4_1114, w ∈ lw_tbl := fun w h => tm_4_1113 w (List.mem_cons_of_mem _ h)
theorem w_1114 : Cond.methodLink RL 73 yX11_when ∈ gTB := gTB_of (tm_4_1114 _ List.mem_cons_self) rfl
theorem tm_4_1115 : ∀ w ∈ tl_4_1115, w ∈ lw_tbl := fun w h => tm_4_1114 w (List.mem_cons_of_mem _ h)
theorem w_1115 : Cond.instanceMethod yX11_when ∈ gTB := gTB_of (tm_4_1115 _ List.mem_cons_self) rfl
theorem tm_4_1116 : ∀ w ∈ tl_4_1116, w ∈ lw_tbl := fun w h => tm_4_1115 w (List.mem_cons_of_mem _ h)
theorem w_1116 : Cond.selects RX11 yX11_when yX11_when ∈ gTB := gTB_of (tm_4_1116 _ List.mem_cons_self) rfl
theorem tm_4_1117 : ∀ w ∈ tl_4_1117, w ∈ lw_tbl := fun w h => tm_4_1116 w (List.mem_cons_of_mem _ h)
theorem w_1117 : Cond.code yX11_when cX11_when 4 (some (.int)) ∈ gTB := gTB_of (tm_4_1117 _ List.mem_cons_self) rfl
theorem tm_4_1118 : ∀ w ∈ tl_4_1118, w ∈ lw_tbl := fun w h => tm_4_1117 w (List.mem_cons_of_mem _ h)
theorem w_1118 : Cond.methodLink RX11 224 yX11_isNow ∈ gTB := gTB_of (tm_4_1118 _ List.mem_cons_self) rfl
theorem tm_4_1119 : ∀ w ∈ tl_4_1119, w ∈ lw_tbl := fun w h => tm_4_1118 w (List.mem_cons_of_mem _ h)
theorem tm_4_1120 : ∀ w ∈ tl_4_1120, w ∈ lw_tbl := fun w h => tm_4_1119 w (List.mem_cons_of_mem _ h)
theorem w_1120 : Cond.instanceMethod yX11_isNow ∈ gTB := gTB_of (tm_4_1120 _ List.mem_cons_self) rfl
theorem tm_4_1121 : ∀ w ∈ tl_4_1121, w ∈ lw_tbl := fun w h => tm_4_1120 w (List.mem_cons_of_mem _ h)
theorem w_1121 : Cond.code yX11_isNow cX11_isNow 3 (some (.boolean)) ∈ gTB := gTB_of (tm_4_1121 _ List.mem_cons_self) rfl
theorem tm_4_1122 : ∀ w ∈ tl_4_1122, w ∈ lw_tbl := fun w h => tm_4_1121 w (List.mem_cons_of_mem _ h)
theorem w_1122 : Cond.methodLink RL 77 yX11_where ∈ gTB := gTB_of (tm_4_1122 _ List.mem_cons_self) rfl
theorem tm_4_1123 : ∀ w ∈ tl_4_1123, w ∈ lw_tbl := fun w h => tm_4_1122 w (List.mem_cons_of_mem _ h)
theorem w_1123 : Cond.instanceMethod yX11_where ∈ gTB := gTB_of (tm_4_1123 _ List.mem_cons_self) rfl
theorem tm_4_1124 : ∀ w ∈ tl_4_1124, w ∈ lw_tbl := fun w h => tm_4_1123 w (List.mem_cons_of_mem _ h)
theorem w_1124 : Cond.selects RX11 yX11_where yX11_where ∈ gTB := gTB_of (tm_4_1124 _ List.mem_cons_self) rfl
theorem tm_4_1125 : ∀ w ∈ tl_4_1125, w ∈ lw_tbl := fun w h => tm_4_1124 w (List.mem_cons_of_mem _ h)
theorem w_1125 : Cond.code yX11_where cX11_where 6 (some (.int)) ∈ gTB := gTB_of (tm_4_1125 _ List.mem_cons_self) rfl
theorem tm_4_1126 : ∀ w ∈ tl_4_1126, w ∈ lw_tbl := fun w h => tm_4_1125 w (List.mem_cons_of_mem _ h)
theorem w_1126 : Cond.methodLink RL 81 yX11_begin ∈ gTB := gTB_of (tm_4_1126 _ List.mem_cons_self) rfl
theorem tm_4_1127 : ∀ w ∈ tl_4_1127, w ∈ lw_tbl := fun w h => tm_4_1126 w (List.mem_cons_of_mem _ h)
theorem w_1127 : Cond.instanceMethod yX11_begin ∈ gTB := gTB_of (tm_4_1127 _ List.mem_cons_self) rfl
theorem tm_4_1128 : ∀ w ∈ tl_4_1128, w ∈ lw_tbl := fun w h => tm_4_1127 w (List.mem_cons_of_mem _ h)
theorem w_1128 : Cond.selects RX11 yX11_begin yX11_begin ∈ gTB := gTB_of (tm_4_1128 _ List.mem_cons_self) rfl
theorem tm_4_1129 : ∀ w ∈ tl_4_1129, w ∈ lw_tbl := fun w h => tm_4_1128 w (List.mem_cons_of_mem _ h)
theorem w_1129 : Cond.code yX11_begin cX11_begin 8 (some (.int)) ∈ gTB := gTB_of (tm_4_1129 _ List.mem_cons_self) rfl
theorem tm_4_1130 : ∀ w ∈ tl_4_1130, w ∈ lw_tbl := fun w h => tm_4_1129 w (List.mem_cons_of_mem _ h)
theorem w_1130 : Cond.methodLink RX11 227 yX11_criedIn ∈ gTB := gTB_of (tm_4_1130 _ List.mem_cons_self) rfl
theorem tm_4_1131 : ∀ w ∈ tl_4_1131, w ∈ lw_tbl := fun w h => tm_4_1130 w (List.mem_cons_of_mem _ h)
theorem tm_4_1132 : ∀ w ∈ tl_4_1132, w ∈ lw_tbl := fun w h => tm_4_1131 w (List.mem_cons_of_mem _ h)
theorem w_1132 : Cond.instanceMethod yX11_criedIn ∈ gTB := gTB_of (tm_4_1132 _ List.mem_cons_self) rfl
theorem tm_4_1133 : ∀ w ∈ tl_4_1133, w ∈ lw_tbl := fun w h => tm_4_1132 w (List.mem_cons_of_mem _ h)
theorem w_1133 : Cond.code yX11_criedIn cX11_criedIn 3 (some (.int)) ∈ gTB := gTB_of (tm_4_1133 _ List.mem_cons_self) rfl
theorem tm_4_1134 : ∀ w ∈ tl_4_1134, w ∈ lw_tbl := fun w h => tm_4_1133 w (List.mem_cons_of_mem _ h)
theorem w_1134 : Cond.methodLink RL 85 yX11_windows ∈ gTB := gTB_of (tm_4_1134 _ List.mem_cons_self) rfl
theorem tm_4_1135 : ∀ w ∈ tl_4_1135, w ∈ lw_tbl := fun w h => tm_4_1134 w (List.mem_cons_of_mem _ h)
theorem w_1135 : Cond.instanceMethod yX11_windows ∈ gTB := gTB_of (tm_4_1135 _ List.mem_cons_self) rfl
theorem tm_4_1136 : ∀ w ∈ tl_4_1136, w ∈ lw_tbl := fun w h => tm_4_1135 w (List.mem_cons_of_mem _ h)
theorem w_1136 : Cond.selects RX11 yX11_windows yX11_windows ∈ gTB := gTB_of (tm_4_1136 _ List.mem_cons_self) rfl
theorem tm_4_1137 : ∀ w ∈ tl_4_1137, w ∈ lw_tbl := fun w h => tm_4_1136 w (List.mem_cons_of_mem _ h)
theorem w_1137 : Cond.code yX11_windows cX11_windows 7 (some (.int)) ∈ gTB := gTB_of (tm_4_1137 _ List.mem_cons_self) rfl
theorem tm_4_1138 : ∀ w ∈ tl_4_1138, w ∈ lw_tbl := fun w h => tm_4_1137 w (List.mem_cons_of_mem _ h)
theorem w_1138 : Cond.methodLink RL 89 yX11_hush ∈ gTB := gTB_of (tm_4_1138 _ List.mem_cons_self) rfl
theorem tm_4_1139 : ∀ w ∈ tl_4_1139, w ∈ lw_tbl := fun w h => tm_4_1138 w (List.mem_cons_of_mem _ h)
theorem w_1139 : Cond.instanceMethod yX11_hush ∈ gTB := gTB_of (tm_4_1139 _ List.mem_cons_self) rfl
theorem tm_4_1140 : ∀ w ∈ tl_4_1140, w ∈ lw_tbl := fun w h => tm_4_1139 w (List.mem_cons_of_mem _ h)
theorem w_1140 : Cond.selects RX11 yX11_hush yX11_hush ∈ gTB := gTB_of (tm_4_1140 _ List.mem_cons_self) rfl
theorem tm_4_1141 : ∀ w ∈ tl_4_1141, w ∈ lw_tbl := fun w h => tm_4_1140 w (List.mem_cons_of_mem _ h)
theorem w_1141 : Cond.code yX11_hush cX11_hush 10 (some (.int)) ∈ gTB := gTB_of (tm_4_1141 _ List.mem_cons_self) rfl
theorem tm_4_1142 : ∀ w ∈ tl_4_1142, w ∈ lw_tbl := fun w h => tm_4_1141 w (List.mem_cons_of_mem _ h)
theorem w_1142 : Cond.methodLink RX11 230 yX11_isThing ∈ gTB := gTB_of (tm_4_1142 _ List.mem_cons_self) rfl
theorem tm_4_1143 : ∀ w ∈ tl_4_1143, w ∈ lw_tbl := fun w h => tm_4_1142 w (List.mem_cons_of_mem _ h)
theorem w_1143 : Cond.static yX11_isThing ∈ gTB := gTB_of (tm_4_1143 _ List.mem_cons_self) rfl
theorem tm_4_1144 : ∀ w ∈ tl_4_1144, w ∈ lw_tbl := fun w h => tm_4_1143 w (List.mem_cons_of_mem _ h)
theorem w_1144 : Cond.code yX11_isThing cX11_isThing 1 (some (.boolean)) ∈ gTB := gTB_of (tm_4_1144 _ List.mem_cons_self) rfl
theorem tm_4_1145 : ∀ w ∈ tl_4_1145, w ∈ lw_tbl := fun w h => tm_4_1144 w (List.mem_cons_of_mem _ h)
theorem w_1145 : Cond.methodLink RX11 233 yX11_mayHushed ∈ gTB := gTB_of (tm_4_1145 _ List.mem_cons_self) rfl
theorem tm_4_1146 : ∀ w ∈ tl_4_1146, w ∈ lw_tbl := fun w h => tm_4_1145 w (List.mem_cons_of_mem _ h)
theorem tm_4_1147 : ∀ w ∈ tl_4_1147, w ∈ lw_tbl := fun w h => tm_4_1146 w (List.mem_cons_of_mem _ h)
theorem w_1147 : Cond.instanceMethod yX11_mayHushed ∈ gTB := gTB_of (tm_4_1147 _ List.mem_cons_self) rfl
theorem tm_4_1148 : ∀ w ∈ tl_4_1148, w ∈ lw_tbl := fun w h => tm_4_1147 w (List.mem_cons_of_mem _ h)
theorem w_1148 : Cond.code yX11_mayHushed cX11_mayHushed 5 (some (.boolean)) ∈ gTB := gTB_of (tm_4_1148 _ List.mem_cons_self) rfl
theorem tm_4_1149 : ∀ w ∈ tl_4_1149, w ∈ lw_tbl := fun w h => tm_4_1148 w (List.mem_cons_of_mem _ h)
theorem w_1149 : Cond.methodLink RL 93 yX11_round ∈ gTB := gTB_of (tm_4_1149 _ List.mem_cons_self) rfl
theorem tm_4_1150 : ∀ w ∈ tl_4_1150, w ∈ lw_tbl := fun w h => tm_4_1149 w (List.mem_cons_of_mem _ h)
theorem w_1150 : Cond.instanceMethod yX11_round ∈ gTB := gTB_of (tm_4_1150 _ List.mem_cons_self) rfl
theorem tm_4_1151 : ∀ w ∈ tl_4_1151, w ∈ lw_tbl := fun w h => tm_4_1150 w (List.mem_cons_of_mem _ h)
theorem w_1151 : Cond.selects RX11 yX11_round yX11_round ∈ gTB := gTB_of (tm_4_1151 _ List.mem_cons_self) rfl
theorem tm_4_1152 : ∀ w ∈ tl_4_1152, w ∈ lw_tbl := fun w h => tm_4_1151 w (List.mem_cons_of_mem _ h)
theorem w_1152 : Cond.code yX11_round cX11_round 7 (some (.int)) ∈ gTB := gTB_of (tm_4_1152 _ List.mem_cons_self) rfl
theorem tm_4_1153 : ∀ w ∈ tl_4_1153, w ∈ lw_tbl := fun w h => tm_4_1152 w (List.mem_cons_of_mem _ h)
theorem w_1153 : Cond.methodLink RX11 236 yX11_toldBy ∈ gTB := gTB_of (tm_4_1153 _ List.mem_cons_self) rfl
theorem tm_4_1154 : ∀ w ∈ tl_4_1154, w ∈ lw_tbl := fun w h => tm_4_1153 w (List.mem_cons_of_mem _ h)
theorem tm_4_1155 : ∀ w ∈ tl_4_1155, w ∈ lw_tbl := fun w h => tm_4_1154 w (List.mem_cons_of_mem _ h)
theorem w_1155 : Cond.instanceMethod yX11_toldBy ∈ gTB := gTB_of (tm_4_1155 _ List.mem_cons_self) rfl
theorem tm_4_1156 : ∀ w ∈ tl_4_1156, w ∈ lw_tbl := fun w h => tm_4_1155 w (List.mem_cons_of_mem _ h)
theorem w_1156 : Cond.code yX11_toldBy cX11_toldBy 4 (some (.int)) ∈ gTB := gTB_of (tm_4_1156 _ List.mem_cons_self) rfl
theorem tm_4_1157 : ∀ w ∈ tl_4_1157, w ∈ lw_tbl := fun w h => tm_4_1156 w (List.mem_cons_of_mem _ h)
theorem w_1157 : Cond.methodLink RL 98 yX11_mean ∈ gTB := gTB_of (tm_4_1157 _ List.mem_cons_self) rfl
theorem tm_4_1158 : ∀ w ∈ tl_4_1158, w ∈ lw_tbl := fun w h => tm_4_1157 w (List.mem_cons_of_mem _ h)
theorem w_1158 : Cond.instanceMethod yX11_mean ∈ gTB := gTB_of (tm_4_1158 _ List.mem_cons_self) rfl
theorem tm_4_1159 : ∀ w ∈ tl_4_1159, w ∈ lw_tbl := fun w h => tm_4_1158 w (List.mem_cons_of_mem _ h)
theorem w_1159 : Cond.selects RX11 yX11_mean yX11_mean ∈ gTB := gTB_of (tm_4_1159 _ List.mem_cons_self) rfl
theorem tm_4_1160 : ∀ w ∈ tl_4_1160, w ∈ lw_tbl := fun w h => tm_4_1159 w (List.mem_cons_of_mem _ h)
theorem w_1160 : Cond.code yX11_mean cX11_mean 4 (some (.long)) ∈ gTB := gTB_of (tm_4_1160 _ List.mem_cons_self) rfl
theorem tm_4_1161 : ∀ w ∈ tl_4_1161, w ∈ lw_tbl := fun w h => tm_4_1160 w (List.mem_cons_of_mem _ h)
theorem w_1161 : Cond.methodLink RX11 239 yX11_lowest ∈ gTB := gTB_of (tm_4_1161 _ List.mem_cons_self) rfl
theorem tm_4_1162 : ∀ w ∈ tl_4_1162, w ∈ lw_tbl := fun w h => tm_4_1161 w (List.mem_cons_of_mem _ h)
theorem w_1162 : Cond.static yX11_lowest ∈ gTB := gTB_of (tm_4_1162 _ List.mem_cons_self) rfl
theorem tm_4_1163 : ∀ w ∈ tl_4_1163, w ∈ lw_tbl := fun w h => tm_4_1162 w (List.mem_cons_of_mem _ h)
theorem w_1163 : Cond.code yX11_lowest cX11_lowest 11 (some (.long)) ∈ gTB := gTB_of (tm_4_1163 _ List.mem_cons_self) rfl
theorem tm_4_1164 : ∀ w ∈ tl_4_1164, w ∈ lw_tbl := fun w h => tm_4_1163 w (List.mem_cons_of_mem _ h)
theorem w_1164 : Cond.constantLong RX11 243 (-4611686018427387904 : Int64) ∈ gTB := gTB_of (tm_4_1164 _ List.mem_cons_self) rfl
theorem tm_4_1165 : ∀ w ∈ tl_4_1165, w ∈ lw_tbl := fun w h => tm_4_1164 w (List.mem_cons_of_mem _ h)
theorem w_1165 : Cond.methodLink RL 102 yX11_judge ∈ gTB := gTB_of (tm_4_1165 _ List.mem_cons_self) rfl
theorem tm_4_1166 : ∀ w ∈ tl_4_1166, w ∈ lw_tbl := fun w h => tm_4_1165 w (List.mem_cons_of_mem _ h)
theorem w_1166 : Cond.instanceMethod yX11_judge ∈ gTB := gTB_of (tm_4_1166 _ List.mem_cons_self) rfl
theorem tm_4_1167 : ∀ w ∈ tl_4_1167, w ∈ lw_tbl := fun w h => tm_4_1166 w (List.mem_cons_of_mem _ h)
theorem w_1167 : Cond.selects RX11 yX11_judge yX11_judge ∈ gTB := gTB_of (tm_4_1167 _ List.mem_cons_self) rfl
theorem tm_4_1168 : ∀ w ∈ tl_4_1168, w ∈ lw_tbl := fun w h => tm_4_1167 w (List.mem_cons_of_mem _ h)
theorem w_1168 : Cond.code yX11_judge cX11_judge 3 (some (.int)) ∈ gTB := gTB_of (tm_4_1168 _ List.mem_cons_self) rfl
theorem tm_4_1169 : ∀ w ∈ tl_4_1169, w ∈ lw_tbl := fun w h => tm_4_1168 w (List.mem_cons_of_mem _ h)
theorem w_1169 : Cond.methodLink RX11 245 yX11_sheetWrong ∈ gTB := gTB_of (tm_4_1169 _ List.mem_cons_self) rfl
theorem tm_4_1170 : ∀ w ∈ tl_4_1170, w ∈ lw_tbl := fun w h => tm_4_1169 w (List.mem_cons_of_mem _ h)
theorem tm_4_1171 : ∀ w ∈ tl_4_1171, w ∈ lw_tbl := fun w h => tm_4_1170 w (List.mem_cons_of_mem _ h)
theorem w_1171 : Cond.instanceMethod yX11_sheetWrong ∈ gTB := gTB_of (tm_4_1171 _ List.mem_cons_self) rfl
theorem tm_4_1172 : ∀ w ∈ tl_4_1172, w ∈ lw_tbl := fun w h => tm_4_1171 w (List.mem_cons_of_mem _ h)
theorem w_1172 : Cond.code yX11_sheetWrong cX11_sheetWrong 2 (some (.int)) ∈ gTB := gTB_of (tm_4_1172 _ List.mem_cons_self) rfl
theorem tm_4_1173 : ∀ w ∈ tl_4_1173, w ∈ lw_tbl := fun w h => tm_4_1172 w (List.mem_cons_of_mem _ h)
theorem w_1173 : Cond.methodLink RX11 248 yX11_unlike ∈ gTB := gTB_of (tm_4_1173 _ List.mem_cons_self) rfl
theorem tm_4_1174 : ∀ w ∈ tl_4_1174, w ∈ lw_tbl := fun w h => tm_4_1173 w (List.mem_cons_of_mem _ h)
theorem tm_4_1175 : ∀ w ∈ tl_4_1175, w ∈ lw_tbl := fun w h => tm_4_1174 w (List.mem_cons_of_mem _ h)
theorem w_1175 : Cond.instanceMethod yX11_unlike ∈ gTB := gTB_of (tm_4_1175 _ List.mem_cons_self) rfl
theorem tm_4_1176 : ∀ w ∈ tl_4_1176, w ∈ lw_tbl := fun w h => tm_4_1175 w (List.mem_cons_of_mem _ h)
theorem w_1176 : Cond.code yX11_unlike cX11_unlike 4 (some (.int)) ∈ gTB := gTB_of (tm_4_1176 _ List.mem_cons_self) rfl
theorem tm_4_1177 : ∀ w ∈ tl_4_1177, w ∈ lw_tbl := fun w h => tm_4_1176 w (List.mem_cons_of_mem _ h)
theorem w_1177 : Cond.methodLink RL 106 yX11_kinds ∈ gTB := gTB_of (tm_4_1177 _ List.mem_cons_self) rfl
theorem tm_4_1178 : ∀ w ∈ tl_4_1178, w ∈ lw_tbl := fun w h => tm_4_1177 w (List.mem_cons_of_mem _ h)
theorem w_1178 : Cond.instanceMethod yX11_kinds ∈ gTB := gTB_of (tm_4_1178 _ List.mem_cons_self) rfl
theorem tm_4_1179 : ∀ w ∈ tl_4_1179, w ∈ lw_tbl := fun w h => tm_4_1178 w (List.mem_cons_of_mem _ h)
theorem w_1179 : Cond.selects RX11 yX11_kinds yX11_kinds ∈ gTB := gTB_of (tm_4_1179 _ List.mem_cons_self) rfl
theorem tm_4_1180 : ∀ w ∈ tl_4_1180, w ∈ lw_tbl := fun w h => tm_4_1179 w (List.mem_cons_of_mem _ h)
theorem w_1180 : Cond.code yX11_kinds cX11_kinds 9 (some (.int)) ∈ gTB := gTB_of (tm_4_1180 _ List.mem_cons_self) rfl
theorem tm_4_1181 : ∀ w ∈ tl_4_1181, w ∈ lw_tbl := fun w h => tm_4_1180 w (List.mem_cons_of_mem _ h)
theorem w_1181 : Cond.methodLink RL 110 yX11_corners ∈ gTB := gTB_of (tm_4_1181 _ List.mem_cons_self) rfl
theorem tm_4_1182 : ∀ w ∈ tl_4_1182, w ∈ lw_tbl := fun w h => tm_4_1181 w (List.mem_cons_of_mem _ h)
theorem w_1182 : Cond.instanceMethod yX11_corners ∈ gTB := gTB_of (tm_4_1182 _ List.mem_cons_self) rfl
theorem tm_4_1183 : ∀ w ∈ tl_4_1183, w ∈ lw_tbl := fun w h => tm_4_1182 w (List.mem_cons_of_mem _ h)
theorem w_1183 : Cond.selects RX11 yX11_corners yX11_corners ∈ gTB := gTB_of (tm_4_1183 _ List.mem_cons_self) rfl
theorem tm_4_1184 : ∀ w ∈ tl_4_1184, w ∈ lw_tbl := fun w h => tm_4_1183 w (List.mem_cons_of_mem _ h)
theorem w_1184 : Cond.code yX11_corners cX11_corners 7 (some (.int)) ∈ gTB := gTB_of (tm_4_1184 _ List.mem_cons_self) rfl
theorem tm_4_1185 : ∀ w ∈ tl_4_1185, w ∈ lw_tbl := fun w h => tm_4_1184 w (List.mem_cons_of_mem _ h)
theorem w_1185 : Cond.methodLink RL 114 yX11_turned ∈ gTB := gTB_of (tm_4_1185 _ List.mem_cons_self) rfl
theorem tm_4_1186 : ∀ w ∈ tl_4_1186, w ∈ lw_tbl := fun w h => tm_4_1185 w (List.mem_cons_of_mem _ h)
theorem w_1186 : Cond.instanceMethod yX11_turned ∈ gTB := gTB_of (tm_4_1186 _ List.mem_cons_self) rfl
theorem tm_4_1187 : ∀ w ∈ tl_4_1187, w ∈ lw_tbl := fun w h => tm_4_1186 w (List.mem_cons_of_mem _ h)
theorem w_1187 : Cond.selects RX11 yX11_turned yX11_turned ∈ gTB := gTB_of (tm_4_1187 _ List.mem_cons_self) rfl
theorem tm_4_1188 : ∀ w ∈ tl_4_1188, w ∈ lw_tbl := fun w h => tm_4_1187 w (List.mem_cons_of_mem _ h)
theorem w_1188 : Cond.code yX11_turned cX11_turned 7 (some (.int)) ∈ gTB := gTB_of (tm_4_1188 _ List.mem_cons_self) rfl
theorem tm_4_1189 : ∀ w ∈ tl_4_1189, w ∈ lw_tbl := fun w h => tm_4_1188 w (List.mem_cons_of_mem _ h)
theorem w_1189 : Cond.methodLink RL 118 yX11_evils ∈ gTB := gTB_of (tm_4_1189 _ List.mem_cons_self) rfl
theorem tm_4_1190 : ∀ w ∈ tl_4_1190, w ∈ lw_tbl := fun w h => tm_4_1189 w (List.mem_cons_of_mem _ h)
theorem w_1190 : Cond.instanceMethod yX11_evils ∈ gTB := gTB_of (tm_4_1190 _ List.mem_cons_self) rfl
theorem tm_4_1191 : ∀ w ∈ tl_4_1191, w ∈ lw_tbl := fun w h => tm_4_1190 w (List.mem_cons_of_mem _ h)
theorem w_1191 : Cond.selects RX11 yX11_evils yX11_evils ∈ gTB := gTB_of (tm_4_1191 _ List.mem_cons_self) rfl
theorem tm_4_1192 : ∀ w ∈ tl_4_1192, w ∈ lw_tbl := fun w h => tm_4_1191 w (List.mem_cons_of_mem _ h)
theorem w_1192 : Cond.code yX11_evils cX11_evils 10 (some (.int)) ∈ gTB := gTB_of (tm_4_1192 _ List.mem_cons_self) rfl
theorem tm_4_1193 : ∀ w ∈ tl_4_1193, w ∈ lw_tbl := fun w h => tm_4_1192 w (List.mem_cons_of_mem _ h)
theorem w_1193 : Cond.methodLink RL 122 yX11_laws ∈ gTB := gTB_of (tm_4_1193 _ List.mem_cons_self) rfl
theorem tm_4_1194 : ∀ w ∈ tl_4_1194, w ∈ lw_tbl := fun w h => tm_4_1193 w (List.mem_cons_of_mem _ h)
theorem w_1194 : Cond.instanceMethod yX11_laws ∈ gTB := gTB_of (tm_4_1194 _ List.mem_cons_self) rfl
theorem tm_4_1195 : ∀ w ∈ tl_4_1195, w ∈ lw_tbl := fun w h => tm_4_1194 w (List.mem_cons_of_mem _ h)
theorem w_1195 : Cond.selects RX11 yX11_laws yX11_laws ∈ gTB := gTB_of (tm_4_1195 _ List.mem_cons_self) rfl
theorem tm_4_1196 : ∀ w ∈ tl_4_1196, w ∈ lw_tbl := fun w h => tm_4_1195 w (List.mem_cons_of_mem _ h)
theorem w_1196 : Cond.code yX11_laws cX11_laws 6 (some (.int)) ∈ gTB := gTB_of (tm_4_1196 _ List.mem_cons_self) rfl
theorem tm_4_1197 : ∀ w ∈ tl_4_1197, w ∈ lw_tbl := fun w h => tm_4_1196 w (List.mem_cons_of_mem _ h)
theorem w_1197 : Cond.methodLink RL 126 yX11_film ∈ gTB := gTB_of (tm_4_1197 _ List.mem_cons_self) rfl
theorem tm_4_1198 : ∀ w ∈ tl_4_1198, w ∈ lw_tbl := fun w h => tm_4_1197 w (List.mem_cons_of_mem _ h)
theorem w_1198 : Cond.instanceMethod yX11_film ∈ gTB := gTB_of (tm_4_1198 _ List.mem_cons_self) rfl
theorem tm_4_1199 : ∀ w ∈ tl_4_1199, w ∈ lw_tbl := fun w h => tm_4_1198 w (List.mem_cons_of_mem _ h)
theorem w_1199 : Cond.selects RX11 yX11_film yX11_film ∈ gTB := gTB_of (tm_4_1199 _ List.mem_cons_self) rfl
def tl_5_1261 : List Cond := []
def tl_5_1260 : List Cond := (Cond.fieldLink "java/lang/String" 15 "java/lang/String" "coder" "B") :: tl_5_1261
def tl_5_1259 : List Cond := (Cond.fieldLink "java/lang/String" 9 "java/lang/String" "value" "[B") :: tl_5_1260
def tl_5_1258 : List Cond := ((Jvm.Cond.castable "CrierOfBorough$Stranger" "CrierOfBorough$Citizen")) :: tl_5_1259
def tl_5_1257 : List Cond := ((Jvm.Cond.castable "CrierOfBorough$Hummer" "CrierOfBorough$Citizen")) :: tl_5_1258
def tl_5_1256 : List Cond := ((Jvm.Cond.castable "CrierOfBorough$Wife" "CrierOfBorough$Citizen")) :: tl_5_1257
def tl_5_1255 : List Cond := ((Jvm.Cond.castable "CrierOfBorough$Deaf" "CrierOfBorough$Citizen")) :: tl_5_1256
def tl_5_1254 : List Cond := ((Jvm.Cond.castable "CrierOfBorough$Mother" "CrierOfBorough$Citizen")) :: tl_5_1255
def tl_5_1253 : List Cond := (Cond.sameMethod "CrierOfBorough$Mother" "CrierOfBorough$Mother" "isOf" "(I)Z") :: tl_5_1254
def tl_5_1252 : List Cond := (Cond.sameMethod "CrierOfBorough$Deaf" "CrierOfBorough$Deaf" "isOf" "(I)Z") :: tl_5_1253
def tl_5_1251 : List Cond := (Cond.sameMethod "CrierOfBorough$Deaf" "CrierOfBorough$Deaf" "goesOn" "(II)I") :: tl_5_1252
def tl_5_1250 : List Cond := (Cond.sameMethod "CrierOfBorough$Mother" "CrierOfBorough$Mother" "wishes" "(ZIIII)Z") :: tl_5_1251
def tl_5_1249 : List Cond := (Cond.code yX11_isUnder cX11_isUnder 2 (some (.boolean))) :: tl_5_1250
def tl_5_1248 : List Cond := (Cond.static yX11_isUnder) :: tl_5_1249
def tl_5_1247 : List Cond := (Cond.methodLink RX11 273 yX11_isUnder) :: tl_5_1248
def tl_5_1246 : List Cond := (Cond.code yX11_taken cX11_taken 3 (some (.int))) :: tl_5_1247
def tl_5_1245 : List Cond := (Cond.selects RX11 yX11_taken yX11_taken) :: tl_5_1246
def tl_5_1244 : List Cond := (Cond.instanceMethod yX11_taken) :: tl_5_1245
def tl_5_1243 : List Cond := (Cond.methodLink RL 165 yX11_taken) :: tl_5_1244
def tl_5_1242 : List Cond := (Cond.methodLink RX11 270 yX11_citizen) :: tl_5_1243
def tl_5_1241 : List Cond := (Cond.code yX11_peopleBy cX11_peopleBy 9 (some (.int))) :: tl_5_1242
def tl_5_1240 : List Cond := (Cond.selects RX11 yX11_peopleBy yX11_peopleBy) :: tl_5_1241
def tl_5_1239 : List Cond := (Cond.instanceMethod yX11_peopleBy) :: tl_5_1240
def tl_5_1238 : List Cond := (Cond.methodLink RL 161 yX11_peopleBy) :: tl_5_1239
def tl_5_1237 : List Cond := (Cond.code yX11_copy cX11_copy 10 (some (.int))) :: tl_5_1238
def tl_5_1236 : List Cond := (Cond.selects RX11 yX11_copy yX11_copy) :: tl_5_1237
def tl_5_1235 : List Cond := (Cond.instanceMethod yX11_copy) :: tl_5_1236
def tl_5_1234 : List Cond := (Cond.methodLink RL 156 yX11_copy) :: tl_5_1235
def tl_5_1233 : List Cond := (Cond.code yX11_cell cX11_cell 4 (some (.int))) :: tl_5_1234
def tl_5_1232 : List Cond := (Cond.selects RX11 yX11_cell yX11_cell) :: tl_5_1233
def tl_5_1231 : List Cond := (Cond.instanceMethod yX11_cell) :: tl_5_1232
def tl_5_1230 : List Cond := (Cond.methodLink RL 151 yX11_cell) :: tl_5_1231
def tl_5_1229 : List Cond := (Cond.code yX11_sheet cX11_sheet 5 (some (.int))) :: tl_5_1230
def tl_5_1228 : List Cond := (Cond.selects RX11 yX11_sheet yX11_sheet) :: tl_5_1229
def tl_5_1227 : List Cond := (Cond.instanceMethod yX11_sheet) :: tl_5_1228
def tl_5_1226 : List Cond := (Cond.methodLink RL 147 yX11_sheet) :: tl_5_1227
def tl_5_1225 : List Cond := (Cond.code yX11_back cX11_back 2 (some (.int))) :: tl_5_1226
def tl_5_1224 : List Cond := (Cond.selects RX11 yX11_back yX11_back) :: tl_5_1225
def tl_5_1223 : List Cond := (Cond.instanceMethod yX11_back) :: tl_5_1224
def tl_5_1222 : List Cond := (Cond.methodLink RL 143 yX11_back) :: tl_5_1223
def tl_5_1221 : List Cond := (Cond.code yX11_image cX11_image 2 (some (.int))) :: tl_5_1222
def tl_5_1220 : List Cond := (Cond.selects RX11 yX11_image yX11_image) :: tl_5_1221
def tl_5_1219 : List Cond := (Cond.instanceMethod yX11_image) :: tl_5_1220
def tl_5_1218 : List Cond := (Cond.methodLink RL 139 yX11_image) :: tl_5_1219
def tl_5_1217 : List Cond := (Cond.code yX11_odds cX11_odds 8 (some (.long))) :: tl_5_1218
def tl_5_1216 : List Cond := (Cond.selects RX11 yX11_odds yX11_odds) :: tl_5_1217
def tl_5_1215 : List Cond := (Cond.instanceMethod yX11_odds) :: tl_5_1216
def tl_5_1214 : List Cond := (Cond.methodLink RL 135 yX11_odds) :: tl_5_1215
def tl_5_1213 : List Cond := (Cond.constantLong RX11 257 (10 : Int64)) :: tl_5_1214
def tl_5_1212 : List Cond := (Cond.constantLong RX11 255 (6 : Int64)) :: tl_5_1213
def tl_5_1211 : List Cond := (Cond.constantLong RX11 253 (2147483647 : Int64)) :: tl_5_1212
def tl_5_1210 : List Cond := (Cond.constantLong RX11 251 (48271 : Int64)) :: tl_5_1211
def tl_5_1209 : List Cond := (Cond.code yX11_quarters cX11_quarters 7 (some (.int))) :: tl_5_1210
def tl_5_1208 : List Cond := (Cond.instanceMethod yX11_quarters) :: tl_5_1209
def tl_5_1207 : List Cond := ((Jvm.Cond.privateMethod ({ cls := "CrierOfBoroughModel", name := "quarters", desc := "(I)I" } : Jvm.MethodName))) :: tl_5_1208
def tl_5_1206 : List Cond := (Cond.methodLink RX11 263 yX11_quarters) :: tl_5_1207
def tl_5_1205 : List Cond := (Cond.constant RX11 262 (99999 : Int32)) :: tl_5_1206
def tl_5_1204 : List Cond := (Cond.code yX11_drawn cX11_drawn 4 (some (.int))) :: tl_5_1205
def tl_5_1203 : List Cond := (Cond.selects RX11 yX11_drawn yX11_drawn) :: tl_5_1204
def tl_5_1202 : List Cond := (Cond.instanceMethod yX11_drawn) :: tl_5_1203
def tl_5_1201 : List Cond := (Cond.methodLink RL 130 yX11_drawn) :: tl_5_1202
def tl_5_1200 : List Cond := (Cond.code yX11_film cX11_film 4 (some (.int))) :: tl_5_1201
set_option maxRecDepth 100000 in
theorem te_5 : tables_1_6 = tl_5_1200 := rfl
theorem tm_5_1200 : ∀ w ∈ tl_5_1200, w ∈ lw_tbl := fun w h => by
  rw [← te_5] at h
  unfold lw_tbl tables_1
  exact List.mem_append_right _ (List.mem_append_right _ (List.mem_append_right _ (List.mem_append_right _ (List.mem_append_right _ (List.mem_append_right _ (h))))))
theorem w_1200 : Cond.code yX11_film cX11_film 4 (some (.int)) ∈ gTB := gTB_of (tm_5_1200 _ List.mem_cons_self) rfl
theorem tm_5_1201 : ∀ w ∈ tl_5_1201, w ∈ lw_tbl := fun w h => tm_5_1200 w (List.mem_cons_of_mem _ h)
theorem w_1201 : Cond.methodLink RL 130 yX11_drawn ∈ gTB := gTB_of (tm_5_1201 _ List.mem_cons_self) rfl
theorem tm_5_1202 : ∀ w ∈ tl_5_1202, w ∈ lw_tbl := fun w h => tm_5_1201 w (List.mem_cons_of_mem _ h)
theorem w_1202 : Cond.instanceMethod yX11_drawn ∈ gTB := gTB_of (tm_5_1202 _ List.mem_cons_self) rfl
theorem tm_5_1203 : ∀ w ∈ tl_5_1203, w ∈ lw_tbl := fun w h => tm_5_1202 w (List.mem_cons_of_mem _ h)
theorem w_1203 : Cond.selects RX11 yX11_drawn yX11_drawn ∈ gTB := gTB_of (tm_5_1203 _ List.mem_cons_self) rfl
theorem tm_5_1204 : ∀ w ∈ tl_5_1204, w ∈ lw_tbl := fun w h => tm_5_1203 w (List.mem_cons_of_mem _ h)
theorem w_1204 : Cond.code yX11_drawn cX11_drawn 4 (some (.int)) ∈ gTB := gTB_of (tm_5_1204 _ List.mem_cons_self) rfl
theorem tm_5_1205 : ∀ w ∈ tl_5_1205, w ∈ lw_tbl := fun w h => tm_5_1204 w (List.mem_cons_of_mem _ h)
theorem w_1205 : Cond.constant RX11 262 (99999 : Int32) ∈ gTB := gTB_of (tm_5_1205 _ List.mem_cons_self) rfl
theorem tm_5_1206 : ∀ w ∈ tl_5_1206, w ∈ lw_tbl := fun w h => tm_5_1205 w (List.mem_cons_of_mem _ h)
theorem w_1206 : Cond.methodLink RX11 263 yX11_quarters ∈ gTB := gTB_of (tm_5_1206 _ List.mem_cons_self) rfl
theorem tm_5_1207 : ∀ w ∈ tl_5_1207, w ∈ lw_tbl := fun w h => tm_5_1206 w (List.mem_cons_of_mem _ h)
theorem tm_5_1208 : ∀ w ∈ tl_5_1208, w ∈ lw_tbl := fun w h => tm_5_1207 w (List.mem_cons_of_mem _ h)
theorem w_1208 : Cond.instanceMethod yX11_quarters ∈ gTB := gTB_of (tm_5_1208 _ List.mem_cons_self) rfl
theorem tm_5_1209 : ∀ w ∈ tl_5_1209, w ∈ lw_tbl := fun w h => tm_5_1208 w (List.mem_cons_of_mem _ h)
theorem w_1209 : Cond.code yX11_quarters cX11_quarters 7 (some (.int)) ∈ gTB := gTB_of (tm_5_1209 _ List.mem_cons_self) rfl
theorem tm_5_1210 : ∀ w ∈ tl_5_1210, w ∈ lw_tbl := fun w h => tm_5_1209 w (List.mem_cons_of_mem _ h)
theorem w_1210 : Cond.constantLong RX11 251 (48271 : Int64) ∈ gTB := gTB_of (tm_5_1210 _ List.mem_cons_self) rfl
theorem tm_5_1211 : ∀ w ∈ tl_5_1211, w ∈ lw_tbl := fun w h => tm_5_1210 w (List.mem_cons_of_mem _ h)
theorem w_1211 : Cond.constantLong RX11 253 (2147483647 : Int64) ∈ gTB := gTB_of (tm_5_1211 _ List.mem_cons_self) rfl
theorem tm_5_1212 : ∀ w ∈ tl_5_1212, w ∈ lw_tbl := fun w h => tm_5_1211 w (List.mem_cons_of_mem _ h)
theorem w_1212 : Cond.constantLong RX11 255 (6 : Int64) ∈ gTB := gTB_of (tm_5_1212 _ List.mem_cons_self) rfl
theorem tm_5_1213 : ∀ w ∈ tl_5_1213, w ∈ lw_tbl := fun w h => tm_5_1212 w (List.mem_cons_of_mem _ h)
theorem w_1213 : Cond.constantLong RX11 257 (10 : Int64) ∈ gTB := gTB_of (tm_5_1213 _ List.mem_cons_self) rfl
theorem tm_5_1214 : ∀ w ∈ tl_5_1214, w ∈ lw_tbl := fun w h => tm_5_1213 w (List.mem_cons_of_mem _ h)
theorem w_1214 : Cond.methodLink RL 135 yX11_odds ∈ gTB := gTB_of (tm_5_1214 _ List.mem_cons_self) rfl
theorem tm_5_1215 : ∀ w ∈ tl_5_1215, w ∈ lw_tbl := fun w h => tm_5_1214 w (List.mem_cons_of_mem _ h)
theorem w_1215 : Cond.instanceMethod yX11_odds ∈ gTB := gTB_of (tm_5_1215 _ List.mem_cons_self) rfl
theorem tm_5_1216 : ∀ w ∈ tl_5_1216, w ∈ lw_tbl := fun w h => tm_5_1215 w (List.mem_cons_of_mem _ h)
theorem w_1216 : Cond.selects RX11 yX11_odds yX11_odds ∈ gTB := gTB_of (tm_5_1216 _ List.mem_cons_self) rfl
theorem tm_5_1217 : ∀ w ∈ tl_5_1217, w ∈ lw_tbl := fun w h => tm_5_1216 w (List.mem_cons_of_mem _ h)
theorem w_1217 : Cond.code yX11_odds cX11_odds 8 (some (.long)) ∈ gTB := gTB_of (tm_5_1217 _ List.mem_cons_self) rfl
theorem tm_5_1218 : ∀ w ∈ tl_5_1218, w ∈ lw_tbl := fun w h => tm_5_1217 w (List.mem_cons_of_mem _ h)
theorem w_1218 : Cond.methodLink RL 139 yX11_image ∈ gTB := gTB_of (tm_5_1218 _ List.mem_cons_self) rfl
theorem tm_5_1219 : ∀ w ∈ tl_5_1219, w ∈ lw_tbl := fun w h => tm_5_1218 w (List.mem_cons_of_mem _ h)
theorem w_1219 : Cond.instanceMethod yX11_image ∈ gTB := gTB_of (tm_5_1219 _ List.mem_cons_self) rfl
theorem tm_5_1220 : ∀ w ∈ tl_5_1220, w ∈ lw_tbl := fun w h => tm_5_1219 w (List.mem_cons_of_mem _ h)
theorem w_1220 : Cond.selects RX11 yX11_image yX11_image ∈ gTB := gTB_of (tm_5_1220 _ List.mem_cons_self) rfl
theorem tm_5_1221 : ∀ w ∈ tl_5_1221, w ∈ lw_tbl := fun w h => tm_5_1220 w (List.mem_cons_of_mem _ h)
theorem w_1221 : Cond.code yX11_image cX11_image 2 (some (.int)) ∈ gTB := gTB_of (tm_5_1221 _ List.mem_cons_self) rfl
theorem tm_5_1222 : ∀ w ∈ tl_5_1222, w ∈ lw_tbl := fun w h => tm_5_1221 w (List.mem_cons_of_mem _ h)
theorem w_1222 : Cond.methodLink RL 143 yX11_back ∈ gTB := gTB_of (tm_5_1222 _ List.mem_cons_self) rfl
theorem tm_5_1223 : ∀ w ∈ tl_5_1223, w ∈ lw_tbl := fun w h => tm_5_1222 w (List.mem_cons_of_mem _ h)
theorem w_1223 : Cond.instanceMethod yX11_back ∈ gTB := gTB_of (tm_5_1223 _ List.mem_cons_self) rfl
theorem tm_5_1224 : ∀ w ∈ tl_5_1224, w ∈ lw_tbl := fun w h => tm_5_1223 w (List.mem_cons_of_mem _ h)
theorem w_1224 : Cond.selects RX11 yX11_back yX11_back ∈ gTB := gTB_of (tm_5_1224 _ List.mem_cons_self) rfl
theorem tm_5_1225 : ∀ w ∈ tl_5_1225, w ∈ lw_tbl := fun w h => tm_5_1224 w (List.mem_cons_of_mem _ h)
theorem w_1225 : Cond.code yX11_back cX11_back 2 (some (.int)) ∈ gTB := gTB_of (tm_5_1225 _ List.mem_cons_self) rfl
theorem tm_5_1226 : ∀ w ∈ tl_5_1226, w ∈ lw_tbl := fun w h => tm_5_1225 w (List.mem_cons_of_mem _ h)
theorem w_1226 : Cond.methodLink RL 147 yX11_sheet ∈ gTB := gTB_of (tm_5_1226 _ List.mem_cons_self) rfl
theorem tm_5_1227 : ∀ w ∈ tl_5_1227, w ∈ lw_tbl := fun w h => tm_5_1226 w (List.mem_cons_of_mem _ h)
theorem w_1227 : Cond.instanceMethod yX11_sheet ∈ gTB := gTB_of (tm_5_1227 _ List.mem_cons_self) rfl
theorem tm_5_1228 : ∀ w ∈ tl_5_1228, w ∈ lw_tbl := fun w h => tm_5_1227 w (List.mem_cons_of_mem _ h)
theorem w_1228 : Cond.selects RX11 yX11_sheet yX11_sheet ∈ gTB := gTB_of (tm_5_1228 _ List.mem_cons_self) rfl
theorem tm_5_1229 : ∀ w ∈ tl_5_1229, w ∈ lw_tbl := fun w h => tm_5_1228 w (List.mem_cons_of_mem _ h)
theorem w_1229 : Cond.code yX11_sheet cX11_sheet 5 (some (.int)) ∈ gTB := gTB_of (tm_5_1229 _ List.mem_cons_self) rfl
theorem tm_5_1230 : ∀ w ∈ tl_5_1230, w ∈ lw_tbl := fun w h => tm_5_1229 w (List.mem_cons_of_mem _ h)
theorem w_1230 : Cond.methodLink RL 151 yX11_cell ∈ gTB := gTB_of (tm_5_1230 _ List.mem_cons_self) rfl
theorem tm_5_1231 : ∀ w ∈ tl_5_1231, w ∈ lw_tbl := fun w h => tm_5_1230 w (List.mem_cons_of_mem _ h)
theorem w_1231 : Cond.instanceMethod yX11_cell ∈ gTB := gTB_of (tm_5_1231 _ List.mem_cons_self) rfl
theorem tm_5_1232 : ∀ w ∈ tl_5_1232, w ∈ lw_tbl := fun w h => tm_5_1231 w (List.mem_cons_of_mem _ h)
theorem w_1232 : Cond.selects RX11 yX11_cell yX11_cell ∈ gTB := gTB_of (tm_5_1232 _ List.mem_cons_self) rfl
theorem tm_5_1233 : ∀ w ∈ tl_5_1233, w ∈ lw_tbl := fun w h => tm_5_1232 w (List.mem_cons_of_mem _ h)
theorem w_1233 : Cond.code yX11_cell cX11_cell 4 (some (.int)) ∈ gTB := gTB_of (tm_5_1233 _ List.mem_cons_self) rfl
theorem tm_5_1234 : ∀ w ∈ tl_5_1234, w ∈ lw_tbl := fun w h => tm_5_1233 w (List.mem_cons_of_mem _ h)
theorem w_1234 : Cond.methodLink RL 156 yX11_copy ∈ gTB := gTB_of (tm_5_1234 _ List.mem_cons_self) rfl
theorem tm_5_1235 : ∀ w ∈ tl_5_1235, w ∈ lw_tbl := fun w h => tm_5_1234 w (List.mem_cons_of_mem _ h)
theorem w_1235 : Cond.instanceMethod yX11_copy ∈ gTB := gTB_of (tm_5_1235 _ List.mem_cons_self) rfl
theorem tm_5_1236 : ∀ w ∈ tl_5_1236, w ∈ lw_tbl := fun w h => tm_5_1235 w (List.mem_cons_of_mem _ h)
theorem w_1236 : Cond.selects RX11 yX11_copy yX11_copy ∈ gTB := gTB_of (tm_5_1236 _ List.mem_cons_self) rfl
theorem tm_5_1237 : ∀ w ∈ tl_5_1237, w ∈ lw_tbl := fun w h => tm_5_1236 w (List.mem_cons_of_mem _ h)
theorem w_1237 : Cond.code yX11_copy cX11_copy 10 (some (.int)) ∈ gTB := gTB_of (tm_5_1237 _ List.mem_cons_self) rfl
theorem tm_5_1238 : ∀ w ∈ tl_5_1238, w ∈ lw_tbl := fun w h => tm_5_1237 w (List.mem_cons_of_mem _ h)
theorem w_1238 : Cond.methodLink RL 161 yX11_peopleBy ∈ gTB := gTB_of (tm_5_1238 _ List.mem_cons_self) rfl
theorem tm_5_1239 : ∀ w ∈ tl_5_1239, w ∈ lw_tbl := fun w h => tm_5_1238 w (List.mem_cons_of_mem _ h)
theorem w_1239 : Cond.instanceMethod yX11_peopleBy ∈ gTB := gTB_of (tm_5_1239 _ List.mem_cons_self) rfl
theorem tm_5_1240 : ∀ w ∈ tl_5_1240, w ∈ lw_tbl := fun w h => tm_5_1239 w (List.mem_cons_of_mem _ h)
theorem w_1240 : Cond.selects RX11 yX11_peopleBy yX11_peopleBy ∈ gTB := gTB_of (tm_5_1240 _ List.mem_cons_self) rfl
theorem tm_5_1241 : ∀ w ∈ tl_5_1241, w ∈ lw_tbl := fun w h => tm_5_1240 w (List.mem_cons_of_mem _ h)
theorem w_1241 : Cond.code yX11_peopleBy cX11_peopleBy 9 (some (.int)) ∈ gTB := gTB_of (tm_5_1241 _ List.mem_cons_self) rfl
theorem tm_5_1242 : ∀ w ∈ tl_5_1242, w ∈ lw_tbl := fun w h => tm_5_1241 w (List.mem_cons_of_mem _ h)
theorem w_1242 : Cond.methodLink RX11 270 yX11_citizen ∈ gTB := gTB_of (tm_5_1242 _ List.mem_cons_self) rfl
theorem tm_5_1243 : ∀ w ∈ tl_5_1243, w ∈ lw_tbl := fun w h => tm_5_1242 w (List.mem_cons_of_mem _ h)
theorem w_1243 : Cond.methodLink RL 165 yX11_taken ∈ gTB := gTB_of (tm_5_1243 _ List.mem_cons_self) rfl
theorem tm_5_1244 : ∀ w ∈ tl_5_1244, w ∈ lw_tbl := fun w h => tm_5_1243 w (List.mem_cons_of_mem _ h)
theorem w_1244 : Cond.instanceMethod yX11_taken ∈ gTB := gTB_of (tm_5_1244 _ List.mem_cons_self) rfl
theorem tm_5_1245 : ∀ w ∈ tl_5_1245, w ∈ lw_tbl := fun w h => tm_5_1244 w (List.mem_cons_of_mem _ h)
theorem w_1245 : Cond.selects RX11 yX11_taken yX11_taken ∈ gTB := gTB_of (tm_5_1245 _ List.mem_cons_self) rfl
theorem tm_5_1246 : ∀ w ∈ tl_5_1246, w ∈ lw_tbl := fun w h => tm_5_1245 w (List.mem_cons_of_mem _ h)
theorem w_1246 : Cond.code yX11_taken cX11_taken 3 (some (.int)) ∈ gTB := gTB_of (tm_5_1246 _ List.mem_cons_self) rfl
theorem tm_5_1247 : ∀ w ∈ tl_5_1247, w ∈ lw_tbl := fun w h => tm_5_1246 w (List.mem_cons_of_mem _ h)
theorem w_1247 : Cond.methodLink RX11 273 yX11_isUnder ∈ gTB := gTB_of (tm_5_1247 _ List.mem_cons_self) rfl
theorem tm_5_1248 : ∀ w ∈ tl_5_1248, w ∈ lw_tbl := fun w h => tm_5_1247 w (List.mem_cons_of_mem _ h)
theorem w_1248 : Cond.static yX11_isUnder ∈ gTB := gTB_of (tm_5_1248 _ List.mem_cons_self) rfl
theorem tm_5_1249 : ∀ w ∈ tl_5_1249, w ∈ lw_tbl := fun w h => tm_5_1248 w (List.mem_cons_of_mem _ h)
theorem w_1249 : Cond.code yX11_isUnder cX11_isUnder 2 (some (.boolean)) ∈ gTB := gTB_of (tm_5_1249 _ List.mem_cons_self) rfl
theorem tm_5_1250 : ∀ w ∈ tl_5_1250, w ∈ lw_tbl := fun w h => tm_5_1249 w (List.mem_cons_of_mem _ h)
theorem w_1250 : Cond.sameMethod "CrierOfBorough$Mother" "CrierOfBorough$Mother" "wishes" "(ZIIII)Z" ∈ gTB := gTB_of (tm_5_1250 _ List.mem_cons_self) rfl
theorem tm_5_1251 : ∀ w ∈ tl_5_1251, w ∈ lw_tbl := fun w h => tm_5_1250 w (List.mem_cons_of_mem _ h)
theorem w_1251 : Cond.sameMethod "CrierOfBorough$Deaf" "CrierOfBorough$Deaf" "goesOn" "(II)I" ∈ gTB := gTB_of (tm_5_1251 _ List.mem_cons_self) rfl
theorem tm_5_1252 : ∀ w ∈ tl_5_1252, w ∈ lw_tbl := fun w h => tm_5_1251 w (List.mem_cons_of_mem _ h)
theorem w_1252 : Cond.sameMethod "CrierOfBorough$Deaf" "CrierOfBorough$Deaf" "isOf" "(I)Z" ∈ gTB := gTB_of (tm_5_1252 _ List.mem_cons_self) rfl
theorem tm_5_1253 : ∀ w ∈ tl_5_1253, w ∈ lw_tbl := fun w h => tm_5_1252 w (List.mem_cons_of_mem _ h)
theorem w_1253 : Cond.sameMethod "CrierOfBorough$Mother" "CrierOfBorough$Mother" "isOf" "(I)Z" ∈ gTB := gTB_of (tm_5_1253 _ List.mem_cons_self) rfl
theorem tm_5_1254 : ∀ w ∈ tl_5_1254, w ∈ lw_tbl := fun w h => tm_5_1253 w (List.mem_cons_of_mem _ h)
theorem tm_5_1255 : ∀ w ∈ tl_5_1255, w ∈ lw_tbl := fun w h => tm_5_1254 w (List.mem_cons_of_mem _ h)
theorem tm_5_1256 : ∀ w ∈ tl_5_1256, w ∈ lw_tbl := fun w h => tm_5_1255 w (List.mem_cons_of_mem _ h)
theorem tm_5_1257 : ∀ w ∈ tl_5_1257, w ∈ lw_tbl := fun w h => tm_5_1256 w (List.mem_cons_of_mem _ h)
theorem tm_5_1258 : ∀ w ∈ tl_5_1258, w ∈ lw_tbl := fun w h => tm_5_1257 w (List.mem_cons_of_mem _ h)
theorem tm_5_1259 : ∀ w ∈ tl_5_1259, w ∈ lw_tbl := fun w h => tm_5_1258 w (List.mem_cons_of_mem _ h)
theorem w_1259 : Cond.fieldLink "java/lang/String" 9 "java/lang/String" "value" "[B" ∈ gTB := gTB_of (tm_5_1259 _ List.mem_cons_self) rfl
theorem tm_5_1260 : ∀ w ∈ tl_5_1260, w ∈ lw_tbl := fun w h => tm_5_1259 w (List.mem_cons_of_mem _ h)
theorem w_1260 : Cond.fieldLink "java/lang/String" 15 "java/lang/String" "coder" "B" ∈ gTB := gTB_of (tm_5_1260 _ List.mem_cons_self) rfl
def tp_59 : List Cond := []
def tp_58 : List Cond := Cond.selects RX11 yX11_quarters yX11_quarters :: tp_59
def tp_57 : List Cond := Cond.selects RX11 yX11_unlike yX11_unlike :: tp_58
def tp_56 : List Cond := Cond.selects RX11 yX11_sheetWrong yX11_sheetWrong :: tp_57
def tp_55 : List Cond := Cond.selects RX11 yX11_toldBy yX11_toldBy :: tp_56
def tp_54 : List Cond := Cond.selects RX11 yX11_mayHushed yX11_mayHushed :: tp_55
def tp_53 : List Cond := Cond.selects RX11 yX11_criedIn yX11_criedIn :: tp_54
def tp_52 : List Cond := Cond.selects RX11 yX11_isNow yX11_isNow :: tp_53
def tp_51 : List Cond := Cond.selects RX11 yX11_lays yX11_lays :: tp_52
def tp_50 : List Cond := Cond.selects RX11 yX11_knownAll yX11_knownAll :: tp_51
def tp_49 : List Cond := Cond.selects RX11 yX11_goes yX11_goes :: tp_50
def tp_48 : List Cond := Cond.selects RX11 yX11_keeps yX11_keeps :: tp_49
def tp_47 : List Cond := Cond.selects RX11 yX11_knownToOthers yX11_knownToOthers :: tp_48
def tp_46 : List Cond := Cond.selects RX11 yX11_hourOf yX11_hourOf :: tp_47
def tp_45 : List Cond := Cond.selects RX11 yX11_maySet yX11_maySet :: tp_46
def tp_44 : List Cond := Cond.selects RX11 yX11_listeners yX11_listeners :: tp_45
def tp_43 : List Cond := Cond.selects RX11 yX11_whoAt yX11_whoAt :: tp_44
def tp_42 : List Cond := Cond.selects RX11 yX11_goesOf yX11_goesOf :: tp_43
def tp_41 : List Cond := Cond.selects RX11 yX11_wishSet yX11_wishSet :: tp_42
def tp_40 : List Cond := Cond.selects RX11 yX11_isOne yX11_isOne :: tp_41
def tp_39 : List Cond := Cond.selects RX11 yX11_plainWish yX11_plainWish :: tp_40
def tp_38 : List Cond := Cond.selects RX11 yX11_says yX11_says :: tp_39
def tp_37 : List Cond := Cond.selects RX11 yX11_asksOf yX11_asksOf :: tp_38
def tp_36 : List Cond := Cond.selects RX11 yX11_motherWish yX11_motherWish :: tp_37
def tp_35 : List Cond := Cond.selects RX11 yX11_wishes yX11_wishes :: tp_36
def tp_34 : List Cond := Cond.selects RX11 yX11_listens yX11_listens :: tp_35
def tp_33 : List Cond := Cond.selects RX11 yX11_may yX11_may :: tp_34
def tp_32 : List Cond := Cond.selects RX11 yX11_criedNow yX11_criedNow :: tp_33
def tp_31 : List Cond := Cond.selects RX11 yX11_between yX11_between :: tp_32
def tp_30 : List Cond := Cond.selects RX11 yX11_signOf yX11_signOf :: tp_31
def tp_29 : List Cond := Cond.selects RX11 yX11_holds yX11_holds :: tp_30
def tp_28 : List Cond := Cond.selects RX11 yX11_opensOne yX11_opensOne :: tp_29
def tp_27 : List Cond := Cond.selects RX11 yX11_unwinds yX11_unwinds :: tp_28
def tp_26 : List Cond := Cond.selects RX11 yX11_puts yX11_puts :: tp_27
def tp_25 : List Cond := Cond.selects RX11 yX11_eRead yX11_eRead :: tp_26
def tp_24 : List Cond := Cond.selects RX11 yX11_wordFrom yX11_wordFrom :: tp_25
def tp_23 : List Cond := Cond.selects RX11 yX11_next yX11_next :: tp_24
def tp_22 : List Cond := Cond.selects RX10 yX10_criedByLots yX10_criedByLots :: tp_23
def tp_21 : List Cond := Cond.selects RX10 yX10_otherwise yX10_otherwise :: tp_22
def tp_20 : List Cond := Cond.selects RX10 yX10_refusalToJudge yX10_refusalToJudge :: tp_21
def tp_19 : List Cond := Cond.selects RX10 yX10_mayAtAny yX10_mayAtAny :: tp_20
def tp_18 : List Cond := Cond.selects RX10 yX10_wishersAt yX10_wishersAt :: tp_19
def tp_17 : List Cond := Cond.selects RX10 yX10_isSoInThought yX10_isSoInThought :: tp_18
def tp_16 : List Cond := Cond.selects RX9 yX9_knownBeside yX9_knownBeside :: tp_17
def tp_15 : List Cond := Cond.selects RX9 yX9_cry yX9_cry :: tp_16
def tp_14 : List Cond := Cond.selects RX9 yX9_name yX9_name :: tp_15
def tp_13 : List Cond := Cond.selects RX10 yX10_ofBorough yX10_ofBorough :: tp_14
def tp_12 : List Cond := Cond.selects RX6 yX6_readOne yX6_readOne :: tp_13
def tp_11 : List Cond := Cond.selects RX6 yX6_readTerm yX6_readTerm :: tp_12
def tp_10 : List Cond := Cond.selects RX6 yX6_readSum yX6_readSum :: tp_11
def tp_9 : List Cond := Cond.selects RX6 yX6_readNot yX6_readNot :: tp_10
def tp_8 : List Cond := Cond.selects RX6 yX6_readBoth yX6_readBoth :: tp_9
def tp_7 : List Cond := Cond.selects RX6 yX6_readEither yX6_readEither :: tp_8
def tp_6 : List Cond := Cond.selects RX6 yX6_takeNumber yX6_takeNumber :: tp_7
def tp_5 : List Cond := Cond.selects RX6 yX6_isDigit yX6_isDigit :: tp_6
def tp_4 : List Cond := Cond.selects RX6 yX6_isWordAt yX6_isWordAt :: tp_5
def tp_3 : List Cond := Cond.selects RX6 yX6_word yX6_word :: tp_4
def tp_2 : List Cond := Cond.selects RX6 yX6_wordEnd yX6_wordEnd :: tp_3
def tp_1 : List Cond := Cond.selects RX6 yX6_isLetter yX6_isLetter :: tp_2
def tp_0 : List Cond := Cond.selects RX6 yX6_advance yX6_advance :: tp_1
set_option maxRecDepth 100000 in
theorem tpe : k2_sels lw_privs = tp_0 := rfl
theorem tpm_0 : ∀ w ∈ tp_0, w ∈ lw_tbl := fun w h => by
  rw [← tpe] at h
  unfold lw_tbl
  exact List.mem_append_left _ h
theorem ws_0 : Cond.selects RX6 yX6_advance yX6_advance ∈ gTB := gTB_of (tpm_0 _ List.mem_cons_self) rfl
theorem tpm_1 : ∀ w ∈ tp_1, w ∈ lw_tbl := fun w h => tpm_0 w (List.mem_cons_of_mem _ h)
theorem ws_1 : Cond.selects RX6 yX6_isLetter yX6_isLetter ∈ gTB := gTB_of (tpm_1 _ List.mem_cons_self) rfl
theorem tpm_2 : ∀ w ∈ tp_2, w ∈ lw_tbl := fun w h => tpm_1 w (List.mem_cons_of_mem _ h)
theorem ws_2 : Cond.selects RX6 yX6_wordEnd yX6_wordEnd ∈ gTB := gTB_of (tpm_2 _ List.mem_cons_self) rfl
theorem tpm_3 : ∀ w ∈ tp_3, w ∈ lw_tbl := fun w h => tpm_2 w (List.mem_cons_of_mem _ h)
theorem ws_3 : Cond.selects RX6 yX6_word yX6_word ∈ gTB := gTB_of (tpm_3 _ List.mem_cons_self) rfl
theorem tpm_4 : ∀ w ∈ tp_4, w ∈ lw_tbl := fun w h => tpm_3 w (List.mem_cons_of_mem _ h)
theorem ws_4 : Cond.selects RX6 yX6_isWordAt yX6_isWordAt ∈ gTB := gTB_of (tpm_4 _ List.mem_cons_self) rfl
theorem tpm_5 : ∀ w ∈ tp_5, w ∈ lw_tbl := fun w h => tpm_4 w (List.mem_cons_of_mem _ h)
theorem ws_5 : Cond.selects RX6 yX6_isDigit yX6_isDigit ∈ gTB := gTB_of (tpm_5 _ List.mem_cons_self) rfl
theorem tpm_6 : ∀ w ∈ tp_6, w ∈ lw_tbl := fun w h => tpm_5 w (List.mem_cons_of_mem _ h)
theorem ws_6 : Cond.selects RX6 yX6_takeNumber yX6_takeNumber ∈ gTB := gTB_of (tpm_6 _ List.mem_cons_self) rfl
theorem tpm_7 : ∀ w ∈ tp_7, w ∈ lw_tbl := fun w h => tpm_6 w (List.mem_cons_of_mem _ h)
theorem ws_7 : Cond.selects RX6 yX6_readEither yX6_readEither ∈ gTB := gTB_of (tpm_7 _ List.mem_cons_self) rfl
theorem tpm_8 : ∀ w ∈ tp_8, w ∈ lw_tbl := fun w h => tpm_7 w (List.mem_cons_of_mem _ h)
theorem ws_8 : Cond.selects RX6 yX6_readBoth yX6_readBoth ∈ gTB := gTB_of (tpm_8 _ List.mem_cons_self) rfl
theorem tpm_9 : ∀ w ∈ tp_9, w ∈ lw_tbl := fun w h => tpm_8 w (List.mem_cons_of_mem _ h)
theorem ws_9 : Cond.selects RX6 yX6_readNot yX6_readNot ∈ gTB := gTB_of (tpm_9 _ List.mem_cons_self) rfl
theorem tpm_10 : ∀ w ∈ tp_10, w ∈ lw_tbl := fun w h => tpm_9 w (List.mem_cons_of_mem _ h)
theorem ws_10 : Cond.selects RX6 yX6_readSum yX6_readSum ∈ gTB := gTB_of (tpm_10 _ List.mem_cons_self) rfl
theorem tpm_11 : ∀ w ∈ tp_11, w ∈ lw_tbl := fun w h => tpm_10 w (List.mem_cons_of_mem _ h)
theorem ws_11 : Cond.selects RX6 yX6_readTerm yX6_readTerm ∈ gTB := gTB_of (tpm_11 _ List.mem_cons_self) rfl
theorem tpm_12 : ∀ w ∈ tp_12, w ∈ lw_tbl := fun w h => tpm_11 w (List.mem_cons_of_mem _ h)
theorem ws_12 : Cond.selects RX6 yX6_readOne yX6_readOne ∈ gTB := gTB_of (tpm_12 _ List.mem_cons_self) rfl
theorem tpm_13 : ∀ w ∈ tp_13, w ∈ lw_tbl := fun w h => tpm_12 w (List.mem_cons_of_mem _ h)
theorem ws_13 : Cond.selects RX10 yX10_ofBorough yX10_ofBorough ∈ gTB := gTB_of (tpm_13 _ List.mem_cons_self) rfl
theorem tpm_14 : ∀ w ∈ tp_14, w ∈ lw_tbl := fun w h => tpm_13 w (List.mem_cons_of_mem _ h)
theorem ws_14 : Cond.selects RX9 yX9_name yX9_name ∈ gTB := gTB_of (tpm_14 _ List.mem_cons_self) rfl
theorem tpm_15 : ∀ w ∈ tp_15, w ∈ lw_tbl := fun w h => tpm_14 w (List.mem_cons_of_mem _ h)
theorem ws_15 : Cond.selects RX9 yX9_cry yX9_cry ∈ gTB := gTB_of (tpm_15 _ List.mem_cons_self) rfl
theorem tpm_16 : ∀ w ∈ tp_16, w ∈ lw_tbl := fun w h => tpm_15 w (List.mem_cons_of_mem _ h)
theorem ws_16 : Cond.selects RX9 yX9_knownBeside yX9_knownBeside ∈ gTB := gTB_of (tpm_16 _ List.mem_cons_self) rfl
theorem tpm_17 : ∀ w ∈ tp_17, w ∈ lw_tbl := fun w h => tpm_16 w (List.mem_cons_of_mem _ h)
theorem ws_17 : Cond.selects RX10 yX10_isSoInThought yX10_isSoInThought ∈ gTB := gTB_of (tpm_17 _ List.mem_cons_self) rfl
theorem tpm_18 : ∀ w ∈ tp_18, w ∈ lw_tbl := fun w h => tpm_17 w (List.mem_cons_of_mem _ h)
theorem ws_18 : Cond.selects RX10 yX10_wishersAt yX10_wishersAt ∈ gTB := gTB_of (tpm_18 _ List.mem_cons_self) rfl
theorem tpm_19 : ∀ w ∈ tp_19, w ∈ lw_tbl := fun w h => tpm_18 w (List.mem_cons_of_mem _ h)
theorem ws_19 : Cond.selects RX10 yX10_mayAtAny yX10_mayAtAny ∈ gTB := gTB_of (tpm_19 _ List.mem_cons_self) rfl
theorem tpm_20 : ∀ w ∈ tp_20, w ∈ lw_tbl := fun w h => tpm_19 w (List.mem_cons_of_mem _ h)
theorem ws_20 : Cond.selects RX10 yX10_refusalToJudge yX10_refusalToJudge ∈ gTB := gTB_of (tpm_20 _ List.mem_cons_self) rfl
theorem tpm_21 : ∀ w ∈ tp_21, w ∈ lw_tbl := fun w h => tpm_20 w (List.mem_cons_of_mem _ h)
theorem ws_21 : Cond.selects RX10 yX10_otherwise yX10_otherwise ∈ gTB := gTB_of (tpm_21 _ List.mem_cons_self) rfl
theorem tpm_22 : ∀ w ∈ tp_22, w ∈ lw_tbl := fun w h => tpm_21 w (List.mem_cons_of_mem _ h)
theorem ws_22 : Cond.selects RX10 yX10_criedByLots yX10_criedByLots ∈ gTB := gTB_of (tpm_22 _ List.mem_cons_self) rfl
theorem tpm_23 : ∀ w ∈ tp_23, w ∈ lw_tbl := fun w h => tpm_22 w (List.mem_cons_of_mem _ h)
theorem ws_23 : Cond.selects RX11 yX11_next yX11_next ∈ gTB := gTB_of (tpm_23 _ List.mem_cons_self) rfl
theorem tpm_24 : ∀ w ∈ tp_24, w ∈ lw_tbl := fun w h => tpm_23 w (List.mem_cons_of_mem _ h)
theorem ws_24 : Cond.selects RX11 yX11_wordFrom yX11_wordFrom ∈ gTB := gTB_of (tpm_24 _ List.mem_cons_self) rfl
theorem tpm_25 : ∀ w ∈ tp_25, w ∈ lw_tbl := fun w h => tpm_24 w (List.mem_cons_of_mem _ h)
theorem ws_25 : Cond.selects RX11 yX11_eRead yX11_eRead ∈ gTB := gTB_of (tpm_25 _ List.mem_cons_self) rfl
theorem tpm_26 : ∀ w ∈ tp_26, w ∈ lw_tbl := fun w h => tpm_25 w (List.mem_cons_of_mem _ h)
theorem ws_26 : Cond.selects RX11 yX11_puts yX11_puts ∈ gTB := gTB_of (tpm_26 _ List.mem_cons_self) rfl
theorem tpm_27 : ∀ w ∈ tp_27, w ∈ lw_tbl := fun w h => tpm_26 w (List.mem_cons_of_mem _ h)
theorem ws_27 : Cond.selects RX11 yX11_unwinds yX11_unwinds ∈ gTB := gTB_of (tpm_27 _ List.mem_cons_self) rfl
theorem tpm_28 : ∀ w ∈ tp_28, w ∈ lw_tbl := fun w h => tpm_27 w (List.mem_cons_of_mem _ h)
theorem ws_28 : Cond.selects RX11 yX11_opensOne yX11_opensOne ∈ gTB := gTB_of (tpm_28 _ List.mem_cons_self) rfl
theorem tpm_29 : ∀ w ∈ tp_29, w ∈ lw_tbl := fun w h => tpm_28 w (List.mem_cons_of_mem _ h)
theorem ws_29 : Cond.selects RX11 yX11_holds yX11_holds ∈ gTB := gTB_of (tpm_29 _ List.mem_cons_self) rfl
theorem tpm_30 : ∀ w ∈ tp_30, w ∈ lw_tbl := fun w h => tpm_29 w (List.mem_cons_of_mem _ h)
theorem ws_30 : Cond.selects RX11 yX11_signOf yX11_signOf ∈ gTB := gTB_of (tpm_30 _ List.mem_cons_self) rfl
theorem tpm_31 : ∀ w ∈ tp_31, w ∈ lw_tbl := fun w h => tpm_30 w (List.mem_cons_of_mem _ h)
theorem ws_31 : Cond.selects RX11 yX11_between yX11_between ∈ gTB := gTB_of (tpm_31 _ List.mem_cons_self) rfl
theorem tpm_32 : ∀ w ∈ tp_32, w ∈ lw_tbl := fun w h => tpm_31 w (List.mem_cons_of_mem _ h)
theorem ws_32 : Cond.selects RX11 yX11_criedNow yX11_criedNow ∈ gTB := gTB_of (tpm_32 _ List.mem_cons_self) rfl
theorem tpm_33 : ∀ w ∈ tp_33, w ∈ lw_tbl := fun w h => tpm_32 w (List.mem_cons_of_mem _ h)
theorem ws_33 : Cond.selects RX11 yX11_may yX11_may ∈ gTB := gTB_of (tpm_33 _ List.mem_cons_self) rfl
theorem tpm_34 : ∀ w ∈ tp_34, w ∈ lw_tbl := fun w h => tpm_33 w (List.mem_cons_of_mem _ h)
theorem ws_34 : Cond.selects RX11 yX11_listens yX11_listens ∈ gTB := gTB_of (tpm_34 _ List.mem_cons_self) rfl
theorem tpm_35 : ∀ w ∈ tp_35, w ∈ lw_tbl := fun w h => tpm_34 w (List.mem_cons_of_mem _ h)
theorem ws_35 : Cond.selects RX11 yX11_wishes yX11_wishes ∈ gTB := gTB_of (tpm_35 _ List.mem_cons_self) rfl
theorem tpm_36 : ∀ w ∈ tp_36, w ∈ lw_tbl := fun w h => tpm_35 w (List.mem_cons_of_mem _ h)
theorem ws_36 : Cond.selects RX11 yX11_motherWish yX11_motherWish ∈ gTB := gTB_of (tpm_36 _ List.mem_cons_self) rfl
theorem tpm_37 : ∀ w ∈ tp_37, w ∈ lw_tbl := fun w h => tpm_36 w (List.mem_cons_of_mem _ h)
theorem ws_37 : Cond.selects RX11 yX11_asksOf yX11_asksOf ∈ gTB := gTB_of (tpm_37 _ List.mem_cons_self) rfl
theorem tpm_38 : ∀ w ∈ tp_38, w ∈ lw_tbl := fun w h => tpm_37 w (List.mem_cons_of_mem _ h)
theorem ws_38 : Cond.selects RX11 yX11_says yX11_says ∈ gTB := gTB_of (tpm_38 _ List.mem_cons_self) rfl
theorem tpm_39 : ∀ w ∈ tp_39, w ∈ lw_tbl := fun w h => tpm_38 w (List.mem_cons_of_mem _ h)
theorem ws_39 : Cond.selects RX11 yX11_plainWish yX11_plainWish ∈ gTB := gTB_of (tpm_39 _ List.mem_cons_self) rfl
theorem tpm_40 : ∀ w ∈ tp_40, w ∈ lw_tbl := fun w h => tpm_39 w (List.mem_cons_of_mem _ h)
theorem ws_40 : Cond.selects RX11 yX11_isOne yX11_isOne ∈ gTB := gTB_of (tpm_40 _ List.mem_cons_self) rfl
theorem tpm_41 : ∀ w ∈ tp_41, w ∈ lw_tbl := fun w h => tpm_40 w (List.mem_cons_of_mem _ h)
theorem ws_41 : Cond.selects RX11 yX11_wishSet yX11_wishSet ∈ gTB := gTB_of (tpm_41 _ List.mem_cons_self) rfl
theorem tpm_42 : ∀ w ∈ tp_42, w ∈ lw_tbl := fun w h => tpm_41 w (List.mem_cons_of_mem _ h)
theorem ws_42 : Cond.selects RX11 yX11_goesOf yX11_goesOf ∈ gTB := gTB_of (tpm_42 _ List.mem_cons_self) rfl
theorem tpm_43 : ∀ w ∈ tp_43, w ∈ lw_tbl := fun w h => tpm_42 w (List.mem_cons_of_mem _ h)
theorem ws_43 : Cond.selects RX11 yX11_whoAt yX11_whoAt ∈ gTB := gTB_of (tpm_43 _ List.mem_cons_self) rfl
theorem tpm_44 : ∀ w ∈ tp_44, w ∈ lw_tbl := fun w h => tpm_43 w (List.mem_cons_of_mem _ h)
theorem ws_44 : Cond.selects RX11 yX11_listeners yX11_listeners ∈ gTB := gTB_of (tpm_44 _ List.mem_cons_self) rfl
theorem tpm_45 : ∀ w ∈ tp_45, w ∈ lw_tbl := fun w h => tpm_44 w (List.mem_cons_of_mem _ h)
theorem ws_45 : Cond.selects RX11 yX11_maySet yX11_maySet ∈ gTB := gTB_of (tpm_45 _ List.mem_cons_self) rfl
theorem tpm_46 : ∀ w ∈ tp_46, w ∈ lw_tbl := fun w h => tpm_45 w (List.mem_cons_of_mem _ h)
theorem ws_46 : Cond.selects RX11 yX11_hourOf yX11_hourOf ∈ gTB := gTB_of (tpm_46 _ List.mem_cons_self) rfl
theorem tpm_47 : ∀ w ∈ tp_47, w ∈ lw_tbl := fun w h => tpm_46 w (List.mem_cons_of_mem _ h)
theorem ws_47 : Cond.selects RX11 yX11_knownToOthers yX11_knownToOthers ∈ gTB := gTB_of (tpm_47 _ List.mem_cons_self) rfl
theorem tpm_48 : ∀ w ∈ tp_48, w ∈ lw_tbl := fun w h => tpm_47 w (List.mem_cons_of_mem _ h)
theorem ws_48 : Cond.selects RX11 yX11_keeps yX11_keeps ∈ gTB := gTB_of (tpm_48 _ List.mem_cons_self) rfl
theorem tpm_49 : ∀ w ∈ tp_49, w ∈ lw_tbl := fun w h => tpm_48 w (List.mem_cons_of_mem _ h)
theorem ws_49 : Cond.selects RX11 yX11_goes yX11_goes ∈ gTB := gTB_of (tpm_49 _ List.mem_cons_self) rfl
theorem tpm_50 : ∀ w ∈ tp_50, w ∈ lw_tbl := fun w h => tpm_49 w (List.mem_cons_of_mem _ h)
theorem ws_50 : Cond.selects RX11 yX11_knownAll yX11_knownAll ∈ gTB := gTB_of (tpm_50 _ List.mem_cons_self) rfl
theorem tpm_51 : ∀ w ∈ tp_51, w ∈ lw_tbl := fun w h => tpm_50 w (List.mem_cons_of_mem _ h)
theorem ws_51 : Cond.selects RX11 yX11_lays yX11_lays ∈ gTB := gTB_of (tpm_51 _ List.mem_cons_self) rfl
theorem tpm_52 : ∀ w ∈ tp_52, w ∈ lw_tbl := fun w h => tpm_51 w (List.mem_cons_of_mem _ h)
theorem ws_52 : Cond.selects RX11 yX11_isNow yX11_isNow ∈ gTB := gTB_of (tpm_52 _ List.mem_cons_self) rfl
theorem tpm_53 : ∀ w ∈ tp_53, w ∈ lw_tbl := fun w h => tpm_52 w (List.mem_cons_of_mem _ h)
theorem ws_53 : Cond.selects RX11 yX11_criedIn yX11_criedIn ∈ gTB := gTB_of (tpm_53 _ List.mem_cons_self) rfl
theorem tpm_54 : ∀ w ∈ tp_54, w ∈ lw_tbl := fun w h => tpm_53 w (List.mem_cons_of_mem _ h)
theorem ws_54 : Cond.selects RX11 yX11_mayHushed yX11_mayHushed ∈ gTB := gTB_of (tpm_54 _ List.mem_cons_self) rfl
theorem tpm_55 : ∀ w ∈ tp_55, w ∈ lw_tbl := fun w h => tpm_54 w (List.mem_cons_of_mem _ h)
theorem ws_55 : Cond.selects RX11 yX11_toldBy yX11_toldBy ∈ gTB := gTB_of (tpm_55 _ List.mem_cons_self) rfl
theorem tpm_56 : ∀ w ∈ tp_56, w ∈ lw_tbl := fun w h => tpm_55 w (List.mem_cons_of_mem _ h)
theorem ws_56 : Cond.selects RX11 yX11_sheetWrong yX11_sheetWrong ∈ gTB := gTB_of (tpm_56 _ List.mem_cons_self) rfl
theorem tpm_57 : ∀ w ∈ tp_57, w ∈ lw_tbl := fun w h => tpm_56 w (List.mem_cons_of_mem _ h)
theorem ws_57 : Cond.selects RX11 yX11_unlike yX11_unlike ∈ gTB := gTB_of (tpm_57 _ List.mem_cons_self) rfl
theorem tpm_58 : ∀ w ∈ tp_58, w ∈ lw_tbl := fun w h => tpm_57 w (List.mem_cons_of_mem _ h)
theorem ws_58 : Cond.selects RX11 yX11_quarters yX11_quarters ∈ gTB := gTB_of (tpm_58 _ List.mem_cons_self) rfl
