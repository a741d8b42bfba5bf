/-! the little machine, part 12b: each method's return type has its tag; names of those that catch -/
def jtyr (t : Option FieldType) : Nat := match t with
  | none => 9
  | some t => jtyc t
def jmP (x : JM) : Bool := Nat.beq (jtyr (jmT x)) (jmR x) && (!(Nat.beq (jmF x) 4) || plainName (jmY x).cls) && (!(Nat.beq (jmF x) 1 || Nat.beq (jmF x) 3) || (Nat.ble 2 (jmC x) && Nat.blt (jmC x) 15))
theorem jmp_0 : jmP jm_0 = true := by decide +kernel
theorem jmp_1 : jmP jm_1 = true := by decide +kernel
theorem jmp_2 : jmP jm_2 = true := by decide +kernel
theorem jmp_3 : jmP jm_3 = true := by decide +kernel
theorem jmp_4 : jmP jm_4 = true := by decide +kernel
theorem jmp_5 : jmP jm_5 = true := by decide +kernel
theorem jmp_6 : jmP jm_6 = true := by decide +kernel
theorem jmp_7 : jmP jm_7 = true := by decide +kernel
theorem jmp_8 : jmP jm_8 = true := by decide +kernel
theorem jmp_9 : jmP jm_9 = true := by decide +kernel
theorem jmp_10 : jmP jm_10 = true := by decide +kernel
theorem jmp_11 : jmP jm_11 = true := by decide +kernel
theorem jmp_12 : jmP jm_12 = true := by decide +kernel
theorem jmp_13 : jmP jm_13 = true := by decide +kernel
theorem jmp_14 : jmP jm_14 = true := by decide +kernel
theorem jmp_15 : jmP jm_15 = true := by decide +kernel
theorem jmp_16 : jmP jm_16 = true := by decide +kernel
theorem jmp_17 : jmP jm_17 = true := by decide +kernel
theorem jmp_18 : jmP jm_18 = true := by decide +kernel
theorem jmp_19 : jmP jm_19 = true := by decide +kernel
theorem jmp_20 : jmP jm_20 = true := by decide +kernel
theorem jmp_21 : jmP jm_21 = true := by decide +kernel
theorem jmp_22 : jmP jm_22 = true := by decide +kernel
theorem jmp_23 : jmP jm_23 = true := by decide +kernel
theorem jmp_24 : jmP jm_24 = true := by decide +kernel
theorem jmp_25 : jmP jm_25 = true := by decide +kernel
theorem jmp_26 : jmP jm_26 = true := by decide +kernel
theorem jmp_27 : jmP jm_27 = true := by decide +kernel
theorem jmp_28 : jmP jm_28 = true := by decide +kernel
theorem jmp_29 : jmP jm_29 = true := by decide +kernel
theorem jmp_30 : jmP jm_30 = true := by decide +kernel
theorem jmp_31 : jmP jm_31 = true := by decide +kernel
theorem jmp_32 : jmP jm_32 = true := by decide +kernel
theorem jmp_33 : jmP jm_33 = true := by decide +kernel
theorem jmp_34 : jmP jm_34 = true := by decide +kernel
theorem jmp_35 : jmP jm_35 = true := by decide +kernel
theorem jmp_36 : jmP jm_36 = true := by decide +kernel
theorem jmp_37 : jmP jm_37 = true := by decide +kernel
theorem jmp_38 : jmP jm_38 = true := by decide +kernel
theorem jmp_39 : jmP jm_39 = true := by decide +kernel
theorem jmp_40 : jmP jm_40 = true := by decide +kernel
theorem jmp_41 : jmP jm_41 = true := by decide +kernel
theorem jmp_42 : jmP jm_42 = true := by decide +kernel
theorem jmp_43 : jmP jm_43 = true := by decide +kernel
theorem jmp_44 : jmP jm_44 = true := by decide +kernel
theorem jmp_45 : jmP jm_45 = true := by decide +kernel
theorem jmp_46 : jmP jm_46 = true := by decide +kernel
theorem jmp_47 : jmP jm_47 = true := by decide +kernel
theorem jmp_48 : jmP jm_48 = true := by decide +kernel
theorem jmp_49 : jmP jm_49 = true := by decide +kernel
theorem jmp_50 : jmP jm_50 = true := by decide +kernel
theorem jmp_51 : jmP jm_51 = true := by decide +kernel
theorem jmp_52 : jmP jm_52 = true := by decide +kernel
theorem jmp_53 : jmP jm_53 = true := by decide +kernel
theorem jmp_54 : jmP jm_54 = true := by decide +kernel
theorem jmp_55 : jmP jm_55 = true := by decide +kernel
theorem jmp_56 : jmP jm_56 = true := by decide +kernel
theorem jmp_57 : jmP jm_57 = true := by decide +kernel
theorem jmp_58 : jmP jm_58 = true := by decide +kernel
theorem jmp_59 : jmP jm_59 = true := by decide +kernel
theorem jmp_60 : jmP jm_60 = true := by decide +kernel
theorem jmp_61 : jmP jm_61 = true := by decide +kernel
theorem jmp_62 : jmP jm_62 = true := by decide +kernel
theorem jmp_63 : jmP jm_63 = true := by decide +kernel
theorem jmp_64 : jmP jm_64 = true := by decide +kernel
theorem jmp_65 : jmP jm_65 = true := by decide +kernel
theorem jmp_66 : jmP jm_66 = true := by decide +kernel
theorem jmp_67 : jmP jm_67 = true := by decide +kernel
theorem jmp_68 : jmP jm_68 = true := by decide +kernel
theorem jmp_69 : jmP jm_69 = true := by decide +kernel
theorem jmp_70 : jmP jm_70 = true := by decide +kernel
theorem jmp_71 : jmP jm_71 = true := by decide +kernel
theorem jmp_72 : jmP jm_72 = true := by decide +kernel
theorem jmp_73 : jmP jm_73 = true := by decide +kernel
theorem jmp_74 : jmP jm_74 = true := by decide +kernel
theorem jmp_75 : jmP jm_75 = true := by decide +kernel
theorem jmp_76 : jmP jm_76 = true := by decide +kernel
theorem jmp_77 : jmP jm_77 = true := by decide +kernel
theorem jmp_78 : jmP jm_78 = true := by decide +kernel
theorem jmp_79 : jmP jm_79 = true := by decide +kernel
theorem jmp_80 : jmP jm_80 = true := by decide +kernel
theorem jmp_81 : jmP jm_81 = true := by decide +kernel
theorem jmp_82 : jmP jm_82 = true := by decide +kernel
theorem jmp_83 : jmP jm_83 = true := by decide +kernel
theorem jmp_84 : jmP jm_84 = true := by decide +kernel
theorem jmp_85 : jmP jm_85 = true := by decide +kernel
theorem jmp_86 : jmP jm_86 = true := by decide +kernel
theorem jmp_87 : jmP jm_87 = true := by decide +kernel
theorem jmp_88 : jmP jm_88 = true := by decide +kernel
theorem jmp_89 : jmP jm_89 = true := by decide +kernel
theorem jmp_90 : jmP jm_90 = true := by decide +kernel
theorem jmp_91 : jmP jm_91 = true := by decide +kernel
theorem jmp_92 : jmP jm_92 = true := by decide +kernel
theorem jmp_93 : jmP jm_93 = true := by decide +kernel
theorem jmp_94 : jmP jm_94 = true := by decide +kernel
theorem jmp_95 : jmP jm_95 = true := by decide +kernel
theorem jmp_96 : jmP jm_96 = true := by decide +kernel
theorem jmp_97 : jmP jm_97 = true := by decide +kernel
theorem jmp_98 : jmP jm_98 = true := by decide +kernel
theorem jmp_99 : jmP jm_99 = true := by decide +kernel
theorem jmp_100 : jmP jm_100 = true := by decide +kernel
theorem jmp_101 : jmP jm_101 = true := by decide +kernel
theorem jmp_102 : jmP jm_102 = true := by decide +kernel
theorem jmp_103 : jmP jm_103 = true := by decide +kernel
theorem jmp_104 : jmP jm_104 = true := by decide +kernel
theorem jmp_105 : jmP jm_105 = true := by decide +kernel
theorem jmp_106 : jmP jm_106 = true := by decide +kernel
theorem jmp_107 : jmP jm_107 = true := by decide +kernel
theorem jmp_108 : jmP jm_108 = true := by decide +kernel
theorem jmp_109 : jmP jm_109 = true := by decide +kernel
theorem jmp_110 : jmP jm_110 = true := by decide +kernel
theorem jmp_111 : jmP jm_111 = true := by decide +kernel
theorem jmp_112 : jmP jm_112 = true := by decide +kernel
theorem jmp_113 : jmP jm_113 = true := by decide +kernel
theorem jmp_114 : jmP jm_114 = true := by decide +kernel
theorem jmp_115 : jmP jm_115 = true := by decide +kernel
theorem jmp_116 : jmP jm_116 = true := by decide +kernel
theorem jmp_117 : jmP jm_117 = true := by decide +kernel
theorem jmp_118 : jmP jm_118 = true := by decide +kernel
theorem jmp_119 : jmP jm_119 = true := by decide +kernel
theorem jmp_120 : jmP jm_120 = true := by decide +kernel
theorem jmp_121 : jmP jm_121 = true := by decide +kernel
theorem jmp_122 : jmP jm_122 = true := by decide +kernel
theorem jmp_123 : jmP jm_123 = true := by decide +kernel
theorem jmp_124 : jmP jm_124 = true := by decide +kernel
theorem jmp_125 : jmP jm_125 = true := by decide +kernel
theorem jmp_126 : jmP jm_126 = true := by decide +kernel
theorem jmp_127 : jmP jm_127 = true := by decide +kernel
theorem jmp_128 : jmP jm_128 = true := by decide +kernel
theorem jmp_129 : jmP jm_129 = true := by decide +kernel
theorem jmp_130 : jmP jm_130 = true := by decide +kernel
theorem jmp_131 : jmP jm_131 = true := by decide +kernel
theorem jmp_132 : jmP jm_132 = true := by decide +kernel
theorem jmp_133 : jmP jm_133 = true := by decide +kernel
theorem jmp_134 : jmP jm_134 = true := by decide +kernel
theorem jmp_135 : jmP jm_135 = true := by decide +kernel
theorem jmp_136 : jmP jm_136 = true := by decide +kernel
theorem jmp_137 : jmP jm_137 = true := by decide +kernel
theorem jmp_138 : jmP jm_138 = true := by decide +kernel
theorem jmp_139 : jmP jm_139 = true := by decide +kernel
theorem jmp_140 : jmP jm_140 = true := by decide +kernel
theorem jmp_141 : jmP jm_141 = true := by decide +kernel
theorem jmp_142 : jmP jm_142 = true := by decide +kernel
theorem jmp_143 : jmP jm_143 = true := by decide +kernel
theorem jmp_144 : jmP jm_144 = true := by decide +kernel
theorem jmp_145 : jmP jm_145 = true := by decide +kernel
theorem jmp_146 : jmP jm_146 = true := by decide +kernel
theorem jmp_147 : jmP jm_147 = true := by decide +kernel
theorem jmp_148 : jmP jm_148 = true := by decide +kernel
theorem jmp_149 : jmP jm_149 = true := by decide +kernel
theorem jmp_150 : jmP jm_150 = true := by decide +kernel
theorem jmp_151 : jmP jm_151 = true := by decide +kernel
theorem jmp_152 : jmP jm_152 = true := by decide +kernel
theorem jmp_153 : jmP jm_153 = true := by decide +kernel
theorem jmp_154 : jmP jm_154 = true := by decide +kernel
theorem jmp_155 : jmP jm_155 = true := by decide +kernel
theorem jmp_156 : jmP jm_156 = true := by decide +kernel
theorem jmp_157 : jmP jm_157 = true := by decide +kernel
theorem jmp_158 : jmP jm_158 = true := by decide +kernel
theorem jmp_159 : jmP jm_159 = true := by decide +kernel
theorem jmp_160 : jmP jm_160 = true := by decide +kernel
theorem jmp_161 : jmP jm_161 = true := by decide +kernel
theorem jmp_162 : jmP jm_162 = true := by decide +kernel
theorem jmp_163 : jmP jm_163 = true := by decide +kernel
theorem jmp_164 : jmP jm_164 = true := by decide +kernel
theorem jmp_165 : jmP jm_165 = true := by decide +kernel
theorem jmp_166 : jmP jm_166 = true := by decide +kernel
theorem jmp_167 : jmP jm_167 = true := by decide +kernel
theorem jmp_168 : jmP jm_168 = true := by decide +kernel
theorem jmp_169 : jmP jm_169 = true := by decide +kernel
theorem jmp_170 : jmP jm_170 = true := by decide +kernel
theorem jmp_171 : jmP jm_171 = true := by decide +kernel
theorem jmp_172 : jmP jm_172 = true := by decide +kernel
theorem jmp_173 : jmP jm_173 = true := by decide +kernel
theorem jmp_174 : jmP jm_174 = true := by decide +kernel
theorem jmp_175 : jmP jm_175 = true := by decide +kernel
theorem jmp_176 : jmP jm_176 = true := by decide +kernel
theorem jmp_177 : jmP jm_177 = true := by decide +kernel
theorem jmp_178 : jmP jm_178 = true := by decide +kernel
theorem jmp_179 : jmP jm_179 = true := by decide +kernel
theorem jmp_180 : jmP jm_180 = true := by decide +kernel
theorem jmp_181 : jmP jm_181 = true := by decide +kernel
theorem jmp_182 : jmP jm_182 = true := by decide +kernel
theorem jmp_183 : jmP jm_183 = true := by decide +kernel
theorem jmp_184 : jmP jm_184 = true := by decide +kernel
theorem jmp_185 : jmP jm_185 = true := by decide +kernel
theorem jmp_186 : jmP jm_186 = true := by decide +kernel
theorem jmp_187 : jmP jm_187 = true := by decide +kernel
theorem jmp_188 : jmP jm_188 = true := by decide +kernel
theorem jmp_189 : jmP jm_189 = true := by decide +kernel
theorem jmp_190 : jmP jm_190 = true := by decide +kernel
theorem jmp_191 : jmP jm_191 = true := by decide +kernel
theorem jmp_192 : jmP jm_192 = true := by decide +kernel
theorem jmp_193 : jmP jm_193 = true := by decide +kernel
theorem jmp_194 : jmP jm_194 = true := by decide +kernel
theorem jmp_195 : jmP jm_195 = true := by decide +kernel
theorem jmp_196 : jmP jm_196 = true := by decide +kernel
theorem jmp_197 : jmP jm_197 = true := by decide +kernel
theorem jmp_198 : jmP jm_198 = true := by decide +kernel
theorem jmp_199 : jmP jm_199 = true := by decide +kernel
theorem jmp_200 : jmP jm_200 = true := by decide +kernel
theorem jmp_201 : jmP jm_201 = true := by decide +kernel
theorem jmp_202 : jmP jm_202 = true := by decide +kernel
theorem jmp_203 : jmP jm_203 = true := by decide +kernel
theorem jmp_204 : jmP jm_204 = true := by decide +kernel
theorem jmp_205 : jmP jm_205 = true := by decide +kernel
theorem jmp_206 : jmP jm_206 = true := by decide +kernel
theorem jmp_207 : jmP jm_207 = true := by decide +kernel
theorem jmp_208 : jmP jm_208 = true := by decide +kernel
theorem jmp_209 : jmP jm_209 = true := by decide +kernel
theorem jmp_210 : jmP jm_210 = true := by decide +kernel
theorem jmp_211 : jmP jm_211 = true := by decide +kernel
theorem jmp_212 : jmP jm_212 = true := by decide +kernel
theorem jmp_213 : jmP jm_213 = true := by decide +kernel
theorem jmp_214 : jmP jm_214 = true := by decide +kernel
theorem jmp_215 : jmP jm_215 = true := by decide +kernel
theorem jmp_216 : jmP jm_216 = true := by decide +kernel
theorem jmp_217 : jmP jm_217 = true := by decide +kernel
theorem jmp_218 : jmP jm_218 = true := by decide +kernel
theorem jmp_219 : jmP jm_219 = true := by decide +kernel
theorem jmp_220 : jmP jm_220 = true := by decide +kernel
theorem jmp_221 : jmP jm_221 = true := by decide +kernel
theorem jmp_222 : jmP jm_222 = true := by decide +kernel
theorem jmp_223 : jmP jm_223 = true := by decide +kernel
theorem jmp_224 : jmP jm_224 = true := by decide +kernel
theorem jmp_225 : jmP jm_225 = true := by decide +kernel
theorem jmp_226 : jmP jm_226 = true := by decide +kernel
theorem jmp_227 : jmP jm_227 = true := by decide +kernel
theorem jmp_228 : jmP jm_228 = true := by decide +kernel
theorem jmp_229 : jmP jm_229 = true := by decide +kernel
theorem jmp_230 : jmP jm_230 = true := by decide +kernel
theorem jmp_231 : jmP jm_231 = true := by decide +kernel
theorem jmp_232 : jmP jm_232 = true := by decide +kernel
theorem jmp_233 : jmP jm_233 = true := by decide +kernel
theorem jmp_234 : jmP jm_234 = true := by decide +kernel
theorem jmp_235 : jmP jm_235 = true := by decide +kernel
theorem jmp_236 : jmP jm_236 = true := by decide +kernel
theorem jmp_237 : jmP jm_237 = true := by decide +kernel
theorem jmp_238 : jmP jm_238 = true := by decide +kernel
theorem jmp_239 : jmP jm_239 = true := by decide +kernel
theorem jmp_240 : jmP jm_240 = true := by decide +kernel
theorem jmp_241 : jmP jm_241 = true := by decide +kernel
theorem jmp_242 : jmP jm_242 = true := by decide +kernel
theorem jmp_243 : jmP jm_243 = true := by decide +kernel
theorem jmp_244 : jmP jm_244 = true := by decide +kernel
theorem jmp_245 : jmP jm_245 = true := by decide +kernel
theorem jmp_246 : jmP jm_246 = true := by decide +kernel
theorem jmp_247 : jmP jm_247 = true := by decide +kernel
theorem jmp_248 : jmP jm_248 = true := by decide +kernel
theorem jmp_249 : jmP jm_249 = true := by decide +kernel
theorem jmp_250 : jmP jm_250 = true := by decide +kernel
theorem jmp_251 : jmP jm_251 = true := by decide +kernel
theorem jmp_252 : jmP jm_252 = true := by decide +kernel
theorem jmp_253 : jmP jm_253 = true := by decide +kernel
theorem jmp_254 : jmP jm_254 = true := by decide +kernel
theorem jmp_255 : jmP jm_255 = true := by decide +kernel
theorem jmp_256 : jmP jm_256 = true := by decide +kernel
theorem jmp_257 : jmP jm_257 = true := by decide +kernel
theorem jmp_258 : jmP jm_258 = true := by decide +kernel
theorem jmp_259 : jmP jm_259 = true := by decide +kernel
theorem jmp_260 : jmP jm_260 = true := by decide +kernel
theorem jmp_261 : jmP jm_261 = true := by decide +kernel
theorem jmp_262 : jmP jm_262 = true := by decide +kernel
theorem jmp_263 : jmP jm_263 = true := by decide +kernel
theorem jmp_264 : jmP jm_264 = true := by decide +kernel
theorem jmp_265 : jmP jm_265 = true := by decide +kernel
theorem jmp_266 : jmP jm_266 = true := by decide +kernel
theorem jmp_267 : jmP jm_267 = true := by decide +kernel
theorem jmp_268 : jmP jm_268 = true := by decide +kernel
theorem jmp_269 : jmP jm_269 = true := by decide +kernel
theorem jmp_270 : jmP jm_270 = true := by decide +kernel
theorem jmp_271 : jmP jm_271 = true := by decide +kernel
theorem jmp_272 : jmP jm_272 = true := by decide +kernel
theorem jmp_273 : jmP jm_273 = true := by decide +kernel
theorem jmp_274 : jmP jm_274 = true := by decide +kernel
theorem jmp_275 : jmP jm_275 = true := by decide +kernel
theorem jmp_276 : jmP jm_276 = true := by decide +kernel
theorem jmp_277 : jmP jm_277 = true := by decide +kernel
theorem jmp_278 : jmP jm_278 = true := by decide +kernel
theorem jmp_279 : jmP jm_279 = true := by decide +kernel
theorem jmp_280 : jmP jm_280 = true := by decide +kernel
theorem jmp_281 : jmP jm_281 = true := by decide +kernel
theorem jmp_282 : jmP jm_282 = true := by decide +kernel
theorem jmp_283 : jmP jm_283 = true := by decide +kernel
theorem jmp_284 : jmP jm_284 = true := by decide +kernel
theorem jmp_285 : jmP jm_285 = true := by decide +kernel
theorem jmp_286 : jmP jm_286 = true := by decide +kernel
theorem jmp_287 : jmP jm_287 = true := by decide +kernel
theorem jmp_288 : jmP jm_288 = true := by decide +kernel
theorem jmp_289 : jmP jm_289 = true := by decide +kernel
theorem jmp_290 : jmP jm_290 = true := by decide +kernel
theorem jmp_291 : jmP jm_291 = true := by decide +kernel
theorem jmp_292 : jmP jm_292 = true := by decide +kernel
theorem jmp_293 : jmP jm_293 = true := by decide +kernel
theorem jmp_294 : jmP jm_294 = true := by decide +kernel
theorem jmp_295 : jmP jm_295 = true := by decide +kernel
theorem jmp_296 : jmP jm_296 = true := by decide +kernel
theorem jmp_297 : jmP jm_297 = true := by decide +kernel
theorem jmp_298 : jmP jm_298 = true := by decide +kernel
theorem jmp_299 : jmP jm_299 = true := by decide +kernel
theorem jmp_300 : jmP jm_300 = true := by decide +kernel
theorem jmp_301 : jmP jm_301 = true := by decide +kernel
theorem jmp_302 : jmP jm_302 = true := by decide +kernel
theorem jmp_303 : jmP jm_303 = true := by decide +kernel
theorem jmp_304 : jmP jm_304 = true := by decide +kernel
theorem jmp_305 : jmP jm_305 = true := by decide +kernel
theorem jmp_306 : jmP jm_306 = true := by decide +kernel
theorem jmp_307 : jmP jm_307 = true := by decide +kernel
theorem jmp_308 : jmP jm_308 = true := by decide +kernel
theorem jmp_309 : jmP jm_309 = true := by decide +kernel
theorem jmp_310 : jmP jm_310 = true := by decide +kernel
theorem jmp_311 : jmP jm_311 = true := by decide +kernel
theorem jmp_312 : jmP jm_312 = true := by decide +kernel
theorem jmp_313 : jmP jm_313 = true := by decide +kernel
theorem jmp_314 : jmP jm_314 = true := by decide +kernel
theorem jmp_315 : jmP jm_315 = true := by decide +kernel
theorem jmp_316 : jmP jm_316 = true := by decide +kernel
theorem jmp_317 : jmP jm_317 = true := by decide +kernel
theorem jmp_318 : jmP jm_318 = true := by decide +kernel
theorem jmp_319 : jmP jm_319 = true := by decide +kernel
theorem jmp_320 : jmP jm_320 = true := by decide +kernel
theorem jmp_321 : jmP jm_321 = true := by decide +kernel
theorem jmp_322 : jmP jm_322 = true := by decide +kernel
theorem jmp_323 : jmP jm_323 = true := by decide +kernel
theorem jmp_324 : jmP jm_324 = true := by decide +kernel
theorem jmp_325 : jmP jm_325 = true := by decide +kernel
theorem jmp_326 : jmP jm_326 = true := by decide +kernel
theorem jmp_327 : jmP jm_327 = true := by decide +kernel
theorem jmp_328 : jmP jm_328 = true := by decide +kernel
theorem jmp_329 : jmP jm_329 = true := by decide +kernel
theorem jmp_330 : jmP jm_330 = true := by decide +kernel
theorem jmp_331 : jmP jm_331 = true := by decide +kernel
theorem jmp_332 : jmP jm_332 = true := by decide +kernel
theorem jmp_333 : jmP jm_333 = true := by decide +kernel
theorem jmp_334 : jmP jm_334 = true := by decide +kernel
theorem jmp_335 : jmP jm_335 = true := by decide +kernel
theorem jmp_336 : jmP jm_336 = true := by decide +kernel
theorem jmp_337 : jmP jm_337 = true := by decide +kernel
theorem jmp_338 : jmP jm_338 = true := by decide +kernel
theorem jmp_339 : jmP jm_339 = true := by decide +kernel
theorem jmp_340 : jmP jm_340 = true := by decide +kernel
theorem jmp_341 : jmP jm_341 = true := by decide +kernel
theorem jmp_342 : jmP jm_342 = true := by decide +kernel
theorem jmp_343 : jmP jm_343 = true := by decide +kernel
theorem jmp_344 : jmP jm_344 = true := by decide +kernel
theorem jmp_345 : jmP jm_345 = true := by decide +kernel
theorem jmp_346 : jmP jm_346 = true := by decide +kernel
theorem jmp_347 : jmP jm_347 = true := by decide +kernel
theorem jmp_348 : jmP jm_348 = true := by decide +kernel
theorem jmp_349 : jmP jm_349 = true := by decide +kernel
theorem jmp_350 : jmP jm_350 = true := by decide +kernel
theorem jmp_351 : jmP jm_351 = true := by decide +kernel
theorem jmp_352 : jmP jm_352 = true := by decide +kernel
theorem jmp_353 : jmP jm_353 = true := by decide +kernel
theorem jmp_354 : jmP jm_354 = true := by decide +kernel
theorem jmp_355 : jmP jm_355 = true := by decide +kernel
theorem jmp_356 : jmP jm_356 = true := by decide +kernel
theorem jmp_357 : jmP jm_357 = true := by decide +kernel
theorem jmp_358 : jmP jm_358 = true := by decide +kernel
theorem jmp_359 : jmP jm_359 = true := by decide +kernel
theorem jmp_360 : jmP jm_360 = true := by decide +kernel
theorem jmp_361 : jmP jm_361 = true := by decide +kernel
theorem jmp_362 : jmP jm_362 = true := by decide +kernel
theorem jmp_363 : jmP jm_363 = true := by decide +kernel
theorem jmp_364 : jmP jm_364 = true := by decide +kernel
theorem jmp_365 : jmP jm_365 = true := by decide +kernel
theorem jmp_366 : jmP jm_366 = true := by decide +kernel
theorem jmp_367 : jmP jm_367 = true := by decide +kernel
theorem jmp_368 : jmP jm_368 = true := by decide +kernel
theorem jmp_369 : jmP jm_369 = true := by decide +kernel
theorem jmp_370 : jmP jm_370 = true := by decide +kernel
theorem jmp_371 : jmP jm_371 = true := by decide +kernel
theorem jmp_372 : jmP jm_372 = true := by decide +kernel
theorem jmp_373 : jmP jm_373 = true := by decide +kernel
theorem jmp_374 : jmP jm_374 = true := by decide +kernel
theorem jmp_375 : jmP jm_375 = true := by decide +kernel
theorem jmp_376 : jmP jm_376 = true := by decide +kernel
theorem jmp_377 : jmP jm_377 = true := by decide +kernel
theorem jmp_378 : jmP jm_378 = true := by decide +kernel
theorem jmp_379 : jmP jm_379 = true := by decide +kernel
theorem jmP_ok (m : Nat) : jmP (jm m) = true := (jcond (P := fun x => jmP x = true) (jcond (P := fun x => jmP x = true) (jcond (P := fun x => jmP x = true) (jcond (P := fun x => jmP x = true) (jcond (P := fun x => jmP x = true) (jcond (P := fun x => jmP x = true) (jcond (P := fun x => jmP x = true) (jcond (P := fun x => jmP x = true) jmp_0 jmp_1) (jcond (P := fun x => jmP x = true) jmp_2 (jcond (P := fun x => jmP x = true) jmp_3 jmp_4))) (jcond (P := fun x => jmP x = true) (jcond (P := fun x => jmP x = true) jmp_5 (jcond (P := fun x => jmP x = true) jmp_6 jmp_7)) (jcond (P := fun x => jmP x = true) jmp_8 (jcond (P := fun x => jmP x = true) jmp_9 jmp_10)))) (jcond (P := fun x => jmP x = true) (jcond (P := fun x => jmP x = true) (jcond (P := fun x => jmP x = true) jmp_11 (jcond (P := fun x => jmP x = true) jmp_12 jmp_13)) (jcond (P := fun x => jmP x = true) jmp_14 (jcond (P := fun x => jmP x = true) jmp_15 jmp_16))) (jcond (P := fun x => jmP x = true) (jcond (P := fun x => jmP x = true) jmp_17 (jcond (P := fun x => jmP x = true) jmp_18 jmp_19)) (jcond (P := fun x => jmP x = true) jmp_20 (jcond (P := fun x => jmP x = true) jmp_21 jmp_22))))) (jcond (P := fun x => jmP x = true) (jcond (P := fun x => jmP x = true) (jcond (P := fun x => jmP x = true) (jcond (P := fun x => jmP x = true) jmp_23 (jcond (P := fun x => jmP x = true) jmp_24 jmp_25)) (jcond (P := fun x => jmP x = true) jmp_26 (jcond (P := fun x => jmP x = true) jmp_27 jmp_28))) (jcond (P := fun x => jmP x = true) (jcond (P := fun x => jmP x = true) jmp_29 (jcond (P := fun x => jmP x = true) jmp_30 jmp_31)) (jcond (P := fun x => jmP x = true) jmp_32 (jcond (P := fun x => jmP x = true) jmp_33 jmp_34)))) (jcond (P := fun x => jmP x = true) (jcond (P := fun x => jmP x = true) (jcond (P := fun x => jmP x = true) jmp_35 (jcond (P := fun x => jmP x = true) jmp_36 jmp_37)) (jcond (P := fun x => jmP x = true) jmp_38 (jcond (P := fun x => jmP x = true) jmp_39 jmp_40))) (jcond (P := fun x => jmP x = true) (jcond (P := fun x => jmP x = true) jmp_41 (jcond (P := fun x => jmP x = true) jmp_42 jmp_43)) (jcond (P := fun x => jmP x = true) jmp_44 (jcond (P := fun x => jmP x = true) jmp_45 jmp_46)))))) (jcond (P := fun x => jmP x = true) (jcond (P := fun x => jmP x = true) (jcond (P := fun x => jmP x = true) (jcond (P := fun x => jmP x = true) (jcond (P := fun x => jmP x = true) jmp_47 (jcond (P := fun x => jmP x = true) jmp_48 jmp_49)) (jcond (P := fun x => jmP x = true) jmp_50 (jcond (P := fun x => jmP x = true) jmp_51 jmp_52))) (jcond (P := fun x => jmP x = true) (jcond (P := fun x => jmP x = true) jmp_53 (jcond (P := fun x => jmP x = true) jmp_54 jmp_55)) (jcond (P := fun x => jmP x = true) jmp_56 (jcond (P := fun x => jmP x = true) jmp_57 jmp_58)))) (jcond (P := fun x => jmP x = true) (jcond (P := fun x => jmP x = true) (jcond (P := fun x => jmP x = true) jmp_59 (jcond (P := fun x => jmP x = true) jmp_60 jmp_61)) (jcond (P := fun x => jmP x = true) jmp_62 (jcond (P := fun x => jmP x = true) jmp_63 jmp_64))) (jcond (P := fun x => jmP x = true) (jcond (P := fun x => jmP x = true) jmp_65 (jcond (P := fun x => jmP x = true) jmp_66 jmp_67)) (jcond (P := fun x => jmP x = true) jmp_68 (jcond (P := fun x => jmP x = true) jmp_69 jmp_70))))) (jcond (P := fun x => jmP x = true) (jcond (P := fun x => jmP x = true) (jcond (P := fun x => jmP x = true) (jcond (P := fun x => jmP x = true) jmp_71 (jcond (P := fun x => jmP x = true) jmp_72 jmp_73)) (jcond (P := fun x => jmP x = true) jmp_74 (jcond (P := fun x => jmP x = true) jmp_75 jmp_76))) (jcond (P := fun x => jmP x = true) (jcond (P := fun x => jmP x = true) jmp_77 (jcond (P := fun x => jmP x = true) jmp_78 jmp_79)) (jcond (P := fun x => jmP x = true) jmp_80 (jcond (P := fun x => jmP x = true) jmp_81 jmp_82)))) (jcond (P := fun x => jmP x = true) (jcond (P := fun x => jmP x = true) (jcond (P := fun x => jmP x = true) jmp_83 (jcond (P := fun x => jmP x = true) jmp_84 jmp_85)) (jcond (P := fun x => jmP x = true) jmp_86 (jcond (P := fun x => jmP x = true) jmp_87 jmp_88))) (jcond (P := fun x => jmP x = true) (jcond (P := fun x => jmP x = true) jmp_89 (jcond (P := fun x => jmP x = true) jmp_90 jmp_91)) (jcond (P := fun x => jmP x = true) jmp_92 (jcond (P := fun x => jmP x = true) jmp_93 jmp_94))))))) (jcond (P := fun x => jmP x = true) (jcond (P := fun x => jmP x = true) (jcond (P := fun x => jmP x = true) (jcond (P := fun x => jmP x = true) (jcond (P := fun x => jmP x = true) (jcond (P := fun x => jmP x = true) jmp_95 jmp_96) (jcond (P := fun x => jmP x = true) jmp_97 (jcond (P := fun x => jmP x = true) jmp_98 jmp_99))) (jcond (P := fun x => jmP x = true) (jcond (P := fun x => jmP x = true) jmp_100 (jcond (P := fun x => jmP x = true) jmp_101 jmp_102)) (jcond (P := fun x => jmP x = true) jmp_103 (jcond (P := fun x => jmP x = true) jmp_104 jmp_105)))) (jcond (P := fun x => jmP x = true) (jcond (P := fun x => jmP x = true) (jcond (P := fun x => jmP x = true) jmp_106 (jcond (P := fun x => jmP x = true) jmp_107 jmp_108)) (jcond (P := fun x => jmP x = true) jmp_109 (jcond (P := fun x => jmP x = true) jmp_110 jmp_111))) (jcond (P := fun x => jmP x = true) (jcond (P := fun x => jmP x = true) jmp_112 (jcond (P := fun x => jmP x = true) jmp_113 jmp_114)) (jcond (P := fun x => jmP x = true) jmp_115 (jcond (P := fun x => jmP x = true) jmp_116 jmp_117))))) (jcond (P := fun x => jmP x = true) (jcond (P := fun x => jmP x = true) (jcond (P := fun x => jmP x = true) (jcond (P := fun x => jmP x = true) jmp_118 (jcond (P := fun x => jmP x = true) jmp_119 jmp_120)) (jcond (P := fun x => jmP x = true) jmp_121 (jcond (P := fun x => jmP x = true) jmp_122 jmp_123))) (jcond (P := fun x => jmP x = true) (jcond (P := fun x => jmP x = true) jmp_124 (jcond (P := fun x => jmP x = true) jmp_125 jmp_126)) (jcond (P := fun x => jmP x = true) jmp_127 (jcond (P := fun x => jmP x = true) jmp_128 jmp_129)))) (jcond (P := fun x => jmP x = true) (jcond (P := fun x => jmP x = true) (jcond (P := fun x => jmP x = true) jmp_130 (jcond (P := fun x => jmP x = true) jmp_131 jmp_132)) (jcond (P := fun x => jmP x = true) jmp_133 (jcond (P := fun x => jmP x = true) jmp_134 jmp_135))) (jcond (P := fun x => jmP x = true) (jcond (P := fun x => jmP x = true) jmp_136 (jcond (P := fun x => jmP x = true) jmp_137 jmp_138)) (jcond (P := fun x => jmP x = true) jmp_139 (jcond (P := fun x => jmP x = true) jmp_140 jmp_141)))))) (jcond (P := fun x => jmP x = true) (jcond (P := fun x => jmP x = true) (jcond (P := fun x => jmP x = true) (jcond (P := fun x => jmP x = true) (jcond (P := fun x => jmP x = true) jmp_142 (jcond (P := fun x => jmP x = true) jmp_143 jmp_144)) (jcond (P := fun x => jmP x = true) jmp_145 (jcond (P := fun x => jmP x = true) jmp_146 jmp_147))) (jcond (P := fun x => jmP x = true) (jcond (P := fun x => jmP x = true) jmp_148 (jcond (P := fun x => jmP x = true) jmp_149 jmp_150)) (jcond (P := fun x => jmP x = true) jmp_151 (jcond (P := fun x => jmP x = true) jmp_152 jmp_153)))) (jcond (P := fun x => jmP x = true) (jcond (P := fun x => jmP x = true) (jcond (P := fun x => jmP x = true) jmp_154 (jcond (P := fun x => jmP x = true) jmp_155 jmp_156)) (jcond (P := fun x => jmP x = true) jmp_157 (jcond (P := fun x => jmP x = true) jmp_158 jmp_159))) (jcond (P := fun x => jmP x = true) (jcond (P := fun x => jmP x = true) jmp_160 (jcond (P := fun x => jmP x = true) jmp_161 jmp_162)) (jcond (P := fun x => jmP x = true) jmp_163 (jcond (P := fun x => jmP x = true) jmp_164 jmp_165))))) (jcond (P := fun x => jmP x = true) (jcond (P := fun x => jmP x = true) (jcond (P := fun x => jmP x = true) (jcond (P := fun x => jmP x = true) jmp_166 (jcond (P := fun x => jmP x = true) jmp_167 jmp_168)) (jcond (P := fun x => jmP x = true) jmp_169 (jcond (P := fun x => jmP x = true) jmp_170 jmp_171))) (jcond (P := fun x => jmP x = true) (jcond (P := fun x => jmP x = true) jmp_172 (jcond (P := fun x => jmP x = true) jmp_173 jmp_174)) (jcond (P := fun x => jmP x = true) jmp_175 (jcond (P := fun x => jmP x = true) jmp_176 jmp_177)))) (jcond (P := fun x => jmP x = true) (jcond (P := fun x => jmP x = true) (jcond (P := fun x => jmP x = true) jmp_178 (jcond (P := fun x => jmP x = true) jmp_179 jmp_180)) (jcond (P := fun x => jmP x = true) jmp_181 (jcond (P := fun x => jmP x = true) jmp_182 jmp_183))) (jcond (P := fun x => jmP x = true) (jcond (P := fun x => jmP x = true) jmp_184 (jcond (P := fun x => jmP x = true) jmp_185 jmp_186)) (jcond (P := fun x => jmP x = true) jmp_187 (jcond (P := fun x => jmP x = true) jmp_188 jmp_189)))))))) (jcond (P := fun x => jmP x = true) (jcond (P := fun x => jmP x = true) (jcond (P := fun x => jmP x = true) (jcond (P := fun x => jmP x = true) (jcond (P := fun x => jmP x = true) (jcond (P := fun x => jmP x = true) (jcond (P := fun x => jmP x = true) jmp_190 jmp_191) (jcond (P := fun x => jmP x = true) jmp_192 (jcond (P := fun x => jmP x = true) jmp_193 jmp_194))) (jcond (P := fun x => jmP x = true) (jcond (P := fun x => jmP x = true) jmp_195 (jcond (P := fun x => jmP x = true) jmp_196 jmp_197)) (jcond (P := fun x => jmP x = true) jmp_198 (jcond (P := fun x => jmP x = true) jmp_199 jmp_200)))) (jcond (P := fun x => jmP x = true) (jcond (P := fun x => jmP x = true) (jcond (P := fun x => jmP x = true) jmp_201 (jcond (P := fun x => jmP x = true) jmp_202 jmp_203)) (jcond (P := fun x => jmP x = true) jmp_204 (jcond (P := fun x => jmP x = true) jmp_205 jmp_206))) (jcond (P := fun x => jmP x = true) (jcond (P := fun x => jmP x = true) jmp_207 (jcond (P := fun x => jmP x = true) jmp_208 jmp_209)) (jcond (P := fun x => jmP x = true) jmp_210 (jcond (P := fun x => jmP x = true) jmp_211 jmp_212))))) (jcond (P := fun x => jmP x = true) (jcond (P := fun x => jmP x = true) (jcond (P := fun x => jmP x = true) (jcond (P := fun x => jmP x = true) jmp_213 (jcond (P := fun x => jmP x = true) jmp_214 jmp_215)) (jcond (P := fun x => jmP x = true) jmp_216 (jcond (P := fun x => jmP x = true) jmp_217 jmp_218))) (jcond (P := fun x => jmP x = true) (jcond (P := fun x => jmP x = true) jmp_219 (jcond (P := fun x => jmP x = true) jmp_220 jmp_221)) (jcond (P := fun x => jmP x = true) jmp_222 (jcond (P := fun x => jmP x = true) jmp_223 jmp_224)))) (jcond (P := fun x => jmP x = true) (jcond (P := fun x => jmP x = true) (jcond (P := fun x => jmP x = true) jmp_225 (jcond (P := fun x => jmP x = true) jmp_226 jmp_227)) (jcond (P := fun x => jmP x = true) jmp_228 (jcond (P := fun x => jmP x = true) jmp_229 jmp_230))) (jcond (P := fun x => jmP x = true) (jcond (P := fun x => jmP x = true) jmp_231 (jcond (P := fun x => jmP x = true) jmp_232 jmp_233)) (jcond (P := fun x => jmP x = true) jmp_234 (jcond (P := fun x => jmP x = true) jmp_235 jmp_236)))))) (jcond (P := fun x => jmP x = true) (jcond (P := fun x => jmP x = true) (jcond (P := fun x => jmP x = true) (jcond (P := fun x => jmP x = true) (jcond (P := fun x => jmP x = true) jmp_237 (jcond (P := fun x => jmP x = true) jmp_238 jmp_239)) (jcond (P := fun x => jmP x = true) jmp_240 (jcond (P := fun x => jmP x = true) jmp_241 jmp_242))) (jcond (P := fun x => jmP x = true) (jcond (P := fun x => jmP x = true) jmp_243 (jcond (P := fun x => jmP x = true) jmp_244 jmp_245)) (jcond (P := fun x => jmP x = true) jmp_246 (jcond (P := fun x => jmP x = true) jmp_247 jmp_248)))) (jcond (P := fun x => jmP x = true) (jcond (P := fun x => jmP x = true) (jcond (P := fun x => jmP x = true) jmp_249 (jcond (P := fun x => jmP x = true) jmp_250 jmp_251)) (jcond (P := fun x => jmP x = true) jmp_252 (jcond (P := fun x => jmP x = true) jmp_253 jmp_254))) (jcond (P := fun x => jmP x = true) (jcond (P := fun x => jmP x = true) jmp_255 (jcond (P := fun x => jmP x = true) jmp_256 jmp_257)) (jcond (P := fun x => jmP x = true) jmp_258 (jcond (P := fun x => jmP x = true) jmp_259 jmp_260))))) (jcond (P := fun x => jmP x = true) (jcond (P := fun x => jmP x = true) (jcond (P := fun x => jmP x = true) (jcond (P := fun x => jmP x = true) jmp_261 (jcond (P := fun x => jmP x = true) jmp_262 jmp_263)) (jcond (P := fun x => jmP x = true) jmp_264 (jcond (P := fun x => jmP x = true) jmp_265 jmp_266))) (jcond (P := fun x => jmP x = true) (jcond (P := fun x => jmP x = true) jmp_267 (jcond (P := fun x => jmP x = true) jmp_268 jmp_269)) (jcond (P := fun x => jmP x = true) jmp_270 (jcond (P := fun x => jmP x = true) jmp_271 jmp_272)))) (jcond (P := fun x => jmP x = true) (jcond (P := fun x => jmP x = true) (jcond (P := fun x => jmP x = true) jmp_273 (jcond (P := fun x => jmP x = true) jmp_274 jmp_275)) (jcond (P := fun x => jmP x = true) jmp_276 (jcond (P := fun x => jmP x = true) jmp_277 jmp_278))) (jcond (P := fun x => jmP x = true) (jcond (P := fun x => jmP x = true) jmp_279 (jcond (P := fun x => jmP x = true) jmp_280 jmp_281)) (jcond (P := fun x => jmP x = true) jmp_282 (jcond (P := fun x => jmP x = true) jmp_283 jmp_284))))))) (jcond (P := fun x => jmP x = true) (jcond (P := fun x => jmP x = true) (jcond (P := fun x => jmP x = true) (jcond (P := fun x => jmP x = true) (jcond (P := fun x => jmP x = true) (jcond (P := fun x => jmP x = true) jmp_285 jmp_286) (jcond (P := fun x => jmP x = true) jmp_287 (jcond (P := fun x => jmP x = true) jmp_288 jmp_289))) (jcond (P := fun x => jmP x = true) (jcond (P := fun x => jmP x = true) jmp_290 (jcond (P := fun x => jmP x = true) jmp_291 jmp_292)) (jcond (P := fun x => jmP x = true) jmp_293 (jcond (P := fun x => jmP x = true) jmp_294 jmp_295)))) (jcond (P := fun x => jmP x = true) (jcond (P := fun x => jmP x = true) (jcond (P := fun x => jmP x = true) jmp_296 (jcond (P := fun x => jmP x = true) jmp_297 jmp_298)) (jcond (P := fun x => jmP x = true) jmp_299 (jcond (P := fun x => jmP x = true) jmp_300 jmp_301))) (jcond (P := fun x => jmP x = true) (jcond (P := fun x => jmP x = true) jmp_302 (jcond (P := fun x => jmP x = true) jmp_303 jmp_304)) (jcond (P := fun x => jmP x = true) jmp_305 (jcond (P := fun x => jmP x = true) jmp_306 jmp_307))))) (jcond (P := fun x => jmP x = true) (jcond (P := fun x => jmP x = true) (jcond (P := fun x => jmP x = true) (jcond (P := fun x => jmP x = true) jmp_308 (jcond (P := fun x => jmP x = true) jmp_309 jmp_310)) (jcond (P := fun x => jmP x = true) jmp_311 (jcond (P := fun x => jmP x = true) jmp_312 jmp_313))) (jcond (P := fun x => jmP x = true) (jcond (P := fun x => jmP x = true) jmp_314 (jcond (P := fun x => jmP x = true) jmp_315 jmp_316)) (jcond (P := fun x => jmP x = true) jmp_317 (jcond (P := fun x => jmP x = true) jmp_318 jmp_319)))) (jcond (P := fun x => jmP x = true) (jcond (P := fun x => jmP x = true) (jcond (P := fun x => jmP x = true) jmp_320 (jcond (P := fun x => jmP x = true) jmp_321 jmp_322)) (jcond (P := fun x => jmP x = true) jmp_323 (jcond (P := fun x => jmP x = true) jmp_324 jmp_325))) (jcond (P := fun x => jmP x = true) (jcond (P := fun x => jmP x = true) jmp_326 (jcond (P := fun x => jmP x = true) jmp_327 jmp_328)) (jcond (P := fun x => jmP x = true) jmp_329 (jcond (P := fun x => jmP x = true) jmp_330 jmp_331)))))) (jcond (P := fun x => jmP x = true) (jcond (P := fun x => jmP x = true) (jcond (P := fun x => jmP x = true) (jcond (P := fun x => jmP x = true) (jcond (P := fun x => jmP x = true) jmp_332 (jcond (P := fun x => jmP x = true) jmp_333 jmp_334)) (jcond (P := fun x => jmP x = true) jmp_335 (jcond (P := fun x => jmP x = true) jmp_336 jmp_337))) (jcond (P := fun x => jmP x = true) (jcond (P := fun x => jmP x = true) jmp_338 (jcond (P := fun x => jmP x = true) jmp_339 jmp_340)) (jcond (P := fun x => jmP x = true) jmp_341 (jcond (P := fun x => jmP x = true) jmp_342 jmp_343)))) (jcond (P := fun x => jmP x = true) (jcond (P := fun x => jmP x = true) (jcond (P := fun x => jmP x = true) jmp_344 (jcond (P := fun x => jmP x = true) jmp_345 jmp_346)) (jcond (P := fun x => jmP x = true) jmp_347 (jcond (P := fun x => jmP x = true) jmp_348 jmp_349))) (jcond (P := fun x => jmP x = true) (jcond (P := fun x => jmP x = true) jmp_350 (jcond (P := fun x => jmP x = true) jmp_351 jmp_352)) (jcond (P := fun x => jmP x = true) jmp_353 (jcond (P := fun x => jmP x = true) jmp_354 jmp_355))))) (jcond (P := fun x => jmP x = true) (jcond (P := fun x => jmP x = true) (jcond (P := fun x => jmP x = true) (jcond (P := fun x => jmP x = true) jmp_356 (jcond (P := fun x => jmP x = true) jmp_357 jmp_358)) (jcond (P := fun x => jmP x = true) jmp_359 (jcond (P := fun x => jmP x = true) jmp_360 jmp_361))) (jcond (P := fun x => jmP x = true) (jcond (P := fun x => jmP x = true) jmp_362 (jcond (P := fun x => jmP x = true) jmp_363 jmp_364)) (jcond (P := fun x => jmP x = true) jmp_365 (jcond (P := fun x => jmP x = true) jmp_366 jmp_367)))) (jcond (P := fun x => jmP x = true) (jcond (P := fun x => jmP x = true) (jcond (P := fun x => jmP x = true) jmp_368 (jcond (P := fun x => jmP x = true) jmp_369 jmp_370)) (jcond (P := fun x => jmP x = true) jmp_371 (jcond (P := fun x => jmP x = true) jmp_372 jmp_373))) (jcond (P := fun x => jmP x = true) (jcond (P := fun x => jmP x = true) jmp_374 (jcond (P := fun x => jmP x = true) jmp_375 jmp_376)) (jcond (P := fun x => jmP x = true) jmp_377 (jcond (P := fun x => jmP x = true) jmp_378 jmp_379)))))))))
theorem jmT_ok (m : Nat) : jtyr (jmT (jm m)) = jmR (jm m) := Nat.eq_of_beq_eq_true (Bool.and_eq_true_iff.mp (Bool.and_eq_true_iff.mp (jmP_ok m)).1).1
theorem jmN_4 {m : Nat} (h : jmF (jm m) = 4) : plainName (jmY (jm m)).cls = true := by
  have h1 := (Bool.and_eq_true_iff.mp (Bool.and_eq_true_iff.mp (jmP_ok m)).1).2
  rw [h] at h1
  exact h1
theorem jmC_v {m : Nat} (h : jmF (jm m) = 1 ∨ jmF (jm m) = 3) : 2 ≤ jmC (jm m) ∧ jmC (jm m) < 15 := by
  have h1 := (Bool.and_eq_true_iff.mp (jmP_ok m)).2
  have h2 : (Nat.ble 2 (jmC (jm m)) && Nat.blt (jmC (jm m)) 15) = true := by
    rcases h with h | h
    · rw [h] at h1; exact h1
    · rw [h] at h1; exact h1
  obtain ⟨q1, q2⟩ := Bool.and_eq_true_iff.mp h2
  exact ⟨Nat.le_of_ble_eq_true q1, Nat.le_of_ble_eq_true q2⟩
theorem jty_9 {t : Option FieldType} (h : jtyr t = 9) : t = none := by
  cases t with
  | none => rfl
  | some t => cases t <;> cases h
theorem jty_0 {t : Option FieldType} (h : jtyr t = 0) : t = some .int := by
  cases t with
  | none => cases h
  | some t => cases t <;> first | rfl | cases h
theorem jty_1 {t : Option FieldType} (h : jtyr t = 1) : t = some .long := by
  cases t with
  | none => cases h
  | some t => cases t <;> first | rfl | cases h
theorem jty_2 {t : Option FieldType} (h : jtyr t = 2) : t = some .float := by
  cases t with
  | none => cases h
  | some t => cases t <;> first | rfl | cases h
theorem jty_3 {t : Option FieldType} (h : jtyr t = 3) : t = some .double := by
  cases t with
  | none => cases h
  | some t => cases t <;> first | rfl | cases h
theorem jty_8 {t : Option FieldType} (h : jtyr t = 8) : t = some .boolean := by
  cases t with
  | none => cases h
  | some t => cases t <;> first | rfl | cases h
theorem jty_4 {t : Option FieldType} (h : jtyr t = 4) : ∃ rt, t = some rt ∧ ((∃ n, rt = .object n) ∨ ∃ u, rt = .array u) := by
  cases t with
  | none => cases h
  | some t =>
    cases t with
    | object n => exact ⟨_, rfl, Or.inl ⟨_, rfl⟩⟩
    | array n => exact ⟨_, rfl, Or.inr ⟨_, rfl⟩⟩
    | _ => cases h
