-- words (written by program)
theorem wm_2 : Cond.selects nR_TM nN_TM_isInstruction nN_TM_isInstruction ∈ lw_ws := lw_m (i := 2) (by decide +kernel) (by decide +kernel)
theorem wm_4 : Cond.selects nR_TM nN_TM_useBus nN_TM_useBus ∈ lw_ws := lw_m (i := 4) (by decide +kernel) (by decide +kernel)
theorem wm_5 : Cond.selects nR_TM nN_TM_firstLike nN_TM_firstLike ∈ lw_ws := lw_m (i := 5) (by decide +kernel) (by decide +kernel)
theorem wm_6 : Cond.selects nR_TM nN_TM_send nN_TM_send ∈ lw_ws := lw_m (i := 6) (by decide +kernel) (by decide +kernel)
theorem wm_7 : Cond.selects nR_TM nN_TM_note nN_TM_note ∈ lw_ws := lw_m (i := 7) (by decide +kernel) (by decide +kernel)
theorem wm_8 : Cond.selects nR_TM nN_TM_work nN_TM_work ∈ lw_ws := lw_m (i := 8) (by decide +kernel) (by decide +kernel)
theorem wm_9 : Cond.selects nR_TM nN_TM_finishWork nN_TM_finishWork ∈ lw_ws := lw_m (i := 9) (by decide +kernel) (by decide +kernel)
theorem wm_10 : Cond.selects nR_TM nN_TM_bankOf nN_TM_bankOf ∈ lw_ws := lw_m (i := 10) (by decide +kernel) (by decide +kernel)
theorem wm_11 : Cond.selects nR_TM nN_TM_firstReady nN_TM_firstReady ∈ lw_ws := lw_m (i := 11) (by decide +kernel) (by decide +kernel)
theorem wm_12 : Cond.selects nR_TM nN_TM_beginStation nN_TM_beginStation ∈ lw_ws := lw_m (i := 12) (by decide +kernel) (by decide +kernel)
theorem wm_13 : Cond.selects nR_REC nN_REC_add nN_REC_add ∈ lw_ws := lw_m (i := 13) (by decide +kernel) (by decide +kernel)
theorem wm_14 : Cond.selects nR_REC nN_REC_finish nN_REC_finish ∈ lw_ws := lw_m (i := 14) (by decide +kernel) (by decide +kernel)
theorem wm_15 : Cond.selects nR_REC nN_REC_multiply nN_REC_multiply ∈ lw_ws := lw_m (i := 15) (by decide +kernel) (by decide +kernel)
theorem wm_16 : Cond.selects nR_REC nN_REC_divide nN_REC_divide ∈ lw_ws := lw_m (i := 16) (by decide +kernel) (by decide +kernel)
theorem wm_17 : Cond.selects nR_REC nN_REC_compare nN_REC_compare ∈ lw_ws := lw_m (i := 17) (by decide +kernel) (by decide +kernel)
theorem wm_18 : Cond.selects nR_TM nN_TM_nextOfMultiplier nN_TM_nextOfMultiplier ∈ lw_ws := lw_m (i := 18) (by decide +kernel) (by decide +kernel)
theorem wm_19 : Cond.selects nR_TM nN_TM_beginStorage nN_TM_beginStorage ∈ lw_ws := lw_m (i := 19) (by decide +kernel) (by decide +kernel)
theorem wm_20 : Cond.selects nR_TM nN_TM_earliestAccess nN_TM_earliestAccess ∈ lw_ws := lw_m (i := 20) (by decide +kernel) (by decide +kernel)
theorem wm_21 : Cond.selects nR_TM nN_TM_handOut nN_TM_handOut ∈ lw_ws := lw_m (i := 21) (by decide +kernel) (by decide +kernel)
theorem wm_22 : Cond.selects nR_TM nN_TM_handToBuffer nN_TM_handToBuffer ∈ lw_ws := lw_m (i := 22) (by decide +kernel) (by decide +kernel)
theorem wm_23 : Cond.selects nR_TM nN_TM_isToBeStored nN_TM_isToBeStored ∈ lw_ws := lw_m (i := 23) (by decide +kernel) (by decide +kernel)
theorem wm_24 : Cond.selects nR_TM nN_TM_handToStation nN_TM_handToStation ∈ lw_ws := lw_m (i := 24) (by decide +kernel) (by decide +kernel)
theorem wm_25 : Cond.selects nR_TM nN_TM_doAtOnce nN_TM_doAtOnce ∈ lw_ws := lw_m (i := 25) (by decide +kernel) (by decide +kernel)
theorem wm_26 : Cond.selects nR_TM nN_TM_allFree nN_TM_allFree ∈ lw_ws := lw_m (i := 26) (by decide +kernel) (by decide +kernel)
theorem wm_27 : Cond.selects nR_MOD nN_MOD_result nN_MOD_result ∈ lw_ws := lw_m (i := 27) (by decide +kernel) (by decide +kernel)
theorem wm_28 : Cond.selects nR_MOD nN_MOD_sum nN_MOD_sum ∈ lw_ws := lw_m (i := 28) (by decide +kernel) (by decide +kernel)
theorem wm_29 : Cond.selects nR_MOD nN_MOD_align nN_MOD_align ∈ lw_ws := lw_m (i := 29) (by decide +kernel) (by decide +kernel)
theorem wm_30 : Cond.selects nR_MOD nN_MOD_finish nN_MOD_finish ∈ lw_ws := lw_m (i := 30) (by decide +kernel) (by decide +kernel)
theorem wm_31 : Cond.selects nR_MOD nN_MOD_product nN_MOD_product ∈ lw_ws := lw_m (i := 31) (by decide +kernel) (by decide +kernel)
theorem wm_32 : Cond.selects nR_MOD nN_MOD_quotient nN_MOD_quotient ∈ lw_ws := lw_m (i := 32) (by decide +kernel) (by decide +kernel)
theorem wm_33 : Cond.selects nR_MOD nN_MOD_compared nN_MOD_compared ∈ lw_ws := lw_m (i := 33) (by decide +kernel) (by decide +kernel)
theorem wm_34 : Cond.selects nR_MOD nN_MOD_goes nN_MOD_goes ∈ lw_ws := lw_m (i := 34) (by decide +kernel) (by decide +kernel)
theorem wm_35 : Cond.selects nR_MOD nN_MOD_cycle nN_MOD_cycle ∈ lw_ws := lw_m (i := 35) (by decide +kernel) (by decide +kernel)
theorem wm_36 : Cond.selects nR_MOD nN_MOD_bus nN_MOD_bus ∈ lw_ws := lw_m (i := 36) (by decide +kernel) (by decide +kernel)
theorem wm_37 : Cond.selects nR_MOD nN_MOD_work nN_MOD_work ∈ lw_ws := lw_m (i := 37) (by decide +kernel) (by decide +kernel)
theorem wm_38 : Cond.selects nR_MOD nN_MOD_ends nN_MOD_ends ∈ lw_ws := lw_m (i := 38) (by decide +kernel) (by decide +kernel)
theorem wm_39 : Cond.selects nR_MOD nN_MOD_begin nN_MOD_begin ∈ lw_ws := lw_m (i := 39) (by decide +kernel) (by decide +kernel)
theorem wm_40 : Cond.selects nR_MOD nN_MOD_ready nN_MOD_ready ∈ lw_ws := lw_m (i := 40) (by decide +kernel) (by decide +kernel)
theorem wm_41 : Cond.selects nR_MOD nN_MOD_begins nN_MOD_begins ∈ lw_ws := lw_m (i := 41) (by decide +kernel) (by decide +kernel)
theorem wm_42 : Cond.selects nR_MOD nN_MOD_handOut nN_MOD_handOut ∈ lw_ws := lw_m (i := 42) (by decide +kernel) (by decide +kernel)
theorem wm_43 : Cond.selects nR_MOD nN_MOD_storage nN_MOD_storage ∈ lw_ws := lw_m (i := 43) (by decide +kernel) (by decide +kernel)
theorem wm_44 : Cond.selects nR_MOD nN_MOD_free nN_MOD_free ∈ lw_ws := lw_m (i := 44) (by decide +kernel) (by decide +kernel)
theorem wm_45 : Cond.selects nR_MOD nN_MOD_storing nN_MOD_storing ∈ lw_ws := lw_m (i := 45) (by decide +kernel) (by decide +kernel)
theorem wm_46 : Cond.selects nR_MOD nN_MOD_take nN_MOD_take ∈ lw_ws := lw_m (i := 46) (by decide +kernel) (by decide +kernel)
theorem wm_47 : Cond.selects nR_MOD nN_MOD_reckoned nN_MOD_reckoned ∈ lw_ws := lw_m (i := 47) (by decide +kernel) (by decide +kernel)
theorem wm_49 : Cond.initialized nR_TM ∈ lw_ws := lw_m (i := 49) (by decide +kernel) (by decide +kernel)
theorem wm_52 : Cond.initialized nR_OPD ∈ lw_ws := lw_m (i := 52) (by decide +kernel) (by decide +kernel)
theorem wm_53 : Cond.initialized nR_UNI ∈ lw_ws := lw_m (i := 53) (by decide +kernel) (by decide +kernel)
theorem wm_54 : Cond.initialized nR_REC ∈ lw_ws := lw_m (i := 54) (by decide +kernel) (by decide +kernel)
theorem wm_55 : Cond.initialized nR_MOD ∈ lw_ws := lw_m (i := 55) (by decide +kernel) (by decide +kernel)
theorem wm_82 : Cond.fieldLink nR_INS 7 nR_INS "op" "I" ∈ lw_ws := lw_m (i := 82) (by decide +kernel) (by decide +kernel)
theorem wm_83 : Cond.fieldLink nR_TM 220 nR_INS "op" "I" ∈ lw_ws := lw_m (i := 83) (by decide +kernel) (by decide +kernel)
theorem wm_84 : Cond.fieldLink nR_INS 13 nR_INS "\x72" "I" ∈ lw_ws := lw_m (i := 84) (by decide +kernel) (by decide +kernel)
theorem wm_85 : Cond.fieldLink nR_TM 243 nR_INS "\x72" "I" ∈ lw_ws := lw_m (i := 85) (by decide +kernel) (by decide +kernel)
theorem wm_86 : Cond.fieldLink nR_INS 16 nR_INS "s" "I" ∈ lw_ws := lw_m (i := 86) (by decide +kernel) (by decide +kernel)
theorem wm_87 : Cond.fieldLink nR_TM 253 nR_INS "s" "I" ∈ lw_ws := lw_m (i := 87) (by decide +kernel) (by decide +kernel)
theorem wm_88 : Cond.fieldLink nR_INS 19 nR_INS "b" "I" ∈ lw_ws := lw_m (i := 88) (by decide +kernel) (by decide +kernel)
theorem wm_89 : Cond.fieldLink nR_TM 231 nR_INS "b" "I" ∈ lw_ws := lw_m (i := 89) (by decide +kernel) (by decide +kernel)
theorem wm_90 : Cond.fieldLink nR_INS 22 nR_INS "n" "I" ∈ lw_ws := lw_m (i := 90) (by decide +kernel) (by decide +kernel)
theorem wm_91 : Cond.fieldLink nR_TM 234 nR_INS "n" "I" ∈ lw_ws := lw_m (i := 91) (by decide +kernel) (by decide +kernel)
theorem wm_110 : Cond.fieldLink nR_OPD 13 nR_OPD "value" "I" ∈ lw_ws := lw_m (i := 110) (by decide +kernel) (by decide +kernel)
theorem wm_111 : Cond.fieldLink nR_TM 120 nR_OPD "value" "I" ∈ lw_ws := lw_m (i := 111) (by decide +kernel) (by decide +kernel)
theorem wm_112 : Cond.fieldLink nR_OPD 7 nR_OPD "awaited" "I" ∈ lw_ws := lw_m (i := 112) (by decide +kernel) (by decide +kernel)
theorem wm_113 : Cond.fieldLink nR_TM 123 nR_OPD "awaited" "I" ∈ lw_ws := lw_m (i := 113) (by decide +kernel) (by decide +kernel)
theorem wm_128 : Cond.fieldLink nR_UNI 12 nR_UNI "first" "LTagMachine$Operand;" ∈ lw_ws := lw_m (i := 128) (by decide +kernel) (by decide +kernel)
theorem wm_129 : Cond.fieldLink nR_TM 200 nR_UNI "first" "LTagMachine$Operand;" ∈ lw_ws := lw_m (i := 129) (by decide +kernel) (by decide +kernel)
theorem wm_130 : Cond.fieldLink nR_UNI 18 nR_UNI "second" "LTagMachine$Operand;" ∈ lw_ws := lw_m (i := 130) (by decide +kernel) (by decide +kernel)
theorem wm_131 : Cond.fieldLink nR_TM 204 nR_UNI "second" "LTagMachine$Operand;" ∈ lw_ws := lw_m (i := 131) (by decide +kernel) (by decide +kernel)
theorem wm_132 : Cond.fieldLink nR_UNI 21 nR_UNI "state" "I" ∈ lw_ws := lw_m (i := 132) (by decide +kernel) (by decide +kernel)
theorem wm_133 : Cond.fieldLink nR_TM 126 nR_UNI "state" "I" ∈ lw_ws := lw_m (i := 133) (by decide +kernel) (by decide +kernel)
theorem wm_134 : Cond.fieldLink nR_UNI 29 nR_UNI "op" "I" ∈ lw_ws := lw_m (i := 134) (by decide +kernel) (by decide +kernel)
theorem wm_135 : Cond.fieldLink nR_TM 187 nR_UNI "op" "I" ∈ lw_ws := lw_m (i := 135) (by decide +kernel) (by decide +kernel)
theorem wm_136 : Cond.fieldLink nR_UNI 32 nR_UNI "address" "I" ∈ lw_ws := lw_m (i := 136) (by decide +kernel) (by decide +kernel)
theorem wm_137 : Cond.fieldLink nR_TM 197 nR_UNI "address" "I" ∈ lw_ws := lw_m (i := 137) (by decide +kernel) (by decide +kernel)
theorem wm_138 : Cond.fieldLink nR_UNI 35 nR_UNI "order" "I" ∈ lw_ws := lw_m (i := 138) (by decide +kernel) (by decide +kernel)
theorem wm_139 : Cond.fieldLink nR_TM 217 nR_UNI "order" "I" ∈ lw_ws := lw_m (i := 139) (by decide +kernel) (by decide +kernel)
theorem wm_140 : Cond.fieldLink nR_UNI 38 nR_UNI "toGo" "I" ∈ lw_ws := lw_m (i := 140) (by decide +kernel) (by decide +kernel)
theorem wm_141 : Cond.fieldLink nR_TM 180 nR_UNI "toGo" "I" ∈ lw_ws := lw_m (i := 141) (by decide +kernel) (by decide +kernel)
theorem wm_142 : Cond.fieldLink nR_UNI 41 nR_UNI "result" "I" ∈ lw_ws := lw_m (i := 142) (by decide +kernel) (by decide +kernel)
theorem wm_143 : Cond.fieldLink nR_TM 170 nR_UNI "result" "I" ∈ lw_ws := lw_m (i := 143) (by decide +kernel) (by decide +kernel)
theorem wm_144 : Cond.fieldLink nR_UNI 44 nR_UNI "raised" "I" ∈ lw_ws := lw_m (i := 144) (by decide +kernel) (by decide +kernel)
theorem wm_145 : Cond.fieldLink nR_TM 176 nR_UNI "raised" "I" ∈ lw_ws := lw_m (i := 145) (by decide +kernel) (by decide +kernel)
theorem wm_171 : Cond.fieldLink nR_REC 39 nR_REC "result" "I" ∈ lw_ws := lw_m (i := 171) (by decide +kernel) (by decide +kernel)
theorem wm_172 : Cond.fieldLink nR_TM 114 nR_REC "result" "I" ∈ lw_ws := lw_m (i := 172) (by decide +kernel) (by decide +kernel)
theorem wm_173 : Cond.fieldLink nR_REC 9 nR_REC "raised" "I" ∈ lw_ws := lw_m (i := 173) (by decide +kernel) (by decide +kernel)
theorem wm_174 : Cond.fieldLink nR_TM 117 nR_REC "raised" "I" ∈ lw_ws := lw_m (i := 174) (by decide +kernel) (by decide +kernel)
theorem wm_182 : Cond.fieldLink nR_TM 18 nR_TM "banks" "I" ∈ lw_ws := lw_m (i := 182) (by decide +kernel) (by decide +kernel)
theorem wm_183 : Cond.fieldLink nR_TM 22 nR_TM "latency" "I" ∈ lw_ws := lw_m (i := 183) (by decide +kernel) (by decide +kernel)
theorem wm_184 : Cond.fieldLink nR_TM 27 nR_TM "program" "[LTagMachine$Instruction;" ∈ lw_ws := lw_m (i := 184) (by decide +kernel) (by decide +kernel)
theorem wm_185 : Cond.fieldLink nR_TM 34 nR_TM "registers" "[LTagMachine$Operand;" ∈ lw_ws := lw_m (i := 185) (by decide +kernel) (by decide +kernel)
theorem wm_186 : Cond.fieldLink nR_TM 46 nR_TM "integers" "[I" ∈ lw_ws := lw_m (i := 186) (by decide +kernel) (by decide +kernel)
theorem wm_187 : Cond.fieldLink nR_TM 50 nR_TM "words" "[I" ∈ lw_ws := lw_m (i := 187) (by decide +kernel) (by decide +kernel)
theorem wm_188 : Cond.fieldLink nR_TM 41 nR_TM "units" "[LTagMachine$Unit;" ∈ lw_ws := lw_m (i := 188) (by decide +kernel) (by decide +kernel)
theorem wm_189 : Cond.fieldLink nR_TM 53 nR_TM "bankInUse" "[Z" ∈ lw_ws := lw_m (i := 189) (by decide +kernel) (by decide +kernel)
theorem wm_190 : Cond.fieldLink nR_TM 60 nR_TM "reckoner" "LTagMachine$Reckoner;" ∈ lw_ws := lw_m (i := 190) (by decide +kernel) (by decide +kernel)
theorem wm_191 : Cond.fieldLink nR_TM 74 nR_TM "instructions" "I" ∈ lw_ws := lw_m (i := 191) (by decide +kernel) (by decide +kernel)
theorem wm_192 : Cond.fieldLink nR_TM 64 nR_TM "mode" "I" ∈ lw_ws := lw_m (i := 192) (by decide +kernel) (by decide +kernel)
theorem wm_193 : Cond.fieldLink nR_TM 91 nR_TM "next" "I" ∈ lw_ws := lw_m (i := 193) (by decide +kernel) (by decide +kernel)
theorem wm_194 : Cond.fieldLink nR_TM 94 nR_TM "noted" "I" ∈ lw_ws := lw_m (i := 194) (by decide +kernel) (by decide +kernel)
theorem wm_195 : Cond.fieldLink nR_TM 129 nR_TM "cycles" "I" ∈ lw_ws := lw_m (i := 195) (by decide +kernel) (by decide +kernel)
theorem wm_196 : Cond.fieldLink nR_TM 132 nR_TM "handedOut" "I" ∈ lw_ws := lw_m (i := 196) (by decide +kernel) (by decide +kernel)
theorem wm_232 : Cond.methodLink nR_TM 67 nN_TM_isRegister ∈ lw_ws := lw_m (i := 232) (by decide +kernel) (by decide +kernel)
theorem wm_233 : Cond.static nN_TM_isRegister ∈ lw_ws := lw_m (i := 233) (by decide +kernel) (by decide +kernel)
set_option maxRecDepth 100000 in
theorem wm_234 : Cond.code nN_TM_isRegister nC_TM_isRegister 1 (some .boolean) ∈ lw_ws := lw_m (i := 234) rfl (by decide +kernel)
theorem wm_243 : Cond.methodLink nR_TM 104 nN_TM_isPlace ∈ lw_ws := lw_m (i := 243) (by decide +kernel) (by decide +kernel)
theorem wm_244 : Cond.static nN_TM_isPlace ∈ lw_ws := lw_m (i := 244) (by decide +kernel) (by decide +kernel)
set_option maxRecDepth 100000 in
theorem wm_245 : Cond.code nN_TM_isPlace nC_TM_isPlace 1 (some .boolean) ∈ lw_ws := lw_m (i := 245) rfl (by decide +kernel)
theorem wm_362 : Cond.methodLink nR_TM 88 nN_TM_isInstruction ∈ lw_ws := lw_m (i := 362) (by decide +kernel) (by decide +kernel)
theorem wm_364 : Cond.instanceMethod nN_TM_isInstruction ∈ lw_ws := lw_m (i := 364) (by decide +kernel) (by decide +kernel)
set_option maxRecDepth 100000 in
theorem wm_365 : Cond.code nN_TM_isInstruction nC_TM_isInstruction 2 (some .boolean) ∈ lw_ws := lw_m (i := 365) rfl (by decide +kernel)
theorem wm_377 : Cond.methodLink nR_TM 135 nN_TM_useBus ∈ lw_ws := lw_m (i := 377) (by decide +kernel) (by decide +kernel)
theorem wm_379 : Cond.instanceMethod nN_TM_useBus ∈ lw_ws := lw_m (i := 379) (by decide +kernel) (by decide +kernel)
set_option maxRecDepth 100000 in
theorem wm_380 : Cond.code nN_TM_useBus nC_TM_useBus 2 none ∈ lw_ws := lw_m (i := 380) rfl (by decide +kernel)
theorem wm_381 : Cond.methodLink nR_TM 163 nN_TM_firstLike ∈ lw_ws := lw_m (i := 381) (by decide +kernel) (by decide +kernel)
theorem wm_383 : Cond.instanceMethod nN_TM_firstLike ∈ lw_ws := lw_m (i := 383) (by decide +kernel) (by decide +kernel)
set_option maxRecDepth 100000 in
theorem wm_384 : Cond.code nN_TM_firstLike nC_TM_firstLike 5 (some .int) ∈ lw_ws := lw_m (i := 384) rfl (by decide +kernel)
theorem wm_385 : Cond.methodLink nR_TM 167 nN_TM_send ∈ lw_ws := lw_m (i := 385) (by decide +kernel) (by decide +kernel)
theorem wm_387 : Cond.instanceMethod nN_TM_send ∈ lw_ws := lw_m (i := 387) (by decide +kernel) (by decide +kernel)
set_option maxRecDepth 100000 in
theorem wm_388 : Cond.code nN_TM_send nC_TM_send 4 none ∈ lw_ws := lw_m (i := 388) rfl (by decide +kernel)
theorem wm_389 : Cond.methodLink nR_TM 171 nN_UNI_hear ∈ lw_ws := lw_m (i := 389) (by decide +kernel) (by decide +kernel)
theorem wm_390 : Cond.instanceMethod nN_UNI_hear ∈ lw_ws := lw_m (i := 390) (by decide +kernel) (by decide +kernel)
theorem wm_391 : Cond.selects nR_UNI nN_UNI_hear nN_UNI_hear ∈ lw_ws := lw_m (i := 391) (by decide +kernel) (by decide +kernel)
set_option maxRecDepth 100000 in
theorem wm_392 : Cond.code nN_UNI_hear nC_UNI_hear 3 none ∈ lw_ws := lw_m (i := 392) rfl (by decide +kernel)
theorem wm_393 : Cond.methodLink nR_UNI 47 nN_OPD_hear ∈ lw_ws := lw_m (i := 393) (by decide +kernel) (by decide +kernel)
theorem wm_394 : Cond.instanceMethod nN_OPD_hear ∈ lw_ws := lw_m (i := 394) (by decide +kernel) (by decide +kernel)
theorem wm_395 : Cond.selects nR_OPD nN_OPD_hear nN_OPD_hear ∈ lw_ws := lw_m (i := 395) (by decide +kernel) (by decide +kernel)
set_option maxRecDepth 100000 in
theorem wm_396 : Cond.code nN_OPD_hear nC_OPD_hear 3 none ∈ lw_ws := lw_m (i := 396) rfl (by decide +kernel)
theorem wm_397 : Cond.methodLink nR_OPD 24 nN_OPD_haveValue ∈ lw_ws := lw_m (i := 397) (by decide +kernel) (by decide +kernel)
theorem wm_398 : Cond.instanceMethod nN_OPD_haveValue ∈ lw_ws := lw_m (i := 398) (by decide +kernel) (by decide +kernel)
theorem wm_399 : Cond.selects nR_OPD nN_OPD_haveValue nN_OPD_haveValue ∈ lw_ws := lw_m (i := 399) (by decide +kernel) (by decide +kernel)
set_option maxRecDepth 100000 in
theorem wm_400 : Cond.code nN_OPD_haveValue nC_OPD_haveValue 2 none ∈ lw_ws := lw_m (i := 400) rfl (by decide +kernel)
theorem wm_401 : Cond.methodLink nR_TM 175 nN_OPD_hear ∈ lw_ws := lw_m (i := 401) (by decide +kernel) (by decide +kernel)
theorem wm_402 : Cond.methodLink nR_TM 177 nN_TM_note ∈ lw_ws := lw_m (i := 402) (by decide +kernel) (by decide +kernel)
theorem wm_404 : Cond.instanceMethod nN_TM_note ∈ lw_ws := lw_m (i := 404) (by decide +kernel) (by decide +kernel)
set_option maxRecDepth 100000 in
theorem wm_405 : Cond.code nN_TM_note nC_TM_note 2 none ∈ lw_ws := lw_m (i := 405) rfl (by decide +kernel)
theorem wm_406 : Cond.methodLink nR_TM 138 nN_TM_work ∈ lw_ws := lw_m (i := 406) (by decide +kernel) (by decide +kernel)
theorem wm_408 : Cond.instanceMethod nN_TM_work ∈ lw_ws := lw_m (i := 408) (by decide +kernel) (by decide +kernel)
set_option maxRecDepth 100000 in
theorem wm_409 : Cond.code nN_TM_work nC_TM_work 3 none ∈ lw_ws := lw_m (i := 409) rfl (by decide +kernel)
theorem wm_410 : Cond.methodLink nR_TM 183 nN_TM_finishWork ∈ lw_ws := lw_m (i := 410) (by decide +kernel) (by decide +kernel)
theorem wm_412 : Cond.instanceMethod nN_TM_finishWork ∈ lw_ws := lw_m (i := 412) (by decide +kernel) (by decide +kernel)
set_option maxRecDepth 100000 in
theorem wm_413 : Cond.code nN_TM_finishWork nC_TM_finishWork 2 none ∈ lw_ws := lw_m (i := 413) rfl (by decide +kernel)
theorem wm_414 : Cond.methodLink nR_TM 190 nN_TM_usesStorage ∈ lw_ws := lw_m (i := 414) (by decide +kernel) (by decide +kernel)
theorem wm_415 : Cond.static nN_TM_usesStorage ∈ lw_ws := lw_m (i := 415) (by decide +kernel) (by decide +kernel)
set_option maxRecDepth 100000 in
theorem wm_416 : Cond.code nN_TM_usesStorage nC_TM_usesStorage 1 (some .boolean) ∈ lw_ws := lw_m (i := 416) rfl (by decide +kernel)
theorem wm_417 : Cond.methodLink nR_TM 193 nN_TM_bankOf ∈ lw_ws := lw_m (i := 417) (by decide +kernel) (by decide +kernel)
theorem wm_419 : Cond.instanceMethod nN_TM_bankOf ∈ lw_ws := lw_m (i := 419) (by decide +kernel) (by decide +kernel)
set_option maxRecDepth 100000 in
theorem wm_420 : Cond.code nN_TM_bankOf nC_TM_bankOf 2 (some .int) ∈ lw_ws := lw_m (i := 420) rfl (by decide +kernel)
theorem wm_421 : Cond.methodLink nR_TM 141 nN_TM_firstReady ∈ lw_ws := lw_m (i := 421) (by decide +kernel) (by decide +kernel)
theorem wm_423 : Cond.instanceMethod nN_TM_firstReady ∈ lw_ws := lw_m (i := 423) (by decide +kernel) (by decide +kernel)
set_option maxRecDepth 100000 in
theorem wm_424 : Cond.code nN_TM_firstReady nC_TM_firstReady 4 (some .int) ∈ lw_ws := lw_m (i := 424) rfl (by decide +kernel)
theorem wm_425 : Cond.methodLink nR_TM 160 nN_UNI_isReady ∈ lw_ws := lw_m (i := 425) (by decide +kernel) (by decide +kernel)
theorem wm_426 : Cond.instanceMethod nN_UNI_isReady ∈ lw_ws := lw_m (i := 426) (by decide +kernel) (by decide +kernel)
theorem wm_427 : Cond.selects nR_UNI nN_UNI_isReady nN_UNI_isReady ∈ lw_ws := lw_m (i := 427) (by decide +kernel) (by decide +kernel)
set_option maxRecDepth 100000 in
theorem wm_428 : Cond.code nN_UNI_isReady nC_UNI_isReady 1 (some .boolean) ∈ lw_ws := lw_m (i := 428) rfl (by decide +kernel)
theorem wm_429 : Cond.methodLink nR_UNI 25 nN_OPD_isAwaited ∈ lw_ws := lw_m (i := 429) (by decide +kernel) (by decide +kernel)
theorem wm_430 : Cond.instanceMethod nN_OPD_isAwaited ∈ lw_ws := lw_m (i := 430) (by decide +kernel) (by decide +kernel)
theorem wm_431 : Cond.selects nR_OPD nN_OPD_isAwaited nN_OPD_isAwaited ∈ lw_ws := lw_m (i := 431) (by decide +kernel) (by decide +kernel)
set_option maxRecDepth 100000 in
theorem wm_432 : Cond.code nN_OPD_isAwaited nC_OPD_isAwaited 1 (some .boolean) ∈ lw_ws := lw_m (i := 432) rfl (by decide +kernel)
theorem wm_433 : Cond.methodLink nR_TM 144 nN_TM_beginStation ∈ lw_ws := lw_m (i := 433) (by decide +kernel) (by decide +kernel)
theorem wm_435 : Cond.instanceMethod nN_TM_beginStation ∈ lw_ws := lw_m (i := 435) (by decide +kernel) (by decide +kernel)
set_option maxRecDepth 100000 in
theorem wm_436 : Cond.code nN_TM_beginStation nC_TM_beginStation 3 none ∈ lw_ws := lw_m (i := 436) rfl (by decide +kernel)
theorem wm_437 : Cond.methodLink nR_TM 110 nN_REC_workOut ∈ lw_ws := lw_m (i := 437) (by decide +kernel) (by decide +kernel)
theorem wm_438 : Cond.instanceMethod nN_REC_workOut ∈ lw_ws := lw_m (i := 438) (by decide +kernel) (by decide +kernel)
theorem wm_439 : Cond.selects nR_REC nN_REC_workOut nN_REC_workOut ∈ lw_ws := lw_m (i := 439) (by decide +kernel) (by decide +kernel)
set_option maxRecDepth 100000 in
theorem wm_440 : Cond.code nN_REC_workOut nC_REC_workOut 4 none ∈ lw_ws := lw_m (i := 440) rfl (by decide +kernel)
theorem wm_441 : Cond.methodLink nR_REC 13 nN_REC_add ∈ lw_ws := lw_m (i := 441) (by decide +kernel) (by decide +kernel)
theorem wm_443 : Cond.instanceMethod nN_REC_add ∈ lw_ws := lw_m (i := 443) (by decide +kernel) (by decide +kernel)
set_option maxRecDepth 100000 in
theorem wm_444 : Cond.code nN_REC_add nC_REC_add 6 none ∈ lw_ws := lw_m (i := 444) rfl (by decide +kernel)
theorem wm_445 : Cond.methodLink nR_REC 27 nN_REC_alignedSum ∈ lw_ws := lw_m (i := 445) (by decide +kernel) (by decide +kernel)
theorem wm_446 : Cond.static nN_REC_alignedSum ∈ lw_ws := lw_m (i := 446) (by decide +kernel) (by decide +kernel)
set_option maxRecDepth 100000 in
theorem wm_447 : Cond.code nN_REC_alignedSum nC_REC_alignedSum 3 (some .int) ∈ lw_ws := lw_m (i := 447) rfl (by decide +kernel)
theorem wm_448 : Cond.methodLink nR_REC 56 nN_REC_characteristic ∈ lw_ws := lw_m (i := 448) (by decide +kernel) (by decide +kernel)
theorem wm_449 : Cond.static nN_REC_characteristic ∈ lw_ws := lw_m (i := 449) (by decide +kernel) (by decide +kernel)
set_option maxRecDepth 100000 in
theorem wm_450 : Cond.code nN_REC_characteristic nC_REC_characteristic 1 (some .int) ∈ lw_ws := lw_m (i := 450) rfl (by decide +kernel)
theorem wm_451 : Cond.methodLink nR_REC 64 nN_REC_aligned ∈ lw_ws := lw_m (i := 451) (by decide +kernel) (by decide +kernel)
theorem wm_452 : Cond.static nN_REC_aligned ∈ lw_ws := lw_m (i := 452) (by decide +kernel) (by decide +kernel)
set_option maxRecDepth 100000 in
theorem wm_453 : Cond.code nN_REC_aligned nC_REC_aligned 4 (some .int) ∈ lw_ws := lw_m (i := 453) rfl (by decide +kernel)
theorem wm_456 : Cond.methodLink nR_REC 42 nN_REC_fraction ∈ lw_ws := lw_m (i := 456) (by decide +kernel) (by decide +kernel)
theorem wm_457 : Cond.static nN_REC_fraction ∈ lw_ws := lw_m (i := 457) (by decide +kernel) (by decide +kernel)
set_option maxRecDepth 100000 in
theorem wm_458 : Cond.code nN_REC_fraction nC_REC_fraction 1 (some .int) ∈ lw_ws := lw_m (i := 458) rfl (by decide +kernel)
theorem wm_459 : Cond.constant nR_REC 55 16777215 ∈ lw_ws := lw_m (i := 459) (by decide +kernel) (by decide +kernel)
theorem wm_460 : Cond.methodLink nR_REC 31 nN_REC_greaterCharacteristic ∈ lw_ws := lw_m (i := 460) (by decide +kernel) (by decide +kernel)
theorem wm_461 : Cond.static nN_REC_greaterCharacteristic ∈ lw_ws := lw_m (i := 461) (by decide +kernel) (by decide +kernel)
set_option maxRecDepth 100000 in
theorem wm_462 : Cond.code nN_REC_greaterCharacteristic nC_REC_greaterCharacteristic 2 (some .int) ∈ lw_ws := lw_m (i := 462) rfl (by decide +kernel)
theorem wm_463 : Cond.constant nR_REC 34 268435456 ∈ lw_ws := lw_m (i := 463) (by decide +kernel) (by decide +kernel)
theorem wm_464 : Cond.methodLink nR_REC 35 nN_REC_finish ∈ lw_ws := lw_m (i := 464) (by decide +kernel) (by decide +kernel)
theorem wm_466 : Cond.instanceMethod nN_REC_finish ∈ lw_ws := lw_m (i := 466) (by decide +kernel) (by decide +kernel)
set_option maxRecDepth 100000 in
theorem wm_467 : Cond.code nN_REC_finish nC_REC_finish 7 none ∈ lw_ws := lw_m (i := 467) rfl (by decide +kernel)
theorem wm_468 : Cond.methodLink nR_REC 52 nN_REC_leadingZeros ∈ lw_ws := lw_m (i := 468) (by decide +kernel) (by decide +kernel)
theorem wm_469 : Cond.static nN_REC_leadingZeros ∈ lw_ws := lw_m (i := 469) (by decide +kernel) (by decide +kernel)
set_option maxRecDepth 100000 in
theorem wm_470 : Cond.code nN_REC_leadingZeros nC_REC_leadingZeros 3 (some .int) ∈ lw_ws := lw_m (i := 470) rfl (by decide +kernel)
theorem wm_471 : Cond.constant nR_REC 17 (-2147483648) ∈ lw_ws := lw_m (i := 471) (by decide +kernel) (by decide +kernel)
theorem wm_472 : Cond.methodLink nR_REC 18 nN_REC_multiply ∈ lw_ws := lw_m (i := 472) (by decide +kernel) (by decide +kernel)
theorem wm_474 : Cond.instanceMethod nN_REC_multiply ∈ lw_ws := lw_m (i := 474) (by decide +kernel) (by decide +kernel)
set_option maxRecDepth 100000 in
theorem wm_475 : Cond.code nN_REC_multiply nC_REC_multiply 5 none ∈ lw_ws := lw_m (i := 475) rfl (by decide +kernel)
theorem wm_476 : Cond.methodLink nR_REC 46 nN_REC_normalFraction ∈ lw_ws := lw_m (i := 476) (by decide +kernel) (by decide +kernel)
theorem wm_477 : Cond.static nN_REC_normalFraction ∈ lw_ws := lw_m (i := 477) (by decide +kernel) (by decide +kernel)
set_option maxRecDepth 100000 in
theorem wm_478 : Cond.code nN_REC_normalFraction nC_REC_normalFraction 2 (some .int) ∈ lw_ws := lw_m (i := 478) rfl (by decide +kernel)
theorem wm_479 : Cond.methodLink nR_REC 49 nN_REC_normalCharacteristic ∈ lw_ws := lw_m (i := 479) (by decide +kernel) (by decide +kernel)
theorem wm_480 : Cond.static nN_REC_normalCharacteristic ∈ lw_ws := lw_m (i := 480) (by decide +kernel) (by decide +kernel)
set_option maxRecDepth 100000 in
theorem wm_481 : Cond.code nN_REC_normalCharacteristic nC_REC_normalCharacteristic 1 (some .int) ∈ lw_ws := lw_m (i := 481) rfl (by decide +kernel)
theorem wm_482 : Cond.methodLink nR_REC 21 nN_REC_divide ∈ lw_ws := lw_m (i := 482) (by decide +kernel) (by decide +kernel)
theorem wm_484 : Cond.instanceMethod nN_REC_divide ∈ lw_ws := lw_m (i := 484) (by decide +kernel) (by decide +kernel)
set_option maxRecDepth 100000 in
theorem wm_485 : Cond.code nN_REC_divide nC_REC_divide 6 none ∈ lw_ws := lw_m (i := 485) rfl (by decide +kernel)
theorem wm_486 : Cond.methodLink nR_REC 24 nN_REC_compare ∈ lw_ws := lw_m (i := 486) (by decide +kernel) (by decide +kernel)
theorem wm_488 : Cond.instanceMethod nN_REC_compare ∈ lw_ws := lw_m (i := 488) (by decide +kernel) (by decide +kernel)
set_option maxRecDepth 100000 in
theorem wm_489 : Cond.code nN_REC_compare nC_REC_compare 4 none ∈ lw_ws := lw_m (i := 489) rfl (by decide +kernel)
theorem wm_490 : Cond.methodLink nR_TM 207 nN_TM_cyclesFor ∈ lw_ws := lw_m (i := 490) (by decide +kernel) (by decide +kernel)
theorem wm_491 : Cond.static nN_TM_cyclesFor ∈ lw_ws := lw_m (i := 491) (by decide +kernel) (by decide +kernel)
set_option maxRecDepth 100000 in
theorem wm_492 : Cond.code nN_TM_cyclesFor nC_TM_cyclesFor 1 (some .int) ∈ lw_ws := lw_m (i := 492) rfl (by decide +kernel)
theorem wm_493 : Cond.methodLink nR_TM 211 nN_UNI_begin ∈ lw_ws := lw_m (i := 493) (by decide +kernel) (by decide +kernel)
theorem wm_494 : Cond.instanceMethod nN_UNI_begin ∈ lw_ws := lw_m (i := 494) (by decide +kernel) (by decide +kernel)
theorem wm_495 : Cond.selects nR_UNI nN_UNI_begin nN_UNI_begin ∈ lw_ws := lw_m (i := 495) (by decide +kernel) (by decide +kernel)
set_option maxRecDepth 100000 in
theorem wm_496 : Cond.code nN_UNI_begin nC_UNI_begin 4 none ∈ lw_ws := lw_m (i := 496) rfl (by decide +kernel)
theorem wm_497 : Cond.methodLink nR_TM 147 nN_TM_nextOfMultiplier ∈ lw_ws := lw_m (i := 497) (by decide +kernel) (by decide +kernel)
theorem wm_499 : Cond.instanceMethod nN_TM_nextOfMultiplier ∈ lw_ws := lw_m (i := 499) (by decide +kernel) (by decide +kernel)
set_option maxRecDepth 100000 in
theorem wm_500 : Cond.code nN_TM_nextOfMultiplier nC_TM_nextOfMultiplier 2 (some .int) ∈ lw_ws := lw_m (i := 500) rfl (by decide +kernel)
theorem wm_501 : Cond.methodLink nR_TM 151 nN_TM_beginStorage ∈ lw_ws := lw_m (i := 501) (by decide +kernel) (by decide +kernel)
theorem wm_503 : Cond.instanceMethod nN_TM_beginStorage ∈ lw_ws := lw_m (i := 503) (by decide +kernel) (by decide +kernel)
set_option maxRecDepth 100000 in
theorem wm_504 : Cond.code nN_TM_beginStorage nC_TM_beginStorage 3 none ∈ lw_ws := lw_m (i := 504) rfl (by decide +kernel)
theorem wm_505 : Cond.methodLink nR_TM 214 nN_TM_earliestAccess ∈ lw_ws := lw_m (i := 505) (by decide +kernel) (by decide +kernel)
theorem wm_507 : Cond.instanceMethod nN_TM_earliestAccess ∈ lw_ws := lw_m (i := 507) (by decide +kernel) (by decide +kernel)
set_option maxRecDepth 100000 in
theorem wm_508 : Cond.code nN_TM_earliestAccess nC_TM_earliestAccess 4 (some .int) ∈ lw_ws := lw_m (i := 508) rfl (by decide +kernel)
theorem wm_509 : Cond.methodLink nR_TM 154 nN_TM_handOut ∈ lw_ws := lw_m (i := 509) (by decide +kernel) (by decide +kernel)
theorem wm_511 : Cond.instanceMethod nN_TM_handOut ∈ lw_ws := lw_m (i := 511) (by decide +kernel) (by decide +kernel)
set_option maxRecDepth 100000 in
theorem wm_512 : Cond.code nN_TM_handOut nC_TM_handOut 3 none ∈ lw_ws := lw_m (i := 512) rfl (by decide +kernel)
theorem wm_513 : Cond.methodLink nR_TM 221 nN_TM_handToBuffer ∈ lw_ws := lw_m (i := 513) (by decide +kernel) (by decide +kernel)
theorem wm_515 : Cond.instanceMethod nN_TM_handToBuffer ∈ lw_ws := lw_m (i := 515) (by decide +kernel) (by decide +kernel)
set_option maxRecDepth 100000 in
theorem wm_516 : Cond.code nN_TM_handToBuffer nC_TM_handToBuffer 4 (some .boolean) ∈ lw_ws := lw_m (i := 516) rfl (by decide +kernel)
theorem wm_517 : Cond.methodLink nR_TM 237 nN_TM_isToBeStored ∈ lw_ws := lw_m (i := 517) (by decide +kernel) (by decide +kernel)
theorem wm_519 : Cond.instanceMethod nN_TM_isToBeStored ∈ lw_ws := lw_m (i := 519) (by decide +kernel) (by decide +kernel)
set_option maxRecDepth 100000 in
theorem wm_520 : Cond.code nN_TM_isToBeStored nC_TM_isToBeStored 3 (some .boolean) ∈ lw_ws := lw_m (i := 520) rfl (by decide +kernel)
theorem wm_521 : Cond.methodLink nR_TM 240 nN_UNI_claim ∈ lw_ws := lw_m (i := 521) (by decide +kernel) (by decide +kernel)
theorem wm_522 : Cond.instanceMethod nN_UNI_claim ∈ lw_ws := lw_m (i := 522) (by decide +kernel) (by decide +kernel)
theorem wm_523 : Cond.selects nR_UNI nN_UNI_claim nN_UNI_claim ∈ lw_ws := lw_m (i := 523) (by decide +kernel) (by decide +kernel)
set_option maxRecDepth 100000 in
theorem wm_524 : Cond.code nN_UNI_claim nC_UNI_claim 4 none ∈ lw_ws := lw_m (i := 524) rfl (by decide +kernel)
theorem wm_525 : Cond.methodLink nR_TM 246 nN_OPD_waitFor ∈ lw_ws := lw_m (i := 525) (by decide +kernel) (by decide +kernel)
theorem wm_526 : Cond.instanceMethod nN_OPD_waitFor ∈ lw_ws := lw_m (i := 526) (by decide +kernel) (by decide +kernel)
theorem wm_527 : Cond.selects nR_OPD nN_OPD_waitFor nN_OPD_waitFor ∈ lw_ws := lw_m (i := 527) (by decide +kernel) (by decide +kernel)
set_option maxRecDepth 100000 in
theorem wm_528 : Cond.code nN_OPD_waitFor nC_OPD_waitFor 2 none ∈ lw_ws := lw_m (i := 528) rfl (by decide +kernel)
theorem wm_529 : Cond.methodLink nR_TM 249 nN_OPD_copy ∈ lw_ws := lw_m (i := 529) (by decide +kernel) (by decide +kernel)
theorem wm_530 : Cond.instanceMethod nN_OPD_copy ∈ lw_ws := lw_m (i := 530) (by decide +kernel) (by decide +kernel)
theorem wm_531 : Cond.selects nR_OPD nN_OPD_copy nN_OPD_copy ∈ lw_ws := lw_m (i := 531) (by decide +kernel) (by decide +kernel)
set_option maxRecDepth 100000 in
theorem wm_532 : Cond.code nN_OPD_copy nC_OPD_copy 2 none ∈ lw_ws := lw_m (i := 532) rfl (by decide +kernel)
theorem wm_533 : Cond.methodLink nR_OPD 16 nN_OPD_isAwaited ∈ lw_ws := lw_m (i := 533) (by decide +kernel) (by decide +kernel)
theorem wm_534 : Cond.methodLink nR_OPD 20 nN_OPD_waitFor ∈ lw_ws := lw_m (i := 534) (by decide +kernel) (by decide +kernel)
theorem wm_535 : Cond.methodLink nR_TM 225 nN_TM_handToStation ∈ lw_ws := lw_m (i := 535) (by decide +kernel) (by decide +kernel)
theorem wm_537 : Cond.instanceMethod nN_TM_handToStation ∈ lw_ws := lw_m (i := 537) (by decide +kernel) (by decide +kernel)
set_option maxRecDepth 100000 in
theorem wm_538 : Cond.code nN_TM_handToStation nC_TM_handToStation 3 (some .boolean) ∈ lw_ws := lw_m (i := 538) rfl (by decide +kernel)
theorem wm_539 : Cond.methodLink nR_TM 228 nN_TM_doAtOnce ∈ lw_ws := lw_m (i := 539) (by decide +kernel) (by decide +kernel)
theorem wm_541 : Cond.instanceMethod nN_TM_doAtOnce ∈ lw_ws := lw_m (i := 541) (by decide +kernel) (by decide +kernel)
set_option maxRecDepth 100000 in
theorem wm_542 : Cond.code nN_TM_doAtOnce nC_TM_doAtOnce 3 (some .boolean) ∈ lw_ws := lw_m (i := 542) rfl (by decide +kernel)
theorem wm_543 : Cond.methodLink nR_TM 256 nN_OPD_isAwaited ∈ lw_ws := lw_m (i := 543) (by decide +kernel) (by decide +kernel)
theorem wm_544 : Cond.methodLink nR_TM 157 nN_TM_allFree ∈ lw_ws := lw_m (i := 544) (by decide +kernel) (by decide +kernel)
theorem wm_546 : Cond.instanceMethod nN_TM_allFree ∈ lw_ws := lw_m (i := 546) (by decide +kernel) (by decide +kernel)
set_option maxRecDepth 100000 in
theorem wm_547 : Cond.code nN_TM_allFree nC_TM_allFree 2 (some .boolean) ∈ lw_ws := lw_m (i := 547) rfl (by decide +kernel)
theorem wm_586 : Cond.fieldLink nR_MOD 72 nR_MOD "banks" "I" ∈ lw_ws := lw_m (i := 586) (by decide +kernel) (by decide +kernel)
theorem wm_587 : Cond.fieldLink nR_MOD 75 nR_MOD "latency" "I" ∈ lw_ws := lw_m (i := 587) (by decide +kernel) (by decide +kernel)
theorem wm_588 : Cond.fieldLink nR_MOD 78 nR_MOD "threw" "I" ∈ lw_ws := lw_m (i := 588) (by decide +kernel) (by decide +kernel)
theorem wm_589 : Cond.fieldLink nR_MOD 148 nR_MOD "many" "I" ∈ lw_ws := lw_m (i := 589) (by decide +kernel) (by decide +kernel)
theorem wm_590 : Cond.fieldLink nR_MOD 7 nR_MOD "op" "[I" ∈ lw_ws := lw_m (i := 590) (by decide +kernel) (by decide +kernel)
theorem wm_591 : Cond.fieldLink nR_MOD 13 nR_MOD "rs" "[I" ∈ lw_ws := lw_m (i := 591) (by decide +kernel) (by decide +kernel)
theorem wm_592 : Cond.fieldLink nR_MOD 16 nR_MOD "ss" "[I" ∈ lw_ws := lw_m (i := 592) (by decide +kernel) (by decide +kernel)
theorem wm_593 : Cond.fieldLink nR_MOD 19 nR_MOD "bs" "[I" ∈ lw_ws := lw_m (i := 593) (by decide +kernel) (by decide +kernel)
theorem wm_594 : Cond.fieldLink nR_MOD 22 nR_MOD "ns" "[I" ∈ lw_ws := lw_m (i := 594) (by decide +kernel) (by decide +kernel)
theorem wm_595 : Cond.fieldLink nR_MOD 25 nR_MOD "state" "I" ∈ lw_ws := lw_m (i := 595) (by decide +kernel) (by decide +kernel)
theorem wm_596 : Cond.fieldLink nR_MOD 155 nR_MOD "next" "I" ∈ lw_ws := lw_m (i := 596) (by decide +kernel) (by decide +kernel)
theorem wm_597 : Cond.fieldLink nR_MOD 158 nR_MOD "noted" "I" ∈ lw_ws := lw_m (i := 597) (by decide +kernel) (by decide +kernel)
theorem wm_598 : Cond.fieldLink nR_MOD 197 nR_MOD "cycles" "I" ∈ lw_ws := lw_m (i := 598) (by decide +kernel) (by decide +kernel)
theorem wm_599 : Cond.fieldLink nR_MOD 178 nR_MOD "handed" "I" ∈ lw_ws := lw_m (i := 599) (by decide +kernel) (by decide +kernel)
theorem wm_600 : Cond.fieldLink nR_MOD 29 nR_MOD "value" "[I" ∈ lw_ws := lw_m (i := 600) (by decide +kernel) (by decide +kernel)
theorem wm_601 : Cond.fieldLink nR_MOD 32 nR_MOD "waits" "[I" ∈ lw_ws := lw_m (i := 601) (by decide +kernel) (by decide +kernel)
theorem wm_602 : Cond.fieldLink nR_MOD 35 nR_MOD "general" "[I" ∈ lw_ws := lw_m (i := 602) (by decide +kernel) (by decide +kernel)
theorem wm_603 : Cond.fieldLink nR_MOD 38 nR_MOD "words" "[I" ∈ lw_ws := lw_m (i := 603) (by decide +kernel) (by decide +kernel)
theorem wm_604 : Cond.fieldLink nR_MOD 41 nR_MOD "place" "[I" ∈ lw_ws := lw_m (i := 604) (by decide +kernel) (by decide +kernel)
theorem wm_605 : Cond.fieldLink nR_MOD 44 nR_MOD "what" "[I" ∈ lw_ws := lw_m (i := 605) (by decide +kernel) (by decide +kernel)
theorem wm_606 : Cond.fieldLink nR_MOD 47 nR_MOD "left" "[I" ∈ lw_ws := lw_m (i := 606) (by decide +kernel) (by decide +kernel)
theorem wm_607 : Cond.fieldLink nR_MOD 50 nR_MOD "gives" "[I" ∈ lw_ws := lw_m (i := 607) (by decide +kernel) (by decide +kernel)
theorem wm_608 : Cond.fieldLink nR_MOD 53 nR_MOD "notes" "[I" ∈ lw_ws := lw_m (i := 608) (by decide +kernel) (by decide +kernel)
theorem wm_609 : Cond.fieldLink nR_MOD 56 nR_MOD "operand" "[I" ∈ lw_ws := lw_m (i := 609) (by decide +kernel) (by decide +kernel)
theorem wm_610 : Cond.fieldLink nR_MOD 59 nR_MOD "tag" "[I" ∈ lw_ws := lw_m (i := 610) (by decide +kernel) (by decide +kernel)
theorem wm_611 : Cond.fieldLink nR_MOD 62 nR_MOD "where" "[I" ∈ lw_ws := lw_m (i := 611) (by decide +kernel) (by decide +kernel)
theorem wm_612 : Cond.fieldLink nR_MOD 65 nR_MOD "order" "[I" ∈ lw_ws := lw_m (i := 612) (by decide +kernel) (by decide +kernel)
theorem wm_613 : Cond.fieldLink nR_MOD 68 nR_MOD "taken" "[Z" ∈ lw_ws := lw_m (i := 613) (by decide +kernel) (by decide +kernel)
theorem wm_614 : Cond.fieldLink nR_MOD 86 nR_MOD "exception" "I" ∈ lw_ws := lw_m (i := 614) (by decide +kernel) (by decide +kernel)
theorem wm_615 : Cond.fieldLink nR_MOD 103 nR_MOD "signed" "J" ∈ lw_ws := lw_m (i := 615) (by decide +kernel) (by decide +kernel)
theorem wm_685 : Cond.methodLink nR_MOD 141 nN_MOD_result ∈ lw_ws := lw_m (i := 685) (by decide +kernel) (by decide +kernel)
theorem wm_687 : Cond.instanceMethod nN_MOD_result ∈ lw_ws := lw_m (i := 687) (by decide +kernel) (by decide +kernel)
set_option maxRecDepth 100000 in
theorem wm_688 : Cond.code nN_MOD_result nC_MOD_result 4 (some .int) ∈ lw_ws := lw_m (i := 688) rfl (by decide +kernel)
theorem wm_689 : Cond.methodLink nR_MOD 129 nN_MOD_sum ∈ lw_ws := lw_m (i := 689) (by decide +kernel) (by decide +kernel)
theorem wm_691 : Cond.instanceMethod nN_MOD_sum ∈ lw_ws := lw_m (i := 691) (by decide +kernel) (by decide +kernel)
set_option maxRecDepth 100000 in
theorem wm_692 : Cond.code nN_MOD_sum nC_MOD_sum 7 (some .int) ∈ lw_ws := lw_m (i := 692) rfl (by decide +kernel)
theorem wm_693 : Cond.methodLink nR_MOD 107 nN_MOD_align ∈ lw_ws := lw_m (i := 693) (by decide +kernel) (by decide +kernel)
theorem wm_695 : Cond.instanceMethod nN_MOD_align ∈ lw_ws := lw_m (i := 695) (by decide +kernel) (by decide +kernel)
set_option maxRecDepth 100000 in
theorem wm_696 : Cond.code nN_MOD_align nC_MOD_align 11 (some .int) ∈ lw_ws := lw_m (i := 696) rfl (by decide +kernel)
theorem wm_697 : Cond.methodLink nR_MOD 91 nN_MOD_charOf ∈ lw_ws := lw_m (i := 697) (by decide +kernel) (by decide +kernel)
theorem wm_698 : Cond.static nN_MOD_charOf ∈ lw_ws := lw_m (i := 698) (by decide +kernel) (by decide +kernel)
set_option maxRecDepth 100000 in
theorem wm_699 : Cond.code nN_MOD_charOf nC_MOD_charOf 1 (some .int) ∈ lw_ws := lw_m (i := 699) rfl (by decide +kernel)
theorem wm_700 : Cond.constantLong nR_MOD 84 16 ∈ lw_ws := lw_m (i := 700) (by decide +kernel) (by decide +kernel)
theorem wm_701 : Cond.methodLink nR_MOD 95 nN_MOD_partOf ∈ lw_ws := lw_m (i := 701) (by decide +kernel) (by decide +kernel)
theorem wm_702 : Cond.static nN_MOD_partOf ∈ lw_ws := lw_m (i := 702) (by decide +kernel) (by decide +kernel)
set_option maxRecDepth 100000 in
theorem wm_703 : Cond.code nN_MOD_partOf nC_MOD_partOf 1 (some .long) ∈ lw_ws := lw_m (i := 703) rfl (by decide +kernel)
theorem wm_704 : Cond.constant nR_MOD 81 16777215 ∈ lw_ws := lw_m (i := 704) (by decide +kernel) (by decide +kernel)
theorem wm_705 : Cond.methodLink nR_MOD 99 nN_MOD_minus ∈ lw_ws := lw_m (i := 705) (by decide +kernel) (by decide +kernel)
theorem wm_706 : Cond.static nN_MOD_minus ∈ lw_ws := lw_m (i := 706) (by decide +kernel) (by decide +kernel)
set_option maxRecDepth 100000 in
theorem wm_707 : Cond.code nN_MOD_minus nC_MOD_minus 1 (some .boolean) ∈ lw_ws := lw_m (i := 707) rfl (by decide +kernel)
theorem wm_708 : Cond.constantLong nR_MOD 111 268435456 ∈ lw_ws := lw_m (i := 708) (by decide +kernel) (by decide +kernel)
theorem wm_709 : Cond.methodLink nR_MOD 113 nN_MOD_finish ∈ lw_ws := lw_m (i := 709) (by decide +kernel) (by decide +kernel)
theorem wm_711 : Cond.instanceMethod nN_MOD_finish ∈ lw_ws := lw_m (i := 711) (by decide +kernel) (by decide +kernel)
set_option maxRecDepth 100000 in
theorem wm_712 : Cond.code nN_MOD_finish nC_MOD_finish 10 (some .int) ∈ lw_ws := lw_m (i := 712) rfl (by decide +kernel)
theorem wm_713 : Cond.constantLong nR_MOD 82 16777216 ∈ lw_ws := lw_m (i := 713) (by decide +kernel) (by decide +kernel)
theorem wm_714 : Cond.constantLong nR_MOD 89 2147483648 ∈ lw_ws := lw_m (i := 714) (by decide +kernel) (by decide +kernel)
theorem wm_715 : Cond.methodLink nR_MOD 118 nN_MOD_other ∈ lw_ws := lw_m (i := 715) (by decide +kernel) (by decide +kernel)
theorem wm_716 : Cond.static nN_MOD_other ∈ lw_ws := lw_m (i := 716) (by decide +kernel) (by decide +kernel)
set_option maxRecDepth 100000 in
theorem wm_717 : Cond.code nN_MOD_other nC_MOD_other 1 (some .int) ∈ lw_ws := lw_m (i := 717) rfl (by decide +kernel)
theorem wm_718 : Cond.constant nR_MOD 117 (-2147483648) ∈ lw_ws := lw_m (i := 718) (by decide +kernel) (by decide +kernel)
theorem wm_719 : Cond.methodLink nR_MOD 132 nN_MOD_product ∈ lw_ws := lw_m (i := 719) (by decide +kernel) (by decide +kernel)
theorem wm_721 : Cond.instanceMethod nN_MOD_product ∈ lw_ws := lw_m (i := 721) (by decide +kernel) (by decide +kernel)
set_option maxRecDepth 100000 in
theorem wm_722 : Cond.code nN_MOD_product nC_MOD_product 6 (some .int) ∈ lw_ws := lw_m (i := 722) rfl (by decide +kernel)
theorem wm_723 : Cond.methodLink nR_MOD 123 nN_MOD_short0 ∈ lw_ws := lw_m (i := 723) (by decide +kernel) (by decide +kernel)
theorem wm_724 : Cond.static nN_MOD_short0 ∈ lw_ws := lw_m (i := 724) (by decide +kernel) (by decide +kernel)
set_option maxRecDepth 100000 in
theorem wm_725 : Cond.code nN_MOD_short0 nC_MOD_short0 4 (some .int) ∈ lw_ws := lw_m (i := 725) rfl (by decide +kernel)
theorem wm_726 : Cond.constantLong nR_MOD 121 1048576 ∈ lw_ws := lw_m (i := 726) (by decide +kernel) (by decide +kernel)
theorem wm_727 : Cond.methodLink nR_MOD 126 nN_MOD_normal ∈ lw_ws := lw_m (i := 727) (by decide +kernel) (by decide +kernel)
theorem wm_728 : Cond.static nN_MOD_normal ∈ lw_ws := lw_m (i := 728) (by decide +kernel) (by decide +kernel)
set_option maxRecDepth 100000 in
theorem wm_729 : Cond.code nN_MOD_normal nC_MOD_normal 5 (some .long) ∈ lw_ws := lw_m (i := 729) rfl (by decide +kernel)
theorem wm_730 : Cond.methodLink nR_MOD 135 nN_MOD_quotient ∈ lw_ws := lw_m (i := 730) (by decide +kernel) (by decide +kernel)
theorem wm_732 : Cond.instanceMethod nN_MOD_quotient ∈ lw_ws := lw_m (i := 732) (by decide +kernel) (by decide +kernel)
set_option maxRecDepth 100000 in
theorem wm_733 : Cond.code nN_MOD_quotient nC_MOD_quotient 6 (some .int) ∈ lw_ws := lw_m (i := 733) rfl (by decide +kernel)
theorem wm_734 : Cond.methodLink nR_MOD 138 nN_MOD_compared ∈ lw_ws := lw_m (i := 734) (by decide +kernel) (by decide +kernel)
theorem wm_736 : Cond.instanceMethod nN_MOD_compared ∈ lw_ws := lw_m (i := 736) (by decide +kernel) (by decide +kernel)
set_option maxRecDepth 100000 in
theorem wm_737 : Cond.code nN_MOD_compared nC_MOD_compared 3 (some .int) ∈ lw_ws := lw_m (i := 737) rfl (by decide +kernel)
theorem wm_746 : Cond.methodLink nR_MOD 145 nN_MOD_isRegister ∈ lw_ws := lw_m (i := 746) (by decide +kernel) (by decide +kernel)
theorem wm_747 : Cond.static nN_MOD_isRegister ∈ lw_ws := lw_m (i := 747) (by decide +kernel) (by decide +kernel)
set_option maxRecDepth 100000 in
theorem wm_748 : Cond.code nN_MOD_isRegister nC_MOD_isRegister 1 (some .boolean) ∈ lw_ws := lw_m (i := 748) rfl (by decide +kernel)
theorem wm_749 : Cond.methodLink nR_MOD 151 nN_MOD_goes ∈ lw_ws := lw_m (i := 749) (by decide +kernel) (by decide +kernel)
theorem wm_751 : Cond.instanceMethod nN_MOD_goes ∈ lw_ws := lw_m (i := 751) (by decide +kernel) (by decide +kernel)
set_option maxRecDepth 100000 in
theorem wm_752 : Cond.code nN_MOD_goes nC_MOD_goes 1 (some .boolean) ∈ lw_ws := lw_m (i := 752) rfl (by decide +kernel)
theorem wm_765 : Cond.methodLink nR_MOD 161 nN_MOD_isPlace ∈ lw_ws := lw_m (i := 765) (by decide +kernel) (by decide +kernel)
theorem wm_766 : Cond.static nN_MOD_isPlace ∈ lw_ws := lw_m (i := 766) (by decide +kernel) (by decide +kernel)
set_option maxRecDepth 100000 in
theorem wm_767 : Cond.code nN_MOD_isPlace nC_MOD_isPlace 1 (some .boolean) ∈ lw_ws := lw_m (i := 767) rfl (by decide +kernel)
theorem wm_772 : Cond.methodLink nR_MOD 212 nN_MOD_cycle ∈ lw_ws := lw_m (i := 772) (by decide +kernel) (by decide +kernel)
theorem wm_774 : Cond.instanceMethod nN_MOD_cycle ∈ lw_ws := lw_m (i := 774) (by decide +kernel) (by decide +kernel)
set_option maxRecDepth 100000 in
theorem wm_775 : Cond.code nN_MOD_cycle nC_MOD_cycle 3 none ∈ lw_ws := lw_m (i := 775) rfl (by decide +kernel)
theorem wm_776 : Cond.methodLink nR_MOD 200 nN_MOD_bus ∈ lw_ws := lw_m (i := 776) (by decide +kernel) (by decide +kernel)
theorem wm_778 : Cond.instanceMethod nN_MOD_bus ∈ lw_ws := lw_m (i := 778) (by decide +kernel) (by decide +kernel)
set_option maxRecDepth 100000 in
theorem wm_779 : Cond.code nN_MOD_bus nC_MOD_bus 4 none ∈ lw_ws := lw_m (i := 779) rfl (by decide +kernel)
theorem wm_780 : Cond.methodLink nR_MOD 164 nN_MOD_turnOf ∈ lw_ws := lw_m (i := 780) (by decide +kernel) (by decide +kernel)
theorem wm_781 : Cond.static nN_MOD_turnOf ∈ lw_ws := lw_m (i := 781) (by decide +kernel) (by decide +kernel)
set_option maxRecDepth 100000 in
theorem wm_782 : Cond.code nN_MOD_turnOf nC_MOD_turnOf 1 (some .int) ∈ lw_ws := lw_m (i := 782) rfl (by decide +kernel)
theorem wm_783 : Cond.methodLink nR_MOD 203 nN_MOD_work ∈ lw_ws := lw_m (i := 783) (by decide +kernel) (by decide +kernel)
theorem wm_785 : Cond.instanceMethod nN_MOD_work ∈ lw_ws := lw_m (i := 785) (by decide +kernel) (by decide +kernel)
set_option maxRecDepth 100000 in
theorem wm_786 : Cond.code nN_MOD_work nC_MOD_work 2 none ∈ lw_ws := lw_m (i := 786) rfl (by decide +kernel)
theorem wm_787 : Cond.methodLink nR_MOD 167 nN_MOD_ends ∈ lw_ws := lw_m (i := 787) (by decide +kernel) (by decide +kernel)
theorem wm_789 : Cond.instanceMethod nN_MOD_ends ∈ lw_ws := lw_m (i := 789) (by decide +kernel) (by decide +kernel)
set_option maxRecDepth 100000 in
theorem wm_790 : Cond.code nN_MOD_ends nC_MOD_ends 2 none ∈ lw_ws := lw_m (i := 790) rfl (by decide +kernel)
theorem wm_791 : Cond.methodLink nR_MOD 206 nN_MOD_begin ∈ lw_ws := lw_m (i := 791) (by decide +kernel) (by decide +kernel)
theorem wm_793 : Cond.instanceMethod nN_MOD_begin ∈ lw_ws := lw_m (i := 793) (by decide +kernel) (by decide +kernel)
set_option maxRecDepth 100000 in
theorem wm_794 : Cond.code nN_MOD_begin nC_MOD_begin 6 none ∈ lw_ws := lw_m (i := 794) rfl (by decide +kernel)
theorem wm_795 : Cond.methodLink nR_MOD 171 nN_MOD_ready ∈ lw_ws := lw_m (i := 795) (by decide +kernel) (by decide +kernel)
theorem wm_797 : Cond.instanceMethod nN_MOD_ready ∈ lw_ws := lw_m (i := 797) (by decide +kernel) (by decide +kernel)
set_option maxRecDepth 100000 in
theorem wm_798 : Cond.code nN_MOD_ready nC_MOD_ready 2 (some .boolean) ∈ lw_ws := lw_m (i := 798) rfl (by decide +kernel)
theorem wm_799 : Cond.methodLink nR_MOD 174 nN_MOD_begins ∈ lw_ws := lw_m (i := 799) (by decide +kernel) (by decide +kernel)
theorem wm_801 : Cond.instanceMethod nN_MOD_begins ∈ lw_ws := lw_m (i := 801) (by decide +kernel) (by decide +kernel)
set_option maxRecDepth 100000 in
theorem wm_802 : Cond.code nN_MOD_begins nC_MOD_begins 6 none ∈ lw_ws := lw_m (i := 802) rfl (by decide +kernel)
theorem wm_803 : Cond.methodLink nR_MOD 209 nN_MOD_handOut ∈ lw_ws := lw_m (i := 803) (by decide +kernel) (by decide +kernel)
theorem wm_805 : Cond.instanceMethod nN_MOD_handOut ∈ lw_ws := lw_m (i := 805) (by decide +kernel) (by decide +kernel)
set_option maxRecDepth 100000 in
theorem wm_806 : Cond.code nN_MOD_handOut nC_MOD_handOut 5 none ∈ lw_ws := lw_m (i := 806) rfl (by decide +kernel)
theorem wm_807 : Cond.methodLink nR_MOD 191 nN_MOD_storage ∈ lw_ws := lw_m (i := 807) (by decide +kernel) (by decide +kernel)
theorem wm_809 : Cond.instanceMethod nN_MOD_storage ∈ lw_ws := lw_m (i := 809) (by decide +kernel) (by decide +kernel)
set_option maxRecDepth 100000 in
theorem wm_810 : Cond.code nN_MOD_storage nC_MOD_storage 4 (some .boolean) ∈ lw_ws := lw_m (i := 810) rfl (by decide +kernel)
theorem wm_811 : Cond.methodLink nR_MOD 181 nN_MOD_free ∈ lw_ws := lw_m (i := 811) (by decide +kernel) (by decide +kernel)
theorem wm_813 : Cond.instanceMethod nN_MOD_free ∈ lw_ws := lw_m (i := 813) (by decide +kernel) (by decide +kernel)
set_option maxRecDepth 100000 in
theorem wm_814 : Cond.code nN_MOD_free nC_MOD_free 5 (some .int) ∈ lw_ws := lw_m (i := 814) rfl (by decide +kernel)
theorem wm_815 : Cond.methodLink nR_MOD 184 nN_MOD_storing ∈ lw_ws := lw_m (i := 815) (by decide +kernel) (by decide +kernel)
theorem wm_817 : Cond.instanceMethod nN_MOD_storing ∈ lw_ws := lw_m (i := 817) (by decide +kernel) (by decide +kernel)
set_option maxRecDepth 100000 in
theorem wm_818 : Cond.code nN_MOD_storing nC_MOD_storing 4 (some .boolean) ∈ lw_ws := lw_m (i := 818) rfl (by decide +kernel)
theorem wm_819 : Cond.methodLink nR_MOD 187 nN_MOD_take ∈ lw_ws := lw_m (i := 819) (by decide +kernel) (by decide +kernel)
theorem wm_821 : Cond.instanceMethod nN_MOD_take ∈ lw_ws := lw_m (i := 821) (by decide +kernel) (by decide +kernel)
set_option maxRecDepth 100000 in
theorem wm_822 : Cond.code nN_MOD_take nC_MOD_take 5 none ∈ lw_ws := lw_m (i := 822) rfl (by decide +kernel)
theorem wm_823 : Cond.methodLink nR_MOD 194 nN_MOD_reckoned ∈ lw_ws := lw_m (i := 823) (by decide +kernel) (by decide +kernel)
theorem wm_825 : Cond.instanceMethod nN_MOD_reckoned ∈ lw_ws := lw_m (i := 825) (by decide +kernel) (by decide +kernel)
set_option maxRecDepth 100000 in
theorem wm_826 : Cond.code nN_MOD_reckoned nC_MOD_reckoned 4 (some .boolean) ∈ lw_ws := lw_m (i := 826) rfl (by decide +kernel)
theorem in_INS : ∀ w ∈ u_ws nR_INS nT_INS 5, w ∈ lw_ws := fun w hw => by
  have hw : w ∈ [Cond.lays nR_INS "TagMachine$Instruction" "op" "I", Cond.lays nR_INS "TagMachine$Instruction" "\x72" "I", Cond.lays nR_INS "TagMachine$Instruction" "s" "I", Cond.lays nR_INS "TagMachine$Instruction" "b" "I", Cond.lays nR_INS "TagMachine$Instruction" "n" "I"] := hw
  simp only [List.mem_cons, List.not_mem_nil, or_false] at hw
  rcases hw with rfl | rfl | rfl | rfl | rfl
  · exact lw_m (i := 92) (by decide +kernel) (by decide +kernel)
  · exact lw_m (i := 94) (by decide +kernel) (by decide +kernel)
  · exact lw_m (i := 96) (by decide +kernel) (by decide +kernel)
  · exact lw_m (i := 98) (by decide +kernel) (by decide +kernel)
  · exact lw_m (i := 100) (by decide +kernel) (by decide +kernel)
theorem in_OPD : ∀ w ∈ u_ws nR_OPD nT_OPD 2, w ∈ lw_ws := fun w hw => by
  have hw : w ∈ [Cond.lays nR_OPD "TagMachine$Operand" "value" "I", Cond.lays nR_OPD "TagMachine$Operand" "awaited" "I"] := hw
  simp only [List.mem_cons, List.not_mem_nil, or_false] at hw
  rcases hw with rfl | rfl
  · exact lw_m (i := 114) (by decide +kernel) (by decide +kernel)
  · exact lw_m (i := 116) (by decide +kernel) (by decide +kernel)
theorem in_REC : ∀ w ∈ u_ws nR_REC nT_REC 2, w ∈ lw_ws := fun w hw => by
  have hw : w ∈ [Cond.lays nR_REC "TagMachine$Reckoner" "result" "I", Cond.lays nR_REC "TagMachine$Reckoner" "raised" "I"] := hw
  simp only [List.mem_cons, List.not_mem_nil, or_false] at hw
  rcases hw with rfl | rfl
  · exact lw_m (i := 175) (by decide +kernel) (by decide +kernel)
  · exact lw_m (i := 177) (by decide +kernel) (by decide +kernel)
theorem in_UNI : ∀ w ∈ u_ws nR_UNI nT_UNI 9, w ∈ lw_ws := fun w hw => by
  have hw : w ∈ [Cond.laysFinal nR_UNI "TagMachine$Unit" "first" "LTagMachine$Operand;", Cond.laysFinal nR_UNI "TagMachine$Unit" "second" "LTagMachine$Operand;", Cond.lays nR_UNI "TagMachine$Unit" "state" "I", Cond.lays nR_UNI "TagMachine$Unit" "op" "I", Cond.lays nR_UNI "TagMachine$Unit" "address" "I", Cond.lays nR_UNI "TagMachine$Unit" "order" "I", Cond.lays nR_UNI "TagMachine$Unit" "toGo" "I", Cond.lays nR_UNI "TagMachine$Unit" "result" "I", Cond.lays nR_UNI "TagMachine$Unit" "raised" "I"] := hw
  simp only [List.mem_cons, List.not_mem_nil, or_false] at hw
  rcases hw with rfl | rfl | rfl | rfl | rfl | rfl | rfl | rfl | rfl
  · exact lw_m (i := 146) (by decide +kernel) (by decide +kernel)
  · exact lw_m (i := 148) (by decide +kernel) (by decide +kernel)
  · exact lw_m (i := 150) (by decide +kernel) (by decide +kernel)
  · exact lw_m (i := 152) (by decide +kernel) (by decide +kernel)
  · exact lw_m (i := 154) (by decide +kernel) (by decide +kernel)
  · exact lw_m (i := 156) (by decide +kernel) (by decide +kernel)
  · exact lw_m (i := 158) (by decide +kernel) (by decide +kernel)
  · exact lw_m (i := 160) (by decide +kernel) (by decide +kernel)
  · exact lw_m (i := 162) (by decide +kernel) (by decide +kernel)
theorem in_TM : ∀ w ∈ u_ws nR_TM nT_TM 15, w ∈ lw_ws := fun w hw => by
  have hw : w ∈ [Cond.laysFinal nR_TM "TagMachine" "banks" "I", Cond.laysFinal nR_TM "TagMachine" "latency" "I", Cond.laysFinal nR_TM "TagMachine" "program" "[LTagMachine$Instruction;", Cond.laysFinal nR_TM "TagMachine" "registers" "[LTagMachine$Operand;", Cond.laysFinal nR_TM "TagMachine" "integers" "[I", Cond.laysFinal nR_TM "TagMachine" "words" "[I", Cond.laysFinal nR_TM "TagMachine" "units" "[LTagMachine$Unit;", Cond.laysFinal nR_TM "TagMachine" "bankInUse" "[Z", Cond.laysFinal nR_TM "TagMachine" "reckoner" "LTagMachine$Reckoner;", Cond.lays nR_TM "TagMachine" "instructions" "I", Cond.lays nR_TM "TagMachine" "mode" "I", Cond.lays nR_TM "TagMachine" "next" "I", Cond.lays nR_TM "TagMachine" "noted" "I", Cond.lays nR_TM "TagMachine" "cycles" "I", Cond.lays nR_TM "TagMachine" "handedOut" "I"] := hw
  simp only [List.mem_cons, List.not_mem_nil, or_false] at hw
  rcases hw with rfl | rfl | rfl | rfl | rfl | rfl | rfl | rfl | rfl | rfl | rfl | rfl | rfl | rfl | rfl
  · exact lw_m (i := 197) (by decide +kernel) (by decide +kernel)
  · exact lw_m (i := 199) (by decide +kernel) (by decide +kernel)
  · exact lw_m (i := 201) (by decide +kernel) (by decide +kernel)
  · exact lw_m (i := 203) (by decide +kernel) (by decide +kernel)
  · exact lw_m (i := 205) (by decide +kernel) (by decide +kernel)
  · exact lw_m (i := 207) (by decide +kernel) (by decide +kernel)
  · exact lw_m (i := 209) (by decide +kernel) (by decide +kernel)
  · exact lw_m (i := 211) (by decide +kernel) (by decide +kernel)
  · exact lw_m (i := 213) (by decide +kernel) (by decide +kernel)
  · exact lw_m (i := 215) (by decide +kernel) (by decide +kernel)
  · exact lw_m (i := 217) (by decide +kernel) (by decide +kernel)
  · exact lw_m (i := 219) (by decide +kernel) (by decide +kernel)
  · exact lw_m (i := 221) (by decide +kernel) (by decide +kernel)
  · exact lw_m (i := 223) (by decide +kernel) (by decide +kernel)
  · exact lw_m (i := 225) (by decide +kernel) (by decide +kernel)
theorem in_MOD : ∀ w ∈ u_ws nR_MOD nT_MOD 30, w ∈ lw_ws := fun w hw => by
  have hw : w ∈ [Cond.laysFinal nR_MOD "TagMachineModel" "banks" "I", Cond.laysFinal nR_MOD "TagMachineModel" "latency" "I", Cond.lays nR_MOD "TagMachineModel" "threw" "I", Cond.lays nR_MOD "TagMachineModel" "many" "I", Cond.laysFinal nR_MOD "TagMachineModel" "op" "[I", Cond.laysFinal nR_MOD "TagMachineModel" "rs" "[I", Cond.laysFinal nR_MOD "TagMachineModel" "ss" "[I", Cond.laysFinal nR_MOD "TagMachineModel" "bs" "[I", Cond.laysFinal nR_MOD "TagMachineModel" "ns" "[I", Cond.lays nR_MOD "TagMachineModel" "state" "I", Cond.lays nR_MOD "TagMachineModel" "next" "I", Cond.lays nR_MOD "TagMachineModel" "noted" "I", Cond.lays nR_MOD "TagMachineModel" "cycles" "I", Cond.lays nR_MOD "TagMachineModel" "handed" "I", Cond.laysFinal nR_MOD "TagMachineModel" "value" "[I", Cond.laysFinal nR_MOD "TagMachineModel" "waits" "[I", Cond.laysFinal nR_MOD "TagMachineModel" "general" "[I", Cond.laysFinal nR_MOD "TagMachineModel" "words" "[I", Cond.laysFinal nR_MOD "TagMachineModel" "place" "[I", Cond.laysFinal nR_MOD "TagMachineModel" "what" "[I", Cond.laysFinal nR_MOD "TagMachineModel" "left" "[I", Cond.laysFinal nR_MOD "TagMachineModel" "gives" "[I", Cond.laysFinal nR_MOD "TagMachineModel" "notes" "[I", Cond.laysFinal nR_MOD "TagMachineModel" "operand" "[I", Cond.laysFinal nR_MOD "TagMachineModel" "tag" "[I", Cond.laysFinal nR_MOD "TagMachineModel" "where" "[I", Cond.laysFinal nR_MOD "TagMachineModel" "order" "[I", Cond.laysFinal nR_MOD "TagMachineModel" "taken" "[Z", Cond.lays nR_MOD "TagMachineModel" "exception" "I", Cond.lays nR_MOD "TagMachineModel" "signed" "J"] := hw
  simp only [List.mem_cons, List.not_mem_nil, or_false] at hw
  rcases hw with rfl | rfl | rfl | rfl | rfl | rfl | rfl | rfl | rfl | rfl | rfl | rfl | rfl | rfl | rfl | rfl | rfl | rfl | rfl | rfl | rfl | rfl | rfl | rfl | rfl | rfl | rfl | rfl | rfl | rfl
  · exact lw_m (i := 616) (by decide +kernel) (by decide +kernel)
  · exact lw_m (i := 618) (by decide +kernel) (by decide +kernel)
  · exact lw_m (i := 620) (by decide +kernel) (by decide +kernel)
  · exact lw_m (i := 622) (by decide +kernel) (by decide +kernel)
  · exact lw_m (i := 624) (by decide +kernel) (by decide +kernel)
  · exact lw_m (i := 626) (by decide +kernel) (by decide +kernel)
  · exact lw_m (i := 628) (by decide +kernel) (by decide +kernel)
  · exact lw_m (i := 630) (by decide +kernel) (by decide +kernel)
  · exact lw_m (i := 632) (by decide +kernel) (by decide +kernel)
  · exact lw_m (i := 634) (by decide +kernel) (by decide +kernel)
  · exact lw_m (i := 636) (by decide +kernel) (by decide +kernel)
  · exact lw_m (i := 638) (by decide +kernel) (by decide +kernel)
  · exact lw_m (i := 640) (by decide +kernel) (by decide +kernel)
  · exact lw_m (i := 642) (by decide +kernel) (by decide +kernel)
  · exact lw_m (i := 644) (by decide +kernel) (by decide +kernel)
  · exact lw_m (i := 646) (by decide +kernel) (by decide +kernel)
  · exact lw_m (i := 648) (by decide +kernel) (by decide +kernel)
  · exact lw_m (i := 650) (by decide +kernel) (by decide +kernel)
  · exact lw_m (i := 652) (by decide +kernel) (by decide +kernel)
  · exact lw_m (i := 654) (by decide +kernel) (by decide +kernel)
  · exact lw_m (i := 656) (by decide +kernel) (by decide +kernel)
  · exact lw_m (i := 658) (by decide +kernel) (by decide +kernel)
  · exact lw_m (i := 660) (by decide +kernel) (by decide +kernel)
  · exact lw_m (i := 662) (by decide +kernel) (by decide +kernel)
  · exact lw_m (i := 664) (by decide +kernel) (by decide +kernel)
  · exact lw_m (i := 666) (by decide +kernel) (by decide +kernel)
  · exact lw_m (i := 668) (by decide +kernel) (by decide +kernel)
  · exact lw_m (i := 670) (by decide +kernel) (by decide +kernel)
  · exact lw_m (i := 672) (by decide +kernel) (by decide +kernel)
  · exact lw_m (i := 674) (by decide +kernel) (by decide +kernel)
theorem wc_MOD_107 : GoodIn lw_ws (wsV nR_MOD 107 (nN_MOD_align).cls nN_MOD_align (.code nN_MOD_align nC_MOD_align 11 (some .int) :: lw_ws)) := gs_V wm_693 wm_695 wm_29 wm_55 wm_696
theorem wc_MOD_113 : GoodIn lw_ws (wsV nR_MOD 113 (nN_MOD_finish).cls nN_MOD_finish (.code nN_MOD_finish nC_MOD_finish 10 (some .int) :: lw_ws)) := gs_V wm_709 wm_711 wm_30 wm_55 wm_712
theorem wc_MOD_118 : GoodIn lw_ws (va_wsS nR_MOD 118 nN_MOD_other (.code nN_MOD_other nC_MOD_other 1 (some .int) :: lw_ws)) := gs_S wm_715 wm_716 wm_55 wm_717
theorem wc_MOD_123 : GoodIn lw_ws (va_wsS nR_MOD 123 nN_MOD_short0 (.code nN_MOD_short0 nC_MOD_short0 4 (some .int) :: lw_ws)) := gs_S wm_723 wm_724 wm_55 wm_725
theorem wc_MOD_126 : GoodIn lw_ws (va_wsS nR_MOD 126 nN_MOD_normal (.code nN_MOD_normal nC_MOD_normal 5 (some .long) :: lw_ws)) := gs_S wm_727 wm_728 wm_55 wm_729
theorem wc_MOD_129 : GoodIn lw_ws (wsV nR_MOD 129 (nN_MOD_sum).cls nN_MOD_sum (.code nN_MOD_sum nC_MOD_sum 7 (some .int) :: lw_ws)) := gs_V wm_689 wm_691 wm_28 wm_55 wm_692
theorem wc_MOD_132 : GoodIn lw_ws (wsV nR_MOD 132 (nN_MOD_product).cls nN_MOD_product (.code nN_MOD_product nC_MOD_product 6 (some .int) :: lw_ws)) := gs_V wm_719 wm_721 wm_31 wm_55 wm_722
theorem wc_MOD_135 : GoodIn lw_ws (wsV nR_MOD 135 (nN_MOD_quotient).cls nN_MOD_quotient (.code nN_MOD_quotient nC_MOD_quotient 6 (some .int) :: lw_ws)) := gs_V wm_730 wm_732 wm_32 wm_55 wm_733
theorem wc_MOD_138 : GoodIn lw_ws (wsV nR_MOD 138 (nN_MOD_compared).cls nN_MOD_compared (.code nN_MOD_compared nC_MOD_compared 3 (some .int) :: lw_ws)) := gs_V wm_734 wm_736 wm_33 wm_55 wm_737
theorem wc_MOD_141 : GoodIn lw_ws (wsV nR_MOD 141 (nN_MOD_result).cls nN_MOD_result (.code nN_MOD_result nC_MOD_result 4 (some .int) :: lw_ws)) := gs_V wm_685 wm_687 wm_27 wm_55 wm_688
theorem wc_MOD_145 : GoodIn lw_ws (va_wsS nR_MOD 145 nN_MOD_isRegister (.code nN_MOD_isRegister nC_MOD_isRegister 1 (some .boolean) :: lw_ws)) := gs_S wm_746 wm_747 wm_55 wm_748
theorem wc_MOD_151 : GoodIn lw_ws (wsV nR_MOD 151 (nN_MOD_goes).cls nN_MOD_goes (.code nN_MOD_goes nC_MOD_goes 1 (some .boolean) :: lw_ws)) := gs_V wm_749 wm_751 wm_34 wm_55 wm_752
theorem wc_MOD_161 : GoodIn lw_ws (va_wsS nR_MOD 161 nN_MOD_isPlace (.code nN_MOD_isPlace nC_MOD_isPlace 1 (some .boolean) :: lw_ws)) := gs_S wm_765 wm_766 wm_55 wm_767
theorem wc_MOD_164 : GoodIn lw_ws (va_wsS nR_MOD 164 nN_MOD_turnOf (.code nN_MOD_turnOf nC_MOD_turnOf 1 (some .int) :: lw_ws)) := gs_S wm_780 wm_781 wm_55 wm_782
theorem wc_MOD_167 : GoodIn lw_ws (wsV nR_MOD 167 (nN_MOD_ends).cls nN_MOD_ends (.code nN_MOD_ends nC_MOD_ends 2 none :: lw_ws)) := gs_V wm_787 wm_789 wm_38 wm_55 wm_790
theorem wc_MOD_171 : GoodIn lw_ws (wsV nR_MOD 171 (nN_MOD_ready).cls nN_MOD_ready (.code nN_MOD_ready nC_MOD_ready 2 (some .boolean) :: lw_ws)) := gs_V wm_795 wm_797 wm_40 wm_55 wm_798
theorem wc_MOD_174 : GoodIn lw_ws (wsV nR_MOD 174 (nN_MOD_begins).cls nN_MOD_begins (.code nN_MOD_begins nC_MOD_begins 6 none :: lw_ws)) := gs_V wm_799 wm_801 wm_41 wm_55 wm_802
theorem wc_MOD_181 : GoodIn lw_ws (wsV nR_MOD 181 (nN_MOD_free).cls nN_MOD_free (.code nN_MOD_free nC_MOD_free 5 (some .int) :: lw_ws)) := gs_V wm_811 wm_813 wm_44 wm_55 wm_814
theorem wc_MOD_184 : GoodIn lw_ws (wsV nR_MOD 184 (nN_MOD_storing).cls nN_MOD_storing (.code nN_MOD_storing nC_MOD_storing 4 (some .boolean) :: lw_ws)) := gs_V wm_815 wm_817 wm_45 wm_55 wm_818
theorem wc_MOD_187 : GoodIn lw_ws (wsV nR_MOD 187 (nN_MOD_take).cls nN_MOD_take (.code nN_MOD_take nC_MOD_take 5 none :: lw_ws)) := gs_V wm_819 wm_821 wm_46 wm_55 wm_822
theorem wc_MOD_191 : GoodIn lw_ws (wsV nR_MOD 191 (nN_MOD_storage).cls nN_MOD_storage (.code nN_MOD_storage nC_MOD_storage 4 (some .boolean) :: lw_ws)) := gs_V wm_807 wm_809 wm_43 wm_55 wm_810
theorem wc_MOD_194 : GoodIn lw_ws (wsV nR_MOD 194 (nN_MOD_reckoned).cls nN_MOD_reckoned (.code nN_MOD_reckoned nC_MOD_reckoned 4 (some .boolean) :: lw_ws)) := gs_V wm_823 wm_825 wm_47 wm_55 wm_826
theorem wc_MOD_200 : GoodIn lw_ws (wsV nR_MOD 200 (nN_MOD_bus).cls nN_MOD_bus (.code nN_MOD_bus nC_MOD_bus 4 none :: lw_ws)) := gs_V wm_776 wm_778 wm_36 wm_55 wm_779
theorem wc_MOD_203 : GoodIn lw_ws (wsV nR_MOD 203 (nN_MOD_work).cls nN_MOD_work (.code nN_MOD_work nC_MOD_work 2 none :: lw_ws)) := gs_V wm_783 wm_785 wm_37 wm_55 wm_786
theorem wc_MOD_206 : GoodIn lw_ws (wsV nR_MOD 206 (nN_MOD_begin).cls nN_MOD_begin (.code nN_MOD_begin nC_MOD_begin 6 none :: lw_ws)) := gs_V wm_791 wm_793 wm_39 wm_55 wm_794
theorem wc_MOD_209 : GoodIn lw_ws (wsV nR_MOD 209 (nN_MOD_handOut).cls nN_MOD_handOut (.code nN_MOD_handOut nC_MOD_handOut 5 none :: lw_ws)) := gs_V wm_803 wm_805 wm_42 wm_55 wm_806
theorem wc_MOD_212 : GoodIn lw_ws (wsV nR_MOD 212 (nN_MOD_cycle).cls nN_MOD_cycle (.code nN_MOD_cycle nC_MOD_cycle 3 none :: lw_ws)) := gs_V wm_772 wm_774 wm_35 wm_55 wm_775
theorem wc_MOD_91 : GoodIn lw_ws (va_wsS nR_MOD 91 nN_MOD_charOf (.code nN_MOD_charOf nC_MOD_charOf 1 (some .int) :: lw_ws)) := gs_S wm_697 wm_698 wm_55 wm_699
theorem wc_MOD_95 : GoodIn lw_ws (va_wsS nR_MOD 95 nN_MOD_partOf (.code nN_MOD_partOf nC_MOD_partOf 1 (some .long) :: lw_ws)) := gs_S wm_701 wm_702 wm_55 wm_703
theorem wc_MOD_99 : GoodIn lw_ws (va_wsS nR_MOD 99 nN_MOD_minus (.code nN_MOD_minus nC_MOD_minus 1 (some .boolean) :: lw_ws)) := gs_S wm_705 wm_706 wm_55 wm_707
theorem wc_OPD_16 : GoodIn lw_ws (wsV nR_OPD 16 (nN_OPD_isAwaited).cls nN_OPD_isAwaited (.code nN_OPD_isAwaited nC_OPD_isAwaited 1 (some .boolean) :: lw_ws)) := gs_V wm_533 wm_430 wm_431 wm_52 wm_432
theorem wc_OPD_20 : GoodIn lw_ws (wsV nR_OPD 20 (nN_OPD_waitFor).cls nN_OPD_waitFor (.code nN_OPD_waitFor nC_OPD_waitFor 2 none :: lw_ws)) := gs_V wm_534 wm_526 wm_527 wm_52 wm_528
theorem wc_OPD_24 : GoodIn lw_ws (wsV nR_OPD 24 (nN_OPD_haveValue).cls nN_OPD_haveValue (.code nN_OPD_haveValue nC_OPD_haveValue 2 none :: lw_ws)) := gs_V wm_397 wm_398 wm_399 wm_52 wm_400
theorem wc_REC_13 : GoodIn lw_ws (wsV nR_REC 13 (nN_REC_add).cls nN_REC_add (.code nN_REC_add nC_REC_add 6 none :: lw_ws)) := gs_V wm_441 wm_443 wm_13 wm_54 wm_444
theorem wc_REC_18 : GoodIn lw_ws (wsV nR_REC 18 (nN_REC_multiply).cls nN_REC_multiply (.code nN_REC_multiply nC_REC_multiply 5 none :: lw_ws)) := gs_V wm_472 wm_474 wm_15 wm_54 wm_475
theorem wc_REC_21 : GoodIn lw_ws (wsV nR_REC 21 (nN_REC_divide).cls nN_REC_divide (.code nN_REC_divide nC_REC_divide 6 none :: lw_ws)) := gs_V wm_482 wm_484 wm_16 wm_54 wm_485
theorem wc_REC_24 : GoodIn lw_ws (wsV nR_REC 24 (nN_REC_compare).cls nN_REC_compare (.code nN_REC_compare nC_REC_compare 4 none :: lw_ws)) := gs_V wm_486 wm_488 wm_17 wm_54 wm_489
theorem wc_REC_27 : GoodIn lw_ws (va_wsS nR_REC 27 nN_REC_alignedSum (.code nN_REC_alignedSum nC_REC_alignedSum 3 (some .int) :: lw_ws)) := gs_S wm_445 wm_446 wm_54 wm_447
theorem wc_REC_31 : GoodIn lw_ws (va_wsS nR_REC 31 nN_REC_greaterCharacteristic (.code nN_REC_greaterCharacteristic nC_REC_greaterCharacteristic 2 (some .int) :: lw_ws)) := gs_S wm_460 wm_461 wm_54 wm_462
theorem wc_REC_35 : GoodIn lw_ws (wsV nR_REC 35 (nN_REC_finish).cls nN_REC_finish (.code nN_REC_finish nC_REC_finish 7 none :: lw_ws)) := gs_V wm_464 wm_466 wm_14 wm_54 wm_467
theorem wc_REC_42 : GoodIn lw_ws (va_wsS nR_REC 42 nN_REC_fraction (.code nN_REC_fraction nC_REC_fraction 1 (some .int) :: lw_ws)) := gs_S wm_456 wm_457 wm_54 wm_458
theorem wc_REC_46 : GoodIn lw_ws (va_wsS nR_REC 46 nN_REC_normalFraction (.code nN_REC_normalFraction nC_REC_normalFraction 2 (some .int) :: lw_ws)) := gs_S wm_476 wm_477 wm_54 wm_478
theorem wc_REC_49 : GoodIn lw_ws (va_wsS nR_REC 49 nN_REC_normalCharacteristic (.code nN_REC_normalCharacteristic nC_REC_normalCharacteristic 1 (some .int) :: lw_ws)) := gs_S wm_479 wm_480 wm_54 wm_481
theorem wc_REC_52 : GoodIn lw_ws (va_wsS nR_REC 52 nN_REC_leadingZeros (.code nN_REC_leadingZeros nC_REC_leadingZeros 3 (some .int) :: lw_ws)) := gs_S wm_468 wm_469 wm_54 wm_470
theorem wc_REC_56 : GoodIn lw_ws (va_wsS nR_REC 56 nN_REC_characteristic (.code nN_REC_characteristic nC_REC_characteristic 1 (some .int) :: lw_ws)) := gs_S wm_448 wm_449 wm_54 wm_450
theorem wc_REC_64 : GoodIn lw_ws (va_wsS nR_REC 64 nN_REC_aligned (.code nN_REC_aligned nC_REC_aligned 4 (some .int) :: lw_ws)) := gs_S wm_451 wm_452 wm_54 wm_453
theorem wc_TM_104 : GoodIn lw_ws (va_wsS nR_TM 104 nN_TM_isPlace (.code nN_TM_isPlace nC_TM_isPlace 1 (some .boolean) :: lw_ws)) := gs_S wm_243 wm_244 wm_49 wm_245
theorem wc_TM_110 : GoodIn lw_ws (wsV nR_TM 110 (nN_REC_workOut).cls nN_REC_workOut (.code nN_REC_workOut nC_REC_workOut 4 none :: lw_ws)) := gs_V wm_437 wm_438 wm_439 wm_54 wm_440
theorem wc_TM_135 : GoodIn lw_ws (wsV nR_TM 135 (nN_TM_useBus).cls nN_TM_useBus (.code nN_TM_useBus nC_TM_useBus 2 none :: lw_ws)) := gs_V wm_377 wm_379 wm_4 wm_49 wm_380
theorem wc_TM_138 : GoodIn lw_ws (wsV nR_TM 138 (nN_TM_work).cls nN_TM_work (.code nN_TM_work nC_TM_work 3 none :: lw_ws)) := gs_V wm_406 wm_408 wm_8 wm_49 wm_409
theorem wc_TM_141 : GoodIn lw_ws (wsV nR_TM 141 (nN_TM_firstReady).cls nN_TM_firstReady (.code nN_TM_firstReady nC_TM_firstReady 4 (some .int) :: lw_ws)) := gs_V wm_421 wm_423 wm_11 wm_49 wm_424
theorem wc_TM_144 : GoodIn lw_ws (wsV nR_TM 144 (nN_TM_beginStation).cls nN_TM_beginStation (.code nN_TM_beginStation nC_TM_beginStation 3 none :: lw_ws)) := gs_V wm_433 wm_435 wm_12 wm_49 wm_436
theorem wc_TM_147 : GoodIn lw_ws (wsV nR_TM 147 (nN_TM_nextOfMultiplier).cls nN_TM_nextOfMultiplier (.code nN_TM_nextOfMultiplier nC_TM_nextOfMultiplier 2 (some .int) :: lw_ws)) := gs_V wm_497 wm_499 wm_18 wm_49 wm_500
theorem wc_TM_151 : GoodIn lw_ws (wsV nR_TM 151 (nN_TM_beginStorage).cls nN_TM_beginStorage (.code nN_TM_beginStorage nC_TM_beginStorage 3 none :: lw_ws)) := gs_V wm_501 wm_503 wm_19 wm_49 wm_504
theorem wc_TM_154 : GoodIn lw_ws (wsV nR_TM 154 (nN_TM_handOut).cls nN_TM_handOut (.code nN_TM_handOut nC_TM_handOut 3 none :: lw_ws)) := gs_V wm_509 wm_511 wm_21 wm_49 wm_512
theorem wc_TM_157 : GoodIn lw_ws (wsV nR_TM 157 (nN_TM_allFree).cls nN_TM_allFree (.code nN_TM_allFree nC_TM_allFree 2 (some .boolean) :: lw_ws)) := gs_V wm_544 wm_546 wm_26 wm_49 wm_547
theorem wc_TM_160 : GoodIn lw_ws (wsV nR_TM 160 (nN_UNI_isReady).cls nN_UNI_isReady (.code nN_UNI_isReady nC_UNI_isReady 1 (some .boolean) :: lw_ws)) := gs_V wm_425 wm_426 wm_427 wm_53 wm_428
theorem wc_TM_163 : GoodIn lw_ws (wsV nR_TM 163 (nN_TM_firstLike).cls nN_TM_firstLike (.code nN_TM_firstLike nC_TM_firstLike 5 (some .int) :: lw_ws)) := gs_V wm_381 wm_383 wm_5 wm_49 wm_384
theorem wc_TM_167 : GoodIn lw_ws (wsV nR_TM 167 (nN_TM_send).cls nN_TM_send (.code nN_TM_send nC_TM_send 4 none :: lw_ws)) := gs_V wm_385 wm_387 wm_6 wm_49 wm_388
theorem wc_TM_171 : GoodIn lw_ws (wsV nR_TM 171 (nN_UNI_hear).cls nN_UNI_hear (.code nN_UNI_hear nC_UNI_hear 3 none :: lw_ws)) := gs_V wm_389 wm_390 wm_391 wm_53 wm_392
theorem wc_TM_175 : GoodIn lw_ws (wsV nR_TM 175 (nN_OPD_hear).cls nN_OPD_hear (.code nN_OPD_hear nC_OPD_hear 3 none :: lw_ws)) := gs_V wm_401 wm_394 wm_395 wm_52 wm_396
theorem wc_TM_177 : GoodIn lw_ws (wsV nR_TM 177 (nN_TM_note).cls nN_TM_note (.code nN_TM_note nC_TM_note 2 none :: lw_ws)) := gs_V wm_402 wm_404 wm_7 wm_49 wm_405
theorem wc_TM_183 : GoodIn lw_ws (wsV nR_TM 183 (nN_TM_finishWork).cls nN_TM_finishWork (.code nN_TM_finishWork nC_TM_finishWork 2 none :: lw_ws)) := gs_V wm_410 wm_412 wm_9 wm_49 wm_413
theorem wc_TM_190 : GoodIn lw_ws (va_wsS nR_TM 190 nN_TM_usesStorage (.code nN_TM_usesStorage nC_TM_usesStorage 1 (some .boolean) :: lw_ws)) := gs_S wm_414 wm_415 wm_49 wm_416
theorem wc_TM_193 : GoodIn lw_ws (wsV nR_TM 193 (nN_TM_bankOf).cls nN_TM_bankOf (.code nN_TM_bankOf nC_TM_bankOf 2 (some .int) :: lw_ws)) := gs_V wm_417 wm_419 wm_10 wm_49 wm_420
theorem wc_TM_207 : GoodIn lw_ws (va_wsS nR_TM 207 nN_TM_cyclesFor (.code nN_TM_cyclesFor nC_TM_cyclesFor 1 (some .int) :: lw_ws)) := gs_S wm_490 wm_491 wm_49 wm_492
theorem wc_TM_211 : GoodIn lw_ws (wsV nR_TM 211 (nN_UNI_begin).cls nN_UNI_begin (.code nN_UNI_begin nC_UNI_begin 4 none :: lw_ws)) := gs_V wm_493 wm_494 wm_495 wm_53 wm_496
theorem wc_TM_214 : GoodIn lw_ws (wsV nR_TM 214 (nN_TM_earliestAccess).cls nN_TM_earliestAccess (.code nN_TM_earliestAccess nC_TM_earliestAccess 4 (some .int) :: lw_ws)) := gs_V wm_505 wm_507 wm_20 wm_49 wm_508
theorem wc_TM_221 : GoodIn lw_ws (wsV nR_TM 221 (nN_TM_handToBuffer).cls nN_TM_handToBuffer (.code nN_TM_handToBuffer nC_TM_handToBuffer 4 (some .boolean) :: lw_ws)) := gs_V wm_513 wm_515 wm_22 wm_49 wm_516
theorem wc_TM_225 : GoodIn lw_ws (wsV nR_TM 225 (nN_TM_handToStation).cls nN_TM_handToStation (.code nN_TM_handToStation nC_TM_handToStation 3 (some .boolean) :: lw_ws)) := gs_V wm_535 wm_537 wm_24 wm_49 wm_538
theorem wc_TM_228 : GoodIn lw_ws (wsV nR_TM 228 (nN_TM_doAtOnce).cls nN_TM_doAtOnce (.code nN_TM_doAtOnce nC_TM_doAtOnce 3 (some .boolean) :: lw_ws)) := gs_V wm_539 wm_541 wm_25 wm_49 wm_542
theorem wc_TM_237 : GoodIn lw_ws (wsV nR_TM 237 (nN_TM_isToBeStored).cls nN_TM_isToBeStored (.code nN_TM_isToBeStored nC_TM_isToBeStored 3 (some .boolean) :: lw_ws)) := gs_V wm_517 wm_519 wm_23 wm_49 wm_520
theorem wc_TM_240 : GoodIn lw_ws (wsV nR_TM 240 (nN_UNI_claim).cls nN_UNI_claim (.code nN_UNI_claim nC_UNI_claim 4 none :: lw_ws)) := gs_V wm_521 wm_522 wm_523 wm_53 wm_524
theorem wc_TM_246 : GoodIn lw_ws (wsV nR_TM 246 (nN_OPD_waitFor).cls nN_OPD_waitFor (.code nN_OPD_waitFor nC_OPD_waitFor 2 none :: lw_ws)) := gs_V wm_525 wm_526 wm_527 wm_52 wm_528
theorem wc_TM_249 : GoodIn lw_ws (wsV nR_TM 249 (nN_OPD_copy).cls nN_OPD_copy (.code nN_OPD_copy nC_OPD_copy 2 none :: lw_ws)) := gs_V wm_529 wm_530 wm_531 wm_52 wm_532
theorem wc_TM_256 : GoodIn lw_ws (wsV nR_TM 256 (nN_OPD_isAwaited).cls nN_OPD_isAwaited (.code nN_OPD_isAwaited nC_OPD_isAwaited 1 (some .boolean) :: lw_ws)) := gs_V wm_543 wm_430 wm_431 wm_52 wm_432
theorem wc_TM_67 : GoodIn lw_ws (va_wsS nR_TM 67 nN_TM_isRegister (.code nN_TM_isRegister nC_TM_isRegister 1 (some .boolean) :: lw_ws)) := gs_S wm_232 wm_233 wm_49 wm_234
theorem wc_TM_88 : GoodIn lw_ws (wsV nR_TM 88 (nN_TM_isInstruction).cls nN_TM_isInstruction (.code nN_TM_isInstruction nC_TM_isInstruction 2 (some .boolean) :: lw_ws)) := gs_V wm_362 wm_364 wm_2 wm_49 wm_365
theorem wc_UNI_25 : GoodIn lw_ws (wsV nR_UNI 25 (nN_OPD_isAwaited).cls nN_OPD_isAwaited (.code nN_OPD_isAwaited nC_OPD_isAwaited 1 (some .boolean) :: lw_ws)) := gs_V wm_429 wm_430 wm_431 wm_52 wm_432
theorem wc_UNI_47 : GoodIn lw_ws (wsV nR_UNI 47 (nN_OPD_hear).cls nN_OPD_hear (.code nN_OPD_hear nC_OPD_hear 3 none :: lw_ws)) := gs_V wm_393 wm_394 wm_395 wm_52 wm_396
theorem hd_TM_init : (nN_TM_init).cls ≠ "java/lang/invoke/MethodHandle" ∧ (nN_TM_init).cls ≠ "java/lang/invoke/VarHandle" ∧ (parseMethodDescriptor (nN_TM_init).desc).map (fun d => d.parameters.length) = some 2 := by decide +kernel
theorem hd_TM_put : (nN_TM_put).cls ≠ "java/lang/invoke/MethodHandle" ∧ (nN_TM_put).cls ≠ "java/lang/invoke/VarHandle" ∧ (parseMethodDescriptor (nN_TM_put).desc).map (fun d => d.parameters.length) = some 5 := by decide +kernel
theorem hd_TM_start : (nN_TM_start).cls ≠ "java/lang/invoke/MethodHandle" ∧ (nN_TM_start).cls ≠ "java/lang/invoke/VarHandle" ∧ (parseMethodDescriptor (nN_TM_start).desc).map (fun d => d.parameters.length) = some 1 := by decide +kernel
theorem hd_TM_run : (nN_TM_run).cls ≠ "java/lang/invoke/MethodHandle" ∧ (nN_TM_run).cls ≠ "java/lang/invoke/VarHandle" ∧ (parseMethodDescriptor (nN_TM_run).desc).map (fun d => d.parameters.length) = some 1 := by decide +kernel
theorem hd_TM_set : (nN_TM_set).cls ≠ "java/lang/invoke/MethodHandle" ∧ (nN_TM_set).cls ≠ "java/lang/invoke/VarHandle" ∧ (parseMethodDescriptor (nN_TM_set).desc).map (fun d => d.parameters.length) = some 2 := by decide +kernel
theorem hd_TM_store : (nN_TM_store).cls ≠ "java/lang/invoke/MethodHandle" ∧ (nN_TM_store).cls ≠ "java/lang/invoke/VarHandle" ∧ (parseMethodDescriptor (nN_TM_store).desc).map (fun d => d.parameters.length) = some 2 := by decide +kernel
theorem hd_TM_reckon : (nN_TM_reckon).cls ≠ "java/lang/invoke/MethodHandle" ∧ (nN_TM_reckon).cls ≠ "java/lang/invoke/VarHandle" ∧ (parseMethodDescriptor (nN_TM_reckon).desc).map (fun d => d.parameters.length) = some 3 := by decide +kernel
theorem hd_TM_exceptions : (nN_TM_exceptions).cls ≠ "java/lang/invoke/MethodHandle" ∧ (nN_TM_exceptions).cls ≠ "java/lang/invoke/VarHandle" ∧ (parseMethodDescriptor (nN_TM_exceptions).desc).map (fun d => d.parameters.length) = some 3 := by decide +kernel
theorem hd_TM_floating : (nN_TM_floating).cls ≠ "java/lang/invoke/MethodHandle" ∧ (nN_TM_floating).cls ≠ "java/lang/invoke/VarHandle" ∧ (parseMethodDescriptor (nN_TM_floating).desc).map (fun d => d.parameters.length) = some 1 := by decide +kernel
theorem hd_TM_general : (nN_TM_general).cls ≠ "java/lang/invoke/MethodHandle" ∧ (nN_TM_general).cls ≠ "java/lang/invoke/VarHandle" ∧ (parseMethodDescriptor (nN_TM_general).desc).map (fun d => d.parameters.length) = some 1 := by decide +kernel
theorem hd_TM_word : (nN_TM_word).cls ≠ "java/lang/invoke/MethodHandle" ∧ (nN_TM_word).cls ≠ "java/lang/invoke/VarHandle" ∧ (parseMethodDescriptor (nN_TM_word).desc).map (fun d => d.parameters.length) = some 1 := by decide +kernel
theorem hd_TM_tag : (nN_TM_tag).cls ≠ "java/lang/invoke/MethodHandle" ∧ (nN_TM_tag).cls ≠ "java/lang/invoke/VarHandle" ∧ (parseMethodDescriptor (nN_TM_tag).desc).map (fun d => d.parameters.length) = some 1 := by decide +kernel
theorem hd_TM_place : (nN_TM_place).cls ≠ "java/lang/invoke/MethodHandle" ∧ (nN_TM_place).cls ≠ "java/lang/invoke/VarHandle" ∧ (parseMethodDescriptor (nN_TM_place).desc).map (fun d => d.parameters.length) = some 1 := by decide +kernel
theorem hd_TM_about : (nN_TM_about).cls ≠ "java/lang/invoke/MethodHandle" ∧ (nN_TM_about).cls ≠ "java/lang/invoke/VarHandle" ∧ (parseMethodDescriptor (nN_TM_about).desc).map (fun d => d.parameters.length) = some 1 := by decide +kernel
theorem hd_TM_isRegister : (nN_TM_isRegister).cls ≠ "java/lang/invoke/MethodHandle" ∧ (nN_TM_isRegister).cls ≠ "java/lang/invoke/VarHandle" ∧ (parseMethodDescriptor (nN_TM_isRegister).desc).map (fun d => d.parameters.length) = some 1 := by decide +kernel
theorem hd_TM_isPlace : (nN_TM_isPlace).cls ≠ "java/lang/invoke/MethodHandle" ∧ (nN_TM_isPlace).cls ≠ "java/lang/invoke/VarHandle" ∧ (parseMethodDescriptor (nN_TM_isPlace).desc).map (fun d => d.parameters.length) = some 1 := by decide +kernel
theorem hd_TM_usesStorage : (nN_TM_usesStorage).cls ≠ "java/lang/invoke/MethodHandle" ∧ (nN_TM_usesStorage).cls ≠ "java/lang/invoke/VarHandle" ∧ (parseMethodDescriptor (nN_TM_usesStorage).desc).map (fun d => d.parameters.length) = some 1 := by decide +kernel
theorem hd_TM_isInstruction : (nN_TM_isInstruction).cls ≠ "java/lang/invoke/MethodHandle" ∧ (nN_TM_isInstruction).cls ≠ "java/lang/invoke/VarHandle" ∧ (parseMethodDescriptor (nN_TM_isInstruction).desc).map (fun d => d.parameters.length) = some 1 := by decide +kernel
theorem hd_TM_isBusy : (nN_TM_isBusy).cls ≠ "java/lang/invoke/MethodHandle" ∧ (nN_TM_isBusy).cls ≠ "java/lang/invoke/VarHandle" ∧ (parseMethodDescriptor (nN_TM_isBusy).desc).map (fun d => d.parameters.length) = some 0 := by decide +kernel
theorem hd_TM_goOneCycle : (nN_TM_goOneCycle).cls ≠ "java/lang/invoke/MethodHandle" ∧ (nN_TM_goOneCycle).cls ≠ "java/lang/invoke/VarHandle" ∧ (parseMethodDescriptor (nN_TM_goOneCycle).desc).map (fun d => d.parameters.length) = some 0 := by decide +kernel
theorem hd_TM_note : (nN_TM_note).cls ≠ "java/lang/invoke/MethodHandle" ∧ (nN_TM_note).cls ≠ "java/lang/invoke/VarHandle" ∧ (parseMethodDescriptor (nN_TM_note).desc).map (fun d => d.parameters.length) = some 1 := by decide +kernel
theorem hd_TM_allFree : (nN_TM_allFree).cls ≠ "java/lang/invoke/MethodHandle" ∧ (nN_TM_allFree).cls ≠ "java/lang/invoke/VarHandle" ∧ (parseMethodDescriptor (nN_TM_allFree).desc).map (fun d => d.parameters.length) = some 0 := by decide +kernel
theorem hd_TM_firstLike : (nN_TM_firstLike).cls ≠ "java/lang/invoke/MethodHandle" ∧ (nN_TM_firstLike).cls ≠ "java/lang/invoke/VarHandle" ∧ (parseMethodDescriptor (nN_TM_firstLike).desc).map (fun d => d.parameters.length) = some 3 := by decide +kernel
theorem hd_TM_firstReady : (nN_TM_firstReady).cls ≠ "java/lang/invoke/MethodHandle" ∧ (nN_TM_firstReady).cls ≠ "java/lang/invoke/VarHandle" ∧ (parseMethodDescriptor (nN_TM_firstReady).desc).map (fun d => d.parameters.length) = some 2 := by decide +kernel
theorem hd_TM_useBus : (nN_TM_useBus).cls ≠ "java/lang/invoke/MethodHandle" ∧ (nN_TM_useBus).cls ≠ "java/lang/invoke/VarHandle" ∧ (parseMethodDescriptor (nN_TM_useBus).desc).map (fun d => d.parameters.length) = some 0 := by decide +kernel
theorem hd_TM_send : (nN_TM_send).cls ≠ "java/lang/invoke/MethodHandle" ∧ (nN_TM_send).cls ≠ "java/lang/invoke/VarHandle" ∧ (parseMethodDescriptor (nN_TM_send).desc).map (fun d => d.parameters.length) = some 1 := by decide +kernel
theorem hd_TM_work : (nN_TM_work).cls ≠ "java/lang/invoke/MethodHandle" ∧ (nN_TM_work).cls ≠ "java/lang/invoke/VarHandle" ∧ (parseMethodDescriptor (nN_TM_work).desc).map (fun d => d.parameters.length) = some 0 := by decide +kernel
theorem hd_TM_finishWork : (nN_TM_finishWork).cls ≠ "java/lang/invoke/MethodHandle" ∧ (nN_TM_finishWork).cls ≠ "java/lang/invoke/VarHandle" ∧ (parseMethodDescriptor (nN_TM_finishWork).desc).map (fun d => d.parameters.length) = some 1 := by decide +kernel
theorem hd_TM_bankOf : (nN_TM_bankOf).cls ≠ "java/lang/invoke/MethodHandle" ∧ (nN_TM_bankOf).cls ≠ "java/lang/invoke/VarHandle" ∧ (parseMethodDescriptor (nN_TM_bankOf).desc).map (fun d => d.parameters.length) = some 1 := by decide +kernel
theorem hd_TM_nextOfMultiplier : (nN_TM_nextOfMultiplier).cls ≠ "java/lang/invoke/MethodHandle" ∧ (nN_TM_nextOfMultiplier).cls ≠ "java/lang/invoke/VarHandle" ∧ (parseMethodDescriptor (nN_TM_nextOfMultiplier).desc).map (fun d => d.parameters.length) = some 0 := by decide +kernel
theorem hd_TM_beginStation : (nN_TM_beginStation).cls ≠ "java/lang/invoke/MethodHandle" ∧ (nN_TM_beginStation).cls ≠ "java/lang/invoke/VarHandle" ∧ (parseMethodDescriptor (nN_TM_beginStation).desc).map (fun d => d.parameters.length) = some 1 := by decide +kernel
theorem hd_TM_cyclesFor : (nN_TM_cyclesFor).cls ≠ "java/lang/invoke/MethodHandle" ∧ (nN_TM_cyclesFor).cls ≠ "java/lang/invoke/VarHandle" ∧ (parseMethodDescriptor (nN_TM_cyclesFor).desc).map (fun d => d.parameters.length) = some 1 := by decide +kernel
theorem hd_TM_beginStorage : (nN_TM_beginStorage).cls ≠ "java/lang/invoke/MethodHandle" ∧ (nN_TM_beginStorage).cls ≠ "java/lang/invoke/VarHandle" ∧ (parseMethodDescriptor (nN_TM_beginStorage).desc).map (fun d => d.parameters.length) = some 0 := by decide +kernel
theorem hd_TM_earliestAccess : (nN_TM_earliestAccess).cls ≠ "java/lang/invoke/MethodHandle" ∧ (nN_TM_earliestAccess).cls ≠ "java/lang/invoke/VarHandle" ∧ (parseMethodDescriptor (nN_TM_earliestAccess).desc).map (fun d => d.parameters.length) = some 0 := by decide +kernel
theorem hd_TM_handOut : (nN_TM_handOut).cls ≠ "java/lang/invoke/MethodHandle" ∧ (nN_TM_handOut).cls ≠ "java/lang/invoke/VarHandle" ∧ (parseMethodDescriptor (nN_TM_handOut).desc).map (fun d => d.parameters.length) = some 0 := by decide +kernel
theorem hd_TM_handToBuffer : (nN_TM_handToBuffer).cls ≠ "java/lang/invoke/MethodHandle" ∧ (nN_TM_handToBuffer).cls ≠ "java/lang/invoke/VarHandle" ∧ (parseMethodDescriptor (nN_TM_handToBuffer).desc).map (fun d => d.parameters.length) = some 1 := by decide +kernel
theorem hd_TM_isToBeStored : (nN_TM_isToBeStored).cls ≠ "java/lang/invoke/MethodHandle" ∧ (nN_TM_isToBeStored).cls ≠ "java/lang/invoke/VarHandle" ∧ (parseMethodDescriptor (nN_TM_isToBeStored).desc).map (fun d => d.parameters.length) = some 1 := by decide +kernel
theorem hd_TM_handToStation : (nN_TM_handToStation).cls ≠ "java/lang/invoke/MethodHandle" ∧ (nN_TM_handToStation).cls ≠ "java/lang/invoke/VarHandle" ∧ (parseMethodDescriptor (nN_TM_handToStation).desc).map (fun d => d.parameters.length) = some 1 := by decide +kernel
theorem hd_TM_doAtOnce : (nN_TM_doAtOnce).cls ≠ "java/lang/invoke/MethodHandle" ∧ (nN_TM_doAtOnce).cls ≠ "java/lang/invoke/VarHandle" ∧ (parseMethodDescriptor (nN_TM_doAtOnce).desc).map (fun d => d.parameters.length) = some 1 := by decide +kernel
theorem hd_MOD_init : (nN_MOD_init).cls ≠ "java/lang/invoke/MethodHandle" ∧ (nN_MOD_init).cls ≠ "java/lang/invoke/VarHandle" ∧ (parseMethodDescriptor (nN_MOD_init).desc).map (fun d => d.parameters.length) = some 2 := by decide +kernel
theorem hd_MOD_thrown : (nN_MOD_thrown).cls ≠ "java/lang/invoke/MethodHandle" ∧ (nN_MOD_thrown).cls ≠ "java/lang/invoke/VarHandle" ∧ (parseMethodDescriptor (nN_MOD_thrown).desc).map (fun d => d.parameters.length) = some 0 := by decide +kernel
theorem hd_MOD_minus : (nN_MOD_minus).cls ≠ "java/lang/invoke/MethodHandle" ∧ (nN_MOD_minus).cls ≠ "java/lang/invoke/VarHandle" ∧ (parseMethodDescriptor (nN_MOD_minus).desc).map (fun d => d.parameters.length) = some 1 := by decide +kernel
theorem hd_MOD_charOf : (nN_MOD_charOf).cls ≠ "java/lang/invoke/MethodHandle" ∧ (nN_MOD_charOf).cls ≠ "java/lang/invoke/VarHandle" ∧ (parseMethodDescriptor (nN_MOD_charOf).desc).map (fun d => d.parameters.length) = some 1 := by decide +kernel
theorem hd_MOD_partOf : (nN_MOD_partOf).cls ≠ "java/lang/invoke/MethodHandle" ∧ (nN_MOD_partOf).cls ≠ "java/lang/invoke/VarHandle" ∧ (parseMethodDescriptor (nN_MOD_partOf).desc).map (fun d => d.parameters.length) = some 1 := by decide +kernel
theorem hd_MOD_finish : (nN_MOD_finish).cls ≠ "java/lang/invoke/MethodHandle" ∧ (nN_MOD_finish).cls ≠ "java/lang/invoke/VarHandle" ∧ (parseMethodDescriptor (nN_MOD_finish).desc).map (fun d => d.parameters.length) = some 3 := by decide +kernel
theorem hd_MOD_align : (nN_MOD_align).cls ≠ "java/lang/invoke/MethodHandle" ∧ (nN_MOD_align).cls ≠ "java/lang/invoke/VarHandle" ∧ (parseMethodDescriptor (nN_MOD_align).desc).map (fun d => d.parameters.length) = some 2 := by decide +kernel
theorem hd_MOD_sum : (nN_MOD_sum).cls ≠ "java/lang/invoke/MethodHandle" ∧ (nN_MOD_sum).cls ≠ "java/lang/invoke/VarHandle" ∧ (parseMethodDescriptor (nN_MOD_sum).desc).map (fun d => d.parameters.length) = some 2 := by decide +kernel
theorem hd_MOD_other : (nN_MOD_other).cls ≠ "java/lang/invoke/MethodHandle" ∧ (nN_MOD_other).cls ≠ "java/lang/invoke/VarHandle" ∧ (parseMethodDescriptor (nN_MOD_other).desc).map (fun d => d.parameters.length) = some 1 := by decide +kernel
theorem hd_MOD_compared : (nN_MOD_compared).cls ≠ "java/lang/invoke/MethodHandle" ∧ (nN_MOD_compared).cls ≠ "java/lang/invoke/VarHandle" ∧ (parseMethodDescriptor (nN_MOD_compared).desc).map (fun d => d.parameters.length) = some 2 := by decide +kernel
theorem hd_MOD_short0 : (nN_MOD_short0).cls ≠ "java/lang/invoke/MethodHandle" ∧ (nN_MOD_short0).cls ≠ "java/lang/invoke/VarHandle" ∧ (parseMethodDescriptor (nN_MOD_short0).desc).map (fun d => d.parameters.length) = some 1 := by decide +kernel
theorem hd_MOD_normal : (nN_MOD_normal).cls ≠ "java/lang/invoke/MethodHandle" ∧ (nN_MOD_normal).cls ≠ "java/lang/invoke/VarHandle" ∧ (parseMethodDescriptor (nN_MOD_normal).desc).map (fun d => d.parameters.length) = some 1 := by decide +kernel
theorem hd_MOD_product : (nN_MOD_product).cls ≠ "java/lang/invoke/MethodHandle" ∧ (nN_MOD_product).cls ≠ "java/lang/invoke/VarHandle" ∧ (parseMethodDescriptor (nN_MOD_product).desc).map (fun d => d.parameters.length) = some 2 := by decide +kernel
theorem hd_MOD_quotient : (nN_MOD_quotient).cls ≠ "java/lang/invoke/MethodHandle" ∧ (nN_MOD_quotient).cls ≠ "java/lang/invoke/VarHandle" ∧ (parseMethodDescriptor (nN_MOD_quotient).desc).map (fun d => d.parameters.length) = some 2 := by decide +kernel
theorem hd_MOD_result : (nN_MOD_result).cls ≠ "java/lang/invoke/MethodHandle" ∧ (nN_MOD_result).cls ≠ "java/lang/invoke/VarHandle" ∧ (parseMethodDescriptor (nN_MOD_result).desc).map (fun d => d.parameters.length) = some 3 := by decide +kernel
theorem hd_MOD_reckon : (nN_MOD_reckon).cls ≠ "java/lang/invoke/MethodHandle" ∧ (nN_MOD_reckon).cls ≠ "java/lang/invoke/VarHandle" ∧ (parseMethodDescriptor (nN_MOD_reckon).desc).map (fun d => d.parameters.length) = some 3 := by decide +kernel
theorem hd_MOD_exceptions : (nN_MOD_exceptions).cls ≠ "java/lang/invoke/MethodHandle" ∧ (nN_MOD_exceptions).cls ≠ "java/lang/invoke/VarHandle" ∧ (parseMethodDescriptor (nN_MOD_exceptions).desc).map (fun d => d.parameters.length) = some 3 := by decide +kernel
theorem hd_MOD_isRegister : (nN_MOD_isRegister).cls ≠ "java/lang/invoke/MethodHandle" ∧ (nN_MOD_isRegister).cls ≠ "java/lang/invoke/VarHandle" ∧ (parseMethodDescriptor (nN_MOD_isRegister).desc).map (fun d => d.parameters.length) = some 1 := by decide +kernel
theorem hd_MOD_goes : (nN_MOD_goes).cls ≠ "java/lang/invoke/MethodHandle" ∧ (nN_MOD_goes).cls ≠ "java/lang/invoke/VarHandle" ∧ (parseMethodDescriptor (nN_MOD_goes).desc).map (fun d => d.parameters.length) = some 0 := by decide +kernel
theorem hd_MOD_put : (nN_MOD_put).cls ≠ "java/lang/invoke/MethodHandle" ∧ (nN_MOD_put).cls ≠ "java/lang/invoke/VarHandle" ∧ (parseMethodDescriptor (nN_MOD_put).desc).map (fun d => d.parameters.length) = some 5 := by decide +kernel
theorem hd_MOD_start : (nN_MOD_start).cls ≠ "java/lang/invoke/MethodHandle" ∧ (nN_MOD_start).cls ≠ "java/lang/invoke/VarHandle" ∧ (parseMethodDescriptor (nN_MOD_start).desc).map (fun d => d.parameters.length) = some 1 := by decide +kernel
theorem hd_MOD_set : (nN_MOD_set).cls ≠ "java/lang/invoke/MethodHandle" ∧ (nN_MOD_set).cls ≠ "java/lang/invoke/VarHandle" ∧ (parseMethodDescriptor (nN_MOD_set).desc).map (fun d => d.parameters.length) = some 2 := by decide +kernel
theorem hd_MOD_isPlace : (nN_MOD_isPlace).cls ≠ "java/lang/invoke/MethodHandle" ∧ (nN_MOD_isPlace).cls ≠ "java/lang/invoke/VarHandle" ∧ (parseMethodDescriptor (nN_MOD_isPlace).desc).map (fun d => d.parameters.length) = some 1 := by decide +kernel
theorem hd_MOD_store : (nN_MOD_store).cls ≠ "java/lang/invoke/MethodHandle" ∧ (nN_MOD_store).cls ≠ "java/lang/invoke/VarHandle" ∧ (parseMethodDescriptor (nN_MOD_store).desc).map (fun d => d.parameters.length) = some 2 := by decide +kernel
theorem hd_MOD_turnOf : (nN_MOD_turnOf).cls ≠ "java/lang/invoke/MethodHandle" ∧ (nN_MOD_turnOf).cls ≠ "java/lang/invoke/VarHandle" ∧ (parseMethodDescriptor (nN_MOD_turnOf).desc).map (fun d => d.parameters.length) = some 1 := by decide +kernel
theorem hd_MOD_bus : (nN_MOD_bus).cls ≠ "java/lang/invoke/MethodHandle" ∧ (nN_MOD_bus).cls ≠ "java/lang/invoke/VarHandle" ∧ (parseMethodDescriptor (nN_MOD_bus).desc).map (fun d => d.parameters.length) = some 0 := by decide +kernel
theorem hd_MOD_work : (nN_MOD_work).cls ≠ "java/lang/invoke/MethodHandle" ∧ (nN_MOD_work).cls ≠ "java/lang/invoke/VarHandle" ∧ (parseMethodDescriptor (nN_MOD_work).desc).map (fun d => d.parameters.length) = some 0 := by decide +kernel
theorem hd_MOD_ends : (nN_MOD_ends).cls ≠ "java/lang/invoke/MethodHandle" ∧ (nN_MOD_ends).cls ≠ "java/lang/invoke/VarHandle" ∧ (parseMethodDescriptor (nN_MOD_ends).desc).map (fun d => d.parameters.length) = some 1 := by decide +kernel
theorem hd_MOD_ready : (nN_MOD_ready).cls ≠ "java/lang/invoke/MethodHandle" ∧ (nN_MOD_ready).cls ≠ "java/lang/invoke/VarHandle" ∧ (parseMethodDescriptor (nN_MOD_ready).desc).map (fun d => d.parameters.length) = some 1 := by decide +kernel
theorem hd_MOD_begins : (nN_MOD_begins).cls ≠ "java/lang/invoke/MethodHandle" ∧ (nN_MOD_begins).cls ≠ "java/lang/invoke/VarHandle" ∧ (parseMethodDescriptor (nN_MOD_begins).desc).map (fun d => d.parameters.length) = some 2 := by decide +kernel
theorem hd_MOD_begin : (nN_MOD_begin).cls ≠ "java/lang/invoke/MethodHandle" ∧ (nN_MOD_begin).cls ≠ "java/lang/invoke/VarHandle" ∧ (parseMethodDescriptor (nN_MOD_begin).desc).map (fun d => d.parameters.length) = some 0 := by decide +kernel
theorem hd_MOD_free : (nN_MOD_free).cls ≠ "java/lang/invoke/MethodHandle" ∧ (nN_MOD_free).cls ≠ "java/lang/invoke/VarHandle" ∧ (parseMethodDescriptor (nN_MOD_free).desc).map (fun d => d.parameters.length) = some 2 := by decide +kernel
theorem hd_MOD_storing : (nN_MOD_storing).cls ≠ "java/lang/invoke/MethodHandle" ∧ (nN_MOD_storing).cls ≠ "java/lang/invoke/VarHandle" ∧ (parseMethodDescriptor (nN_MOD_storing).desc).map (fun d => d.parameters.length) = some 1 := by decide +kernel
theorem hd_MOD_take : (nN_MOD_take).cls ≠ "java/lang/invoke/MethodHandle" ∧ (nN_MOD_take).cls ≠ "java/lang/invoke/VarHandle" ∧ (parseMethodDescriptor (nN_MOD_take).desc).map (fun d => d.parameters.length) = some 4 := by decide +kernel
theorem hd_MOD_storage : (nN_MOD_storage).cls ≠ "java/lang/invoke/MethodHandle" ∧ (nN_MOD_storage).cls ≠ "java/lang/invoke/VarHandle" ∧ (parseMethodDescriptor (nN_MOD_storage).desc).map (fun d => d.parameters.length) = some 1 := by decide +kernel
theorem hd_MOD_reckoned : (nN_MOD_reckoned).cls ≠ "java/lang/invoke/MethodHandle" ∧ (nN_MOD_reckoned).cls ≠ "java/lang/invoke/VarHandle" ∧ (parseMethodDescriptor (nN_MOD_reckoned).desc).map (fun d => d.parameters.length) = some 1 := by decide +kernel
theorem hd_MOD_handOut : (nN_MOD_handOut).cls ≠ "java/lang/invoke/MethodHandle" ∧ (nN_MOD_handOut).cls ≠ "java/lang/invoke/VarHandle" ∧ (parseMethodDescriptor (nN_MOD_handOut).desc).map (fun d => d.parameters.length) = some 0 := by decide +kernel
theorem hd_MOD_cycle : (nN_MOD_cycle).cls ≠ "java/lang/invoke/MethodHandle" ∧ (nN_MOD_cycle).cls ≠ "java/lang/invoke/VarHandle" ∧ (parseMethodDescriptor (nN_MOD_cycle).desc).map (fun d => d.parameters.length) = some 0 := by decide +kernel
theorem hd_MOD_run : (nN_MOD_run).cls ≠ "java/lang/invoke/MethodHandle" ∧ (nN_MOD_run).cls ≠ "java/lang/invoke/VarHandle" ∧ (parseMethodDescriptor (nN_MOD_run).desc).map (fun d => d.parameters.length) = some 1 := by decide +kernel
theorem hd_MOD_floating : (nN_MOD_floating).cls ≠ "java/lang/invoke/MethodHandle" ∧ (nN_MOD_floating).cls ≠ "java/lang/invoke/VarHandle" ∧ (parseMethodDescriptor (nN_MOD_floating).desc).map (fun d => d.parameters.length) = some 1 := by decide +kernel
theorem hd_MOD_general : (nN_MOD_general).cls ≠ "java/lang/invoke/MethodHandle" ∧ (nN_MOD_general).cls ≠ "java/lang/invoke/VarHandle" ∧ (parseMethodDescriptor (nN_MOD_general).desc).map (fun d => d.parameters.length) = some 1 := by decide +kernel
theorem hd_MOD_word : (nN_MOD_word).cls ≠ "java/lang/invoke/MethodHandle" ∧ (nN_MOD_word).cls ≠ "java/lang/invoke/VarHandle" ∧ (parseMethodDescriptor (nN_MOD_word).desc).map (fun d => d.parameters.length) = some 1 := by decide +kernel
theorem hd_MOD_tag : (nN_MOD_tag).cls ≠ "java/lang/invoke/MethodHandle" ∧ (nN_MOD_tag).cls ≠ "java/lang/invoke/VarHandle" ∧ (parseMethodDescriptor (nN_MOD_tag).desc).map (fun d => d.parameters.length) = some 1 := by decide +kernel
theorem hd_MOD_place : (nN_MOD_place).cls ≠ "java/lang/invoke/MethodHandle" ∧ (nN_MOD_place).cls ≠ "java/lang/invoke/VarHandle" ∧ (parseMethodDescriptor (nN_MOD_place).desc).map (fun d => d.parameters.length) = some 1 := by decide +kernel
theorem hd_MOD_about : (nN_MOD_about).cls ≠ "java/lang/invoke/MethodHandle" ∧ (nN_MOD_about).cls ≠ "java/lang/invoke/VarHandle" ∧ (parseMethodDescriptor (nN_MOD_about).desc).map (fun d => d.parameters.length) = some 1 := by decide +kernel
theorem hd_INS_init : (nN_INS_init).cls ≠ "java/lang/invoke/MethodHandle" ∧ (nN_INS_init).cls ≠ "java/lang/invoke/VarHandle" ∧ (parseMethodDescriptor (nN_INS_init).desc).map (fun d => d.parameters.length) = some 0 := by decide +kernel
theorem hd_INS_become : (nN_INS_become).cls ≠ "java/lang/invoke/MethodHandle" ∧ (nN_INS_become).cls ≠ "java/lang/invoke/VarHandle" ∧ (parseMethodDescriptor (nN_INS_become).desc).map (fun d => d.parameters.length) = some 5 := by decide +kernel
theorem hd_OPD_init : (nN_OPD_init).cls ≠ "java/lang/invoke/MethodHandle" ∧ (nN_OPD_init).cls ≠ "java/lang/invoke/VarHandle" ∧ (parseMethodDescriptor (nN_OPD_init).desc).map (fun d => d.parameters.length) = some 0 := by decide +kernel
theorem hd_OPD_isAwaited : (nN_OPD_isAwaited).cls ≠ "java/lang/invoke/MethodHandle" ∧ (nN_OPD_isAwaited).cls ≠ "java/lang/invoke/VarHandle" ∧ (parseMethodDescriptor (nN_OPD_isAwaited).desc).map (fun d => d.parameters.length) = some 0 := by decide +kernel
theorem hd_OPD_haveValue : (nN_OPD_haveValue).cls ≠ "java/lang/invoke/MethodHandle" ∧ (nN_OPD_haveValue).cls ≠ "java/lang/invoke/VarHandle" ∧ (parseMethodDescriptor (nN_OPD_haveValue).desc).map (fun d => d.parameters.length) = some 1 := by decide +kernel
theorem hd_OPD_waitFor : (nN_OPD_waitFor).cls ≠ "java/lang/invoke/MethodHandle" ∧ (nN_OPD_waitFor).cls ≠ "java/lang/invoke/VarHandle" ∧ (parseMethodDescriptor (nN_OPD_waitFor).desc).map (fun d => d.parameters.length) = some 1 := by decide +kernel
theorem hd_OPD_copy : (nN_OPD_copy).cls ≠ "java/lang/invoke/MethodHandle" ∧ (nN_OPD_copy).cls ≠ "java/lang/invoke/VarHandle" ∧ (parseMethodDescriptor (nN_OPD_copy).desc).map (fun d => d.parameters.length) = some 1 := by decide +kernel
theorem hd_OPD_hear : (nN_OPD_hear).cls ≠ "java/lang/invoke/MethodHandle" ∧ (nN_OPD_hear).cls ≠ "java/lang/invoke/VarHandle" ∧ (parseMethodDescriptor (nN_OPD_hear).desc).map (fun d => d.parameters.length) = some 2 := by decide +kernel
theorem hd_REC_init : (nN_REC_init).cls ≠ "java/lang/invoke/MethodHandle" ∧ (nN_REC_init).cls ≠ "java/lang/invoke/VarHandle" ∧ (parseMethodDescriptor (nN_REC_init).desc).map (fun d => d.parameters.length) = some 0 := by decide +kernel
theorem hd_REC_knows : (nN_REC_knows).cls ≠ "java/lang/invoke/MethodHandle" ∧ (nN_REC_knows).cls ≠ "java/lang/invoke/VarHandle" ∧ (parseMethodDescriptor (nN_REC_knows).desc).map (fun d => d.parameters.length) = some 1 := by decide +kernel
theorem hd_REC_workOut : (nN_REC_workOut).cls ≠ "java/lang/invoke/MethodHandle" ∧ (nN_REC_workOut).cls ≠ "java/lang/invoke/VarHandle" ∧ (parseMethodDescriptor (nN_REC_workOut).desc).map (fun d => d.parameters.length) = some 3 := by decide +kernel
theorem hd_REC_add : (nN_REC_add).cls ≠ "java/lang/invoke/MethodHandle" ∧ (nN_REC_add).cls ≠ "java/lang/invoke/VarHandle" ∧ (parseMethodDescriptor (nN_REC_add).desc).map (fun d => d.parameters.length) = some 2 := by decide +kernel
theorem hd_REC_compare : (nN_REC_compare).cls ≠ "java/lang/invoke/MethodHandle" ∧ (nN_REC_compare).cls ≠ "java/lang/invoke/VarHandle" ∧ (parseMethodDescriptor (nN_REC_compare).desc).map (fun d => d.parameters.length) = some 2 := by decide +kernel
theorem hd_REC_multiply : (nN_REC_multiply).cls ≠ "java/lang/invoke/MethodHandle" ∧ (nN_REC_multiply).cls ≠ "java/lang/invoke/VarHandle" ∧ (parseMethodDescriptor (nN_REC_multiply).desc).map (fun d => d.parameters.length) = some 2 := by decide +kernel
theorem hd_REC_divide : (nN_REC_divide).cls ≠ "java/lang/invoke/MethodHandle" ∧ (nN_REC_divide).cls ≠ "java/lang/invoke/VarHandle" ∧ (parseMethodDescriptor (nN_REC_divide).desc).map (fun d => d.parameters.length) = some 2 := by decide +kernel
theorem hd_REC_finish : (nN_REC_finish).cls ≠ "java/lang/invoke/MethodHandle" ∧ (nN_REC_finish).cls ≠ "java/lang/invoke/VarHandle" ∧ (parseMethodDescriptor (nN_REC_finish).desc).map (fun d => d.parameters.length) = some 3 := by decide +kernel
theorem hd_REC_fraction : (nN_REC_fraction).cls ≠ "java/lang/invoke/MethodHandle" ∧ (nN_REC_fraction).cls ≠ "java/lang/invoke/VarHandle" ∧ (parseMethodDescriptor (nN_REC_fraction).desc).map (fun d => d.parameters.length) = some 1 := by decide +kernel
theorem hd_REC_characteristic : (nN_REC_characteristic).cls ≠ "java/lang/invoke/MethodHandle" ∧ (nN_REC_characteristic).cls ≠ "java/lang/invoke/VarHandle" ∧ (parseMethodDescriptor (nN_REC_characteristic).desc).map (fun d => d.parameters.length) = some 1 := by decide +kernel
theorem hd_REC_greaterCharacteristic : (nN_REC_greaterCharacteristic).cls ≠ "java/lang/invoke/MethodHandle" ∧ (nN_REC_greaterCharacteristic).cls ≠ "java/lang/invoke/VarHandle" ∧ (parseMethodDescriptor (nN_REC_greaterCharacteristic).desc).map (fun d => d.parameters.length) = some 2 := by decide +kernel
theorem hd_REC_alignedSum : (nN_REC_alignedSum).cls ≠ "java/lang/invoke/MethodHandle" ∧ (nN_REC_alignedSum).cls ≠ "java/lang/invoke/VarHandle" ∧ (parseMethodDescriptor (nN_REC_alignedSum).desc).map (fun d => d.parameters.length) = some 2 := by decide +kernel
theorem hd_REC_aligned : (nN_REC_aligned).cls ≠ "java/lang/invoke/MethodHandle" ∧ (nN_REC_aligned).cls ≠ "java/lang/invoke/VarHandle" ∧ (parseMethodDescriptor (nN_REC_aligned).desc).map (fun d => d.parameters.length) = some 2 := by decide +kernel
theorem hd_REC_normalFraction : (nN_REC_normalFraction).cls ≠ "java/lang/invoke/MethodHandle" ∧ (nN_REC_normalFraction).cls ≠ "java/lang/invoke/VarHandle" ∧ (parseMethodDescriptor (nN_REC_normalFraction).desc).map (fun d => d.parameters.length) = some 1 := by decide +kernel
theorem hd_REC_normalCharacteristic : (nN_REC_normalCharacteristic).cls ≠ "java/lang/invoke/MethodHandle" ∧ (nN_REC_normalCharacteristic).cls ≠ "java/lang/invoke/VarHandle" ∧ (parseMethodDescriptor (nN_REC_normalCharacteristic).desc).map (fun d => d.parameters.length) = some 1 := by decide +kernel
theorem hd_REC_leadingZeros : (nN_REC_leadingZeros).cls ≠ "java/lang/invoke/MethodHandle" ∧ (nN_REC_leadingZeros).cls ≠ "java/lang/invoke/VarHandle" ∧ (parseMethodDescriptor (nN_REC_leadingZeros).desc).map (fun d => d.parameters.length) = some 2 := by decide +kernel
theorem hd_UNI_init : (nN_UNI_init).cls ≠ "java/lang/invoke/MethodHandle" ∧ (nN_UNI_init).cls ≠ "java/lang/invoke/VarHandle" ∧ (parseMethodDescriptor (nN_UNI_init).desc).map (fun d => d.parameters.length) = some 0 := by decide +kernel
theorem hd_UNI_isReady : (nN_UNI_isReady).cls ≠ "java/lang/invoke/MethodHandle" ∧ (nN_UNI_isReady).cls ≠ "java/lang/invoke/VarHandle" ∧ (parseMethodDescriptor (nN_UNI_isReady).desc).map (fun d => d.parameters.length) = some 0 := by decide +kernel
theorem hd_UNI_claim : (nN_UNI_claim).cls ≠ "java/lang/invoke/MethodHandle" ∧ (nN_UNI_claim).cls ≠ "java/lang/invoke/VarHandle" ∧ (parseMethodDescriptor (nN_UNI_claim).desc).map (fun d => d.parameters.length) = some 3 := by decide +kernel
theorem hd_UNI_begin : (nN_UNI_begin).cls ≠ "java/lang/invoke/MethodHandle" ∧ (nN_UNI_begin).cls ≠ "java/lang/invoke/VarHandle" ∧ (parseMethodDescriptor (nN_UNI_begin).desc).map (fun d => d.parameters.length) = some 3 := by decide +kernel
theorem hd_UNI_hear : (nN_UNI_hear).cls ≠ "java/lang/invoke/MethodHandle" ∧ (nN_UNI_hear).cls ≠ "java/lang/invoke/VarHandle" ∧ (parseMethodDescriptor (nN_UNI_hear).desc).map (fun d => d.parameters.length) = some 2 := by decide +kernel
theorem hd_LAW_cell : (nN_LAW_cell).cls ≠ "java/lang/invoke/MethodHandle" ∧ (nN_LAW_cell).cls ≠ "java/lang/invoke/VarHandle" ∧ (parseMethodDescriptor (nN_LAW_cell).desc).map (fun d => d.parameters.length) = some 2 := by decide +kernel
theorem hd_LAW_put : (nN_LAW_put).cls ≠ "java/lang/invoke/MethodHandle" ∧ (nN_LAW_put).cls ≠ "java/lang/invoke/VarHandle" ∧ (parseMethodDescriptor (nN_LAW_put).desc).map (fun d => d.parameters.length) = some 7 := by decide +kernel
theorem hd_LAW_start : (nN_LAW_start).cls ≠ "java/lang/invoke/MethodHandle" ∧ (nN_LAW_start).cls ≠ "java/lang/invoke/VarHandle" ∧ (parseMethodDescriptor (nN_LAW_start).desc).map (fun d => d.parameters.length) = some 3 := by decide +kernel
theorem hd_LAW_run : (nN_LAW_run).cls ≠ "java/lang/invoke/MethodHandle" ∧ (nN_LAW_run).cls ≠ "java/lang/invoke/VarHandle" ∧ (parseMethodDescriptor (nN_LAW_run).desc).map (fun d => d.parameters.length) = some 3 := by decide +kernel
theorem hd_LAW_set : (nN_LAW_set).cls ≠ "java/lang/invoke/MethodHandle" ∧ (nN_LAW_set).cls ≠ "java/lang/invoke/VarHandle" ∧ (parseMethodDescriptor (nN_LAW_set).desc).map (fun d => d.parameters.length) = some 4 := by decide +kernel
theorem hd_LAW_store : (nN_LAW_store).cls ≠ "java/lang/invoke/MethodHandle" ∧ (nN_LAW_store).cls ≠ "java/lang/invoke/VarHandle" ∧ (parseMethodDescriptor (nN_LAW_store).desc).map (fun d => d.parameters.length) = some 4 := by decide +kernel
theorem hd_LAW_reckon : (nN_LAW_reckon).cls ≠ "java/lang/invoke/MethodHandle" ∧ (nN_LAW_reckon).cls ≠ "java/lang/invoke/VarHandle" ∧ (parseMethodDescriptor (nN_LAW_reckon).desc).map (fun d => d.parameters.length) = some 5 := by decide +kernel
theorem hd_LAW_exceptions : (nN_LAW_exceptions).cls ≠ "java/lang/invoke/MethodHandle" ∧ (nN_LAW_exceptions).cls ≠ "java/lang/invoke/VarHandle" ∧ (parseMethodDescriptor (nN_LAW_exceptions).desc).map (fun d => d.parameters.length) = some 5 := by decide +kernel
theorem hd_LAW_law : (nN_LAW_law).cls ≠ "java/lang/invoke/MethodHandle" ∧ (nN_LAW_law).cls ≠ "java/lang/invoke/VarHandle" ∧ (parseMethodDescriptor (nN_LAW_law).desc).map (fun d => d.parameters.length) = some 1 := by decide +kernel
