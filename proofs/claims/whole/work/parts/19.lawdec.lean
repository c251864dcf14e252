theorem ini_L : Cond.initialized RL ∈ TS := (in_TS 115 (by decide +kernel) rfl)
theorem lkm_L_7 : lkM RL 7 yX11_travelMinutes := Or.inl (in_TS 1247 (by decide +kernel) rfl)
theorem lkc_L_13 : Cond.classLink RL 13 (exN 0) ∈ TS := (in_TS 1246 (by decide +kernel) rfl)
theorem cas_0 : Cond.castable (exN 0) (exN 0) ∈ lw_tbl := List.mem_of_getElem? (i := 1256) (by decide +kernel)
theorem lkm_L_15 : lkM RL 15 yX11_travelSlots := Or.inl (in_TS 1328 (by decide +kernel) rfl)
theorem lkm_L_18 : lkM RL 18 yX11_homeStation := Or.inl (in_TS 1335 (by decide +kernel) rfl)
theorem lkm_L_22 : lkM RL 22 yX11_engineKind := Or.inl (in_TS 1343 (by decide +kernel) rfl)
theorem lkm_L_25 : lkM RL 25 yX11_coverStation := Or.inl (in_TS 1355 (by decide +kernel) rfl)
theorem lkc_L_28 : Cond.classLink RL 28 (exN 1) ∈ TS := (in_TS 1354 (by decide +kernel) rfl)
theorem cas_1 : Cond.castable (exN 1) (exN 1) ∈ lw_tbl := List.mem_of_getElem? (i := 1365) (by decide +kernel)
theorem lkm_L_30 : lkM RL 30 yX11_uncovered := Or.inl (in_TS 1388 (by decide +kernel) rfl)
theorem lkm_L_33 : lkM RL 33 yX11_uncoveredWithoutMoves := Or.inl (in_TS 1395 (by decide +kernel) rfl)
theorem lkm_L_36 : lkM RL 36 yX11_nearestMinutes := Or.inl (in_TS 1404 (by decide +kernel) rfl)
theorem lkm_L_39 : lkM RL 39 yX11_coveringEngines := Or.inl (in_TS 1417 (by decide +kernel) rfl)
theorem lkm_L_42 : lkM RL 42 yX11_weakestStreet := Or.inl (in_TS 1428 (by decide +kernel) rfl)
theorem lkm_L_45 : lkM RL 45 yX11_setStart := Or.inl (in_TS 1437 (by decide +kernel) rfl)
theorem lkm_L_48 : lkM RL 48 yX11_start := Or.inl (in_TS 1449 (by decide +kernel) rfl)
theorem lkm_L_51 : lkM RL 51 yX11_drillState := Or.inl (in_TS 1456 (by decide +kernel) rfl)
theorem lkm_L_54 : lkM RL 54 yX11_drillEngines := Or.inl (in_TS 1463 (by decide +kernel) rfl)
theorem lkm_L_57 : lkM RL 57 yX11_drillBegin := Or.inl (in_TS 1470 (by decide +kernel) rfl)
theorem lkm_L_60 : lkM RL 60 yX11_drillEnd := Or.inl (in_TS 1477 (by decide +kernel) rfl)
theorem lkm_L_63 : lkM RL 63 yX11_drillBack := Or.inl (in_TS 1484 (by decide +kernel) rfl)
theorem lkm_L_66 : lkM RL 66 yX11_violationCode := Or.inl (in_TS 1491 (by decide +kernel) rfl)
theorem lkm_L_69 : lkM RL 69 yX11_violationSlot := Or.inl (in_TS 1502 (by decide +kernel) rfl)
theorem lkm_L_72 : lkM RL 72 yX11_violationSubject := Or.inl (in_TS 1513 (by decide +kernel) rfl)
theorem lkm_L_75 : lkM RL 75 yX11_availableAt := Or.inl (in_TS 1524 (by decide +kernel) rfl)
theorem lkm_L_78 : lkM RL 78 yX11_uncoveredAt := Or.inl (in_TS 1531 (by decide +kernel) rfl)
theorem lkm_L_81 : lkM RL 81 yX11_dryHoses := Or.inl (in_TS 1538 (by decide +kernel) rfl)
theorem lkm_L_84 : lkM RL 84 yX11_wetHoses := Or.inl (in_TS 1545 (by decide +kernel) rfl)
theorem lkm_L_87 : lkM RL 87 yX11_dryingHoses := Or.inl (in_TS 1552 (by decide +kernel) rfl)
theorem lkm_L_90 : lkM RL 90 yX11_awaySlots := Or.inl (in_TS 1559 (by decide +kernel) rfl)
theorem lkm_L_93 : lkM RL 93 yX11_earliestStart := Or.inl (in_TS 1566 (by decide +kernel) rfl)
theorem lkm_L_96 : lkM RL 96 yX11_schedule := Or.inl (in_TS 1573 (by decide +kernel) rfl)
theorem lkm_L_99 : lkM RL 99 yX11_bestFinishWithout := Or.inl (in_TS 1591 (by decide +kernel) rfl)
theorem lkm_L_102 : lkM RL 102 yX11_bestFinishWith := Or.inl (in_TS 1598 (by decide +kernel) rfl)
theorem lkl_113 : Cond.methodLink RL 113 yX12_appendInput ∈ TS := (in_TS 1882 (by decide +kernel) rfl)
theorem lkl_109 : Cond.methodLink RL 109 yX11_appendInput ∈ TS := (in_TS 750 (by decide +kernel) rfl)
theorem lkl_118 : Cond.methodLink RL 118 yX12_truncateInput ∈ TS := (in_TS 1890 (by decide +kernel) rfl)
theorem lkl_114 : Cond.methodLink RL 114 yX11_truncateInput ∈ TS := (in_TS 758 (by decide +kernel) rfl)
theorem lkl_119 : Cond.methodLink RL 119 yX11_loadBrigade ∈ TS := (in_TS 762 (by decide +kernel) rfl)
theorem lkl_123 : Cond.methodLink RL 123 yX12_loadBrigade ∈ TS := (in_TS 1897 (by decide +kernel) rfl)
theorem lkl_124 : Cond.methodLink RL 124 yX11_errorCode ∈ TS := (in_TS 1099 (by decide +kernel) rfl)
theorem lkl_127 : Cond.methodLink RL 127 yX12_errorCode ∈ TS := (in_TS 2063 (by decide +kernel) rfl)
theorem lkl_128 : Cond.methodLink RL 128 yX11_errorOffset ∈ TS := (in_TS 1103 (by decide +kernel) rfl)
theorem lkl_131 : Cond.methodLink RL 131 yX12_errorOffset ∈ TS := (in_TS 2067 (by decide +kernel) rfl)
theorem lkl_132 : Cond.methodLink RL 132 yX11_nodes ∈ TS := (in_TS 1107 (by decide +kernel) rfl)
theorem lkl_135 : Cond.methodLink RL 135 yX12_nodes ∈ TS := (in_TS 2075 (by decide +kernel) rfl)
theorem lkl_136 : Cond.methodLink RL 136 yX11_stations ∈ TS := (in_TS 1111 (by decide +kernel) rfl)
theorem lkl_139 : Cond.methodLink RL 139 yX12_stations ∈ TS := (in_TS 2079 (by decide +kernel) rfl)
theorem lkl_140 : Cond.methodLink RL 140 yX11_engines ∈ TS := (in_TS 1115 (by decide +kernel) rfl)
theorem lkl_143 : Cond.methodLink RL 143 yX12_engines ∈ TS := (in_TS 2083 (by decide +kernel) rfl)
theorem lkl_144 : Cond.methodLink RL 144 yX11_streets ∈ TS := (in_TS 1119 (by decide +kernel) rfl)
theorem lkl_147 : Cond.methodLink RL 147 yX12_streets ∈ TS := (in_TS 2087 (by decide +kernel) rfl)
theorem lkl_148 : Cond.methodLink RL 148 yX11_drills ∈ TS := (in_TS 1123 (by decide +kernel) rfl)
theorem lkl_151 : Cond.methodLink RL 151 yX12_drills ∈ TS := (in_TS 2091 (by decide +kernel) rfl)
theorem lkl_152 : Cond.methodLink RL 152 yX11_find ∈ TS := (in_TS 1127 (by decide +kernel) rfl)
theorem lkl_155 : Cond.methodLink RL 155 yX12_find ∈ TS := (in_TS 2071 (by decide +kernel) rfl)
theorem lkl_156 : Cond.methodLink RL 156 yL_travelMinutes ∈ TS := (in_TS 1243 (by decide +kernel) rfl)
theorem lkl_161 : Cond.methodLink RL 161 yX12_travelMinutes ∈ TS := (in_TS 2095 (by decide +kernel) rfl)
theorem lkl_162 : Cond.methodLink RL 162 yX12_thrown ∈ TS := (in_TS 1878 (by decide +kernel) rfl)
theorem lkl_165 : Cond.methodLink RL 165 yL_travelSlots ∈ TS := (in_TS 1325 (by decide +kernel) rfl)
theorem lkl_167 : Cond.methodLink RL 167 yX12_travelSlots ∈ TS := (in_TS 2111 (by decide +kernel) rfl)
theorem lkl_171 : Cond.methodLink RL 171 yX12_homeStation ∈ TS := (in_TS 2131 (by decide +kernel) rfl)
theorem lkl_168 : Cond.methodLink RL 168 yL_homeStation ∈ TS := (in_TS 1332 (by decide +kernel) rfl)
theorem lkl_174 : Cond.methodLink RL 174 yX12_engineKind ∈ TS := (in_TS 2135 (by decide +kernel) rfl)
theorem lkl_172 : Cond.methodLink RL 172 yL_engineKind ∈ TS := (in_TS 1340 (by decide +kernel) rfl)
theorem lkl_175 : Cond.methodLink RL 175 yL_coverStation ∈ TS := (in_TS 1351 (by decide +kernel) rfl)
theorem lkl_177 : Cond.methodLink RL 177 yX12_coverStation ∈ TS := (in_TS 2139 (by decide +kernel) rfl)
theorem lkl_180 : Cond.methodLink RL 180 yX12_uncovered ∈ TS := (in_TS 2158 (by decide +kernel) rfl)
theorem lkl_178 : Cond.methodLink RL 178 yL_uncovered ∈ TS := (in_TS 1385 (by decide +kernel) rfl)
theorem lkl_183 : Cond.methodLink RL 183 yX12_uncoveredWithoutMoves ∈ TS := (in_TS 2178 (by decide +kernel) rfl)
theorem lkl_181 : Cond.methodLink RL 181 yL_uncoveredWithoutMoves ∈ TS := (in_TS 1392 (by decide +kernel) rfl)
theorem lkl_184 : Cond.methodLink RL 184 yL_nearestMinutes ∈ TS := (in_TS 1401 (by decide +kernel) rfl)
theorem lkl_186 : Cond.methodLink RL 186 yX12_nearestMinutes ∈ TS := (in_TS 2182 (by decide +kernel) rfl)
theorem lkl_187 : Cond.methodLink RL 187 yL_coveringEngines ∈ TS := (in_TS 1414 (by decide +kernel) rfl)
theorem lkl_189 : Cond.methodLink RL 189 yX12_coveringEngines ∈ TS := (in_TS 2190 (by decide +kernel) rfl)
theorem lkl_192 : Cond.methodLink RL 192 yX12_weakestStreet ∈ TS := (in_TS 2194 (by decide +kernel) rfl)
theorem lkl_190 : Cond.methodLink RL 190 yL_weakestStreet ∈ TS := (in_TS 1425 (by decide +kernel) rfl)
theorem lkl_193 : Cond.methodLink RL 193 yX11_criticalEngine ∈ TS := (in_TS 1136 (by decide +kernel) rfl)
theorem lkl_196 : Cond.methodLink RL 196 yX12_criticalEngine ∈ TS := (in_TS 2199 (by decide +kernel) rfl)
theorem lkl_197 : Cond.methodLink RL 197 yX11_safeAbsences ∈ TS := (in_TS 1148 (by decide +kernel) rfl)
theorem lkl_200 : Cond.methodLink RL 200 yX12_safeAbsences ∈ TS := (in_TS 2206 (by decide +kernel) rfl)
theorem lkl_201 : Cond.methodLink RL 201 yL_setStart ∈ TS := (in_TS 1434 (by decide +kernel) rfl)
theorem lkl_203 : Cond.methodLink RL 203 yX12_setStart ∈ TS := (in_TS 2210 (by decide +kernel) rfl)
theorem lkl_206 : Cond.methodLink RL 206 yX12_start ∈ TS := (in_TS 2218 (by decide +kernel) rfl)
theorem lkl_204 : Cond.methodLink RL 204 yL_start ∈ TS := (in_TS 1446 (by decide +kernel) rfl)
theorem lkl_207 : Cond.methodLink RL 207 yX11_clearStarts ∈ TS := (in_TS 1152 (by decide +kernel) rfl)
theorem lkl_210 : Cond.methodLink RL 210 yX12_clearStarts ∈ TS := (in_TS 2222 (by decide +kernel) rfl)
theorem lkl_211 : Cond.methodLink RL 211 yX11_undo ∈ TS := (in_TS 1170 (by decide +kernel) rfl)
theorem lkl_214 : Cond.methodLink RL 214 yX12_undo ∈ TS := (in_TS 2226 (by decide +kernel) rfl)
theorem lkl_217 : Cond.methodLink RL 217 yX12_drillState ∈ TS := (in_TS 2230 (by decide +kernel) rfl)
theorem lkl_215 : Cond.methodLink RL 215 yL_drillState ∈ TS := (in_TS 1453 (by decide +kernel) rfl)
theorem lkl_220 : Cond.methodLink RL 220 yX12_drillEngines ∈ TS := (in_TS 2255 (by decide +kernel) rfl)
theorem lkl_218 : Cond.methodLink RL 218 yL_drillEngines ∈ TS := (in_TS 1460 (by decide +kernel) rfl)
theorem lkl_223 : Cond.methodLink RL 223 yX12_drillBegin ∈ TS := (in_TS 2259 (by decide +kernel) rfl)
theorem lkl_221 : Cond.methodLink RL 221 yL_drillBegin ∈ TS := (in_TS 1467 (by decide +kernel) rfl)
theorem lkl_226 : Cond.methodLink RL 226 yX12_drillEnd ∈ TS := (in_TS 2263 (by decide +kernel) rfl)
theorem lkl_224 : Cond.methodLink RL 224 yL_drillEnd ∈ TS := (in_TS 1474 (by decide +kernel) rfl)
theorem lkl_229 : Cond.methodLink RL 229 yX12_drillBack ∈ TS := (in_TS 2267 (by decide +kernel) rfl)
theorem lkl_227 : Cond.methodLink RL 227 yL_drillBack ∈ TS := (in_TS 1481 (by decide +kernel) rfl)
theorem lkl_230 : Cond.methodLink RL 230 yX11_violations ∈ TS := (in_TS 1178 (by decide +kernel) rfl)
theorem lkl_233 : Cond.methodLink RL 233 yX12_violations ∈ TS := (in_TS 2271 (by decide +kernel) rfl)
theorem lkl_236 : Cond.methodLink RL 236 yX12_violationCode ∈ TS := (in_TS 2286 (by decide +kernel) rfl)
theorem lkl_234 : Cond.methodLink RL 234 yL_violationCode ∈ TS := (in_TS 1488 (by decide +kernel) rfl)
theorem lkl_239 : Cond.methodLink RL 239 yX12_violationSlot ∈ TS := (in_TS 2294 (by decide +kernel) rfl)
theorem lkl_237 : Cond.methodLink RL 237 yL_violationSlot ∈ TS := (in_TS 1499 (by decide +kernel) rfl)
theorem lkl_242 : Cond.methodLink RL 242 yX12_violationSubject ∈ TS := (in_TS 2298 (by decide +kernel) rfl)
theorem lkl_240 : Cond.methodLink RL 240 yL_violationSubject ∈ TS := (in_TS 1510 (by decide +kernel) rfl)
theorem lkl_245 : Cond.methodLink RL 245 yX12_availableAt ∈ TS := (in_TS 2302 (by decide +kernel) rfl)
theorem lkl_243 : Cond.methodLink RL 243 yL_availableAt ∈ TS := (in_TS 1521 (by decide +kernel) rfl)
theorem lkl_248 : Cond.methodLink RL 248 yX12_uncoveredAt ∈ TS := (in_TS 2310 (by decide +kernel) rfl)
theorem lkl_246 : Cond.methodLink RL 246 yL_uncoveredAt ∈ TS := (in_TS 1528 (by decide +kernel) rfl)
theorem lkl_251 : Cond.methodLink RL 251 yX12_dryHoses ∈ TS := (in_TS 2314 (by decide +kernel) rfl)
theorem lkl_249 : Cond.methodLink RL 249 yL_dryHoses ∈ TS := (in_TS 1535 (by decide +kernel) rfl)
theorem lkl_254 : Cond.methodLink RL 254 yX12_wetHoses ∈ TS := (in_TS 2318 (by decide +kernel) rfl)
theorem lkl_252 : Cond.methodLink RL 252 yL_wetHoses ∈ TS := (in_TS 1542 (by decide +kernel) rfl)
theorem lkl_257 : Cond.methodLink RL 257 yX12_dryingHoses ∈ TS := (in_TS 2322 (by decide +kernel) rfl)
theorem lkl_255 : Cond.methodLink RL 255 yL_dryingHoses ∈ TS := (in_TS 1549 (by decide +kernel) rfl)
theorem lkl_260 : Cond.methodLink RL 260 yX12_awaySlots ∈ TS := (in_TS 2326 (by decide +kernel) rfl)
theorem lkl_258 : Cond.methodLink RL 258 yL_awaySlots ∈ TS := (in_TS 1556 (by decide +kernel) rfl)
theorem lkl_261 : Cond.methodLink RL 261 yX11_busiestSlot ∈ TS := (in_TS 1182 (by decide +kernel) rfl)
theorem lkl_264 : Cond.methodLink RL 264 yX12_busiestSlot ∈ TS := (in_TS 2330 (by decide +kernel) rfl)
theorem lkl_265 : Cond.methodLink RL 265 yX11_finish ∈ TS := (in_TS 1187 (by decide +kernel) rfl)
theorem lkl_268 : Cond.methodLink RL 268 yX12_finish ∈ TS := (in_TS 2334 (by decide +kernel) rfl)
theorem lkl_271 : Cond.methodLink RL 271 yX12_earliestStart ∈ TS := (in_TS 2342 (by decide +kernel) rfl)
theorem lkl_269 : Cond.methodLink RL 269 yL_earliestStart ∈ TS := (in_TS 1563 (by decide +kernel) rfl)
theorem lkl_272 : Cond.methodLink RL 272 yX11_compact ∈ TS := (in_TS 1195 (by decide +kernel) rfl)
theorem lkl_275 : Cond.methodLink RL 275 yX12_compact ∈ TS := (in_TS 2354 (by decide +kernel) rfl)
theorem lkl_278 : Cond.methodLink RL 278 yX12_schedule ∈ TS := (in_TS 2358 (by decide +kernel) rfl)
theorem lkl_276 : Cond.methodLink RL 276 yL_schedule ∈ TS := (in_TS 1570 (by decide +kernel) rfl)
theorem lkl_279 : Cond.methodLink RL 279 yX11_bestFinish ∈ TS := (in_TS 1217 (by decide +kernel) rfl)
theorem lkl_282 : Cond.methodLink RL 282 yX12_bestFinish ∈ TS := (in_TS 2374 (by decide +kernel) rfl)
theorem lkl_283 : Cond.methodLink RL 283 yX11_bestOrder ∈ TS := (in_TS 1235 (by decide +kernel) rfl)
theorem lkl_286 : Cond.methodLink RL 286 yX12_bestOrder ∈ TS := (in_TS 2386 (by decide +kernel) rfl)
theorem lkl_289 : Cond.methodLink RL 289 yX12_bestFinishWithout ∈ TS := (in_TS 2390 (by decide +kernel) rfl)
theorem lkl_287 : Cond.methodLink RL 287 yL_bestFinishWithout ∈ TS := (in_TS 1588 (by decide +kernel) rfl)
theorem lkl_290 : Cond.methodLink RL 290 yL_bestFinishWith ∈ TS := (in_TS 1595 (by decide +kernel) rfl)
theorem lkl_292 : Cond.methodLink RL 292 yX12_bestFinishWith ∈ TS := (in_TS 2394 (by decide +kernel) rfl)
theorem lkl_293 : Cond.methodLink RL 293 yX11_enoughRacks ∈ TS := (in_TS 1239 (by decide +kernel) rfl)
theorem lkl_296 : Cond.methodLink RL 296 yX12_enoughRacks ∈ TS := (in_TS 2398 (by decide +kernel) rfl)
theorem lkc_L_8 : Cond.classLink RL 8 RX11 ∈ TS := (in_TS 143 (by decide +kernel) rfl)
theorem ins_X11 : Cond.instantiable RX11 13 ∈ TS := (in_TS 144 (by decide +kernel) rfl)
theorem hty_10 : ∀ k, k < 13 → okT (fk 10 k) (tyX11 k) = true := by decide +kernel
theorem lkl_105 : Cond.methodLink RL 105 yX11_init ∈ TS := (in_TS 145 (by decide +kernel) rfl)
theorem lkc_L_106 : Cond.classLink RL 106 RX12 ∈ TS := (in_TS 1602 (by decide +kernel) rfl)
theorem ins_X12 : Cond.instantiable RX12 86 ∈ TS := (in_TS 1603 (by decide +kernel) rfl)
theorem hty_11 : ∀ k, k < 86 → okT (fk 11 k) (tyX12 k) = true := by decide +kernel
theorem lkl_108 : Cond.methodLink RL 108 yX12_init ∈ TS := (in_TS 1604 (by decide +kernel) rfl)
theorem dL_travelMinutes_0 : decode cL_travelMinutes 0 = .ok (.aload_n 3, 1) := by decide +kernel
theorem dL_travelMinutes_1 : decode cL_travelMinutes 1 = .ok (.iconst 0, 1) := by decide +kernel
theorem dL_travelMinutes_2 : decode cL_travelMinutes 2 = .ok (.aload_n 0, 1) := by decide +kernel
theorem dL_travelMinutes_3 : decode cL_travelMinutes 3 = .ok (.iload_n 1, 1) := by decide +kernel
theorem dL_travelMinutes_4 : decode cL_travelMinutes 4 = .ok (.iload_n 2, 1) := by decide +kernel
theorem dL_travelMinutes_5 : decode cL_travelMinutes 5 = .ok (.invokevirtual 7, 3) := by decide +kernel
theorem dL_travelMinutes_8 : decode cL_travelMinutes 8 = .ok (.i2l, 1) := by decide +kernel
theorem dL_travelMinutes_9 : decode cL_travelMinutes 9 = .ok (.lastore, 1) := by decide +kernel
theorem dL_travelMinutes_10 : decode cL_travelMinutes 10 = .ok (.goto 7, 3) := by decide +kernel
theorem dL_travelMinutes_13 : decode cL_travelMinutes 13 = .ok (.astore 4, 2) := by decide +kernel
theorem dL_travelMinutes_15 : decode cL_travelMinutes 15 = .ok (.iconst 1, 1) := by decide +kernel
theorem dL_travelMinutes_16 : decode cL_travelMinutes 16 = .ok (.ireturn, 1) := by decide +kernel
theorem dL_travelMinutes_17 : decode cL_travelMinutes 17 = .ok (.iconst 0, 1) := by decide +kernel
theorem dL_travelMinutes_18 : decode cL_travelMinutes 18 = .ok (.ireturn, 1) := by decide +kernel
theorem dL_travelSlots_0 : decode cL_travelSlots 0 = .ok (.aload_n 3, 1) := by decide +kernel
theorem dL_travelSlots_1 : decode cL_travelSlots 1 = .ok (.iconst 0, 1) := by decide +kernel
theorem dL_travelSlots_2 : decode cL_travelSlots 2 = .ok (.aload_n 0, 1) := by decide +kernel
theorem dL_travelSlots_3 : decode cL_travelSlots 3 = .ok (.iload_n 1, 1) := by decide +kernel
theorem dL_travelSlots_4 : decode cL_travelSlots 4 = .ok (.iload_n 2, 1) := by decide +kernel
theorem dL_travelSlots_5 : decode cL_travelSlots 5 = .ok (.invokevirtual 15, 3) := by decide +kernel
theorem dL_travelSlots_8 : decode cL_travelSlots 8 = .ok (.i2l, 1) := by decide +kernel
theorem dL_travelSlots_9 : decode cL_travelSlots 9 = .ok (.lastore, 1) := by decide +kernel
theorem dL_travelSlots_10 : decode cL_travelSlots 10 = .ok (.goto 7, 3) := by decide +kernel
theorem dL_travelSlots_13 : decode cL_travelSlots 13 = .ok (.astore 4, 2) := by decide +kernel
theorem dL_travelSlots_15 : decode cL_travelSlots 15 = .ok (.iconst 1, 1) := by decide +kernel
theorem dL_travelSlots_16 : decode cL_travelSlots 16 = .ok (.ireturn, 1) := by decide +kernel
theorem dL_travelSlots_17 : decode cL_travelSlots 17 = .ok (.iconst 0, 1) := by decide +kernel
theorem dL_travelSlots_18 : decode cL_travelSlots 18 = .ok (.ireturn, 1) := by decide +kernel
theorem dL_homeStation_0 : decode cL_homeStation 0 = .ok (.aload_n 2, 1) := by decide +kernel
theorem dL_homeStation_1 : decode cL_homeStation 1 = .ok (.iconst 0, 1) := by decide +kernel
theorem dL_homeStation_2 : decode cL_homeStation 2 = .ok (.aload_n 0, 1) := by decide +kernel
theorem dL_homeStation_3 : decode cL_homeStation 3 = .ok (.iload_n 1, 1) := by decide +kernel
theorem dL_homeStation_4 : decode cL_homeStation 4 = .ok (.invokevirtual 18, 3) := by decide +kernel
theorem dL_homeStation_7 : decode cL_homeStation 7 = .ok (.i2l, 1) := by decide +kernel
theorem dL_homeStation_8 : decode cL_homeStation 8 = .ok (.lastore, 1) := by decide +kernel
theorem dL_homeStation_9 : decode cL_homeStation 9 = .ok (.goto 6, 3) := by decide +kernel
theorem dL_homeStation_12 : decode cL_homeStation 12 = .ok (.astore_n 3, 1) := by decide +kernel
theorem dL_homeStation_13 : decode cL_homeStation 13 = .ok (.iconst 1, 1) := by decide +kernel
theorem dL_homeStation_14 : decode cL_homeStation 14 = .ok (.ireturn, 1) := by decide +kernel
theorem dL_homeStation_15 : decode cL_homeStation 15 = .ok (.iconst 0, 1) := by decide +kernel
theorem dL_homeStation_16 : decode cL_homeStation 16 = .ok (.ireturn, 1) := by decide +kernel
theorem dL_engineKind_0 : decode cL_engineKind 0 = .ok (.aload_n 2, 1) := by decide +kernel
theorem dL_engineKind_1 : decode cL_engineKind 1 = .ok (.iconst 0, 1) := by decide +kernel
theorem dL_engineKind_2 : decode cL_engineKind 2 = .ok (.aload_n 0, 1) := by decide +kernel
theorem dL_engineKind_3 : decode cL_engineKind 3 = .ok (.iload_n 1, 1) := by decide +kernel
theorem dL_engineKind_4 : decode cL_engineKind 4 = .ok (.invokevirtual 22, 3) := by decide +kernel
theorem dL_engineKind_7 : decode cL_engineKind 7 = .ok (.i2l, 1) := by decide +kernel
theorem dL_engineKind_8 : decode cL_engineKind 8 = .ok (.lastore, 1) := by decide +kernel
theorem dL_engineKind_9 : decode cL_engineKind 9 = .ok (.goto 6, 3) := by decide +kernel
theorem dL_engineKind_12 : decode cL_engineKind 12 = .ok (.astore_n 3, 1) := by decide +kernel
theorem dL_engineKind_13 : decode cL_engineKind 13 = .ok (.iconst 1, 1) := by decide +kernel
theorem dL_engineKind_14 : decode cL_engineKind 14 = .ok (.ireturn, 1) := by decide +kernel
theorem dL_engineKind_15 : decode cL_engineKind 15 = .ok (.iconst 0, 1) := by decide +kernel
theorem dL_engineKind_16 : decode cL_engineKind 16 = .ok (.ireturn, 1) := by decide +kernel
theorem dL_coverStation_0 : decode cL_coverStation 0 = .ok (.aload_n 3, 1) := by decide +kernel
theorem dL_coverStation_1 : decode cL_coverStation 1 = .ok (.iconst 0, 1) := by decide +kernel
theorem dL_coverStation_2 : decode cL_coverStation 2 = .ok (.aload_n 0, 1) := by decide +kernel
theorem dL_coverStation_3 : decode cL_coverStation 3 = .ok (.iload_n 1, 1) := by decide +kernel
theorem dL_coverStation_4 : decode cL_coverStation 4 = .ok (.iload_n 2, 1) := by decide +kernel
theorem dL_coverStation_5 : decode cL_coverStation 5 = .ok (.invokevirtual 25, 3) := by decide +kernel
theorem dL_coverStation_8 : decode cL_coverStation 8 = .ok (.i2l, 1) := by decide +kernel
theorem dL_coverStation_9 : decode cL_coverStation 9 = .ok (.lastore, 1) := by decide +kernel
theorem dL_coverStation_10 : decode cL_coverStation 10 = .ok (.goto 11, 3) := by decide +kernel
theorem dL_coverStation_13 : decode cL_coverStation 13 = .ok (.astore 4, 2) := by decide +kernel
theorem dL_coverStation_15 : decode cL_coverStation 15 = .ok (.iconst 1, 1) := by decide +kernel
theorem dL_coverStation_16 : decode cL_coverStation 16 = .ok (.ireturn, 1) := by decide +kernel
theorem dL_coverStation_17 : decode cL_coverStation 17 = .ok (.astore 4, 2) := by decide +kernel
theorem dL_coverStation_19 : decode cL_coverStation 19 = .ok (.iconst 2, 1) := by decide +kernel
theorem dL_coverStation_20 : decode cL_coverStation 20 = .ok (.ireturn, 1) := by decide +kernel
theorem dL_coverStation_21 : decode cL_coverStation 21 = .ok (.iconst 0, 1) := by decide +kernel
theorem dL_coverStation_22 : decode cL_coverStation 22 = .ok (.ireturn, 1) := by decide +kernel
theorem dL_uncovered_0 : decode cL_uncovered 0 = .ok (.aload_n 2, 1) := by decide +kernel
theorem dL_uncovered_1 : decode cL_uncovered 1 = .ok (.iconst 0, 1) := by decide +kernel
theorem dL_uncovered_2 : decode cL_uncovered 2 = .ok (.aload_n 0, 1) := by decide +kernel
theorem dL_uncovered_3 : decode cL_uncovered 3 = .ok (.iload_n 1, 1) := by decide +kernel
theorem dL_uncovered_4 : decode cL_uncovered 4 = .ok (.invokevirtual 30, 3) := by decide +kernel
theorem dL_uncovered_7 : decode cL_uncovered 7 = .ok (.i2l, 1) := by decide +kernel
theorem dL_uncovered_8 : decode cL_uncovered 8 = .ok (.lastore, 1) := by decide +kernel
theorem dL_uncovered_9 : decode cL_uncovered 9 = .ok (.goto 6, 3) := by decide +kernel
theorem dL_uncovered_12 : decode cL_uncovered 12 = .ok (.astore_n 3, 1) := by decide +kernel
theorem dL_uncovered_13 : decode cL_uncovered 13 = .ok (.iconst 1, 1) := by decide +kernel
theorem dL_uncovered_14 : decode cL_uncovered 14 = .ok (.ireturn, 1) := by decide +kernel
theorem dL_uncovered_15 : decode cL_uncovered 15 = .ok (.iconst 0, 1) := by decide +kernel
theorem dL_uncovered_16 : decode cL_uncovered 16 = .ok (.ireturn, 1) := by decide +kernel
theorem dL_uncoveredWithoutMoves_0 : decode cL_uncoveredWithoutMoves 0 = .ok (.aload_n 2, 1) := by decide +kernel
theorem dL_uncoveredWithoutMoves_1 : decode cL_uncoveredWithoutMoves 1 = .ok (.iconst 0, 1) := by decide +kernel
theorem dL_uncoveredWithoutMoves_2 : decode cL_uncoveredWithoutMoves 2 = .ok (.aload_n 0, 1) := by decide +kernel
theorem dL_uncoveredWithoutMoves_3 : decode cL_uncoveredWithoutMoves 3 = .ok (.iload_n 1, 1) := by decide +kernel
theorem dL_uncoveredWithoutMoves_4 : decode cL_uncoveredWithoutMoves 4 = .ok (.invokevirtual 33, 3) := by decide +kernel
theorem dL_uncoveredWithoutMoves_7 : decode cL_uncoveredWithoutMoves 7 = .ok (.i2l, 1) := by decide +kernel
theorem dL_uncoveredWithoutMoves_8 : decode cL_uncoveredWithoutMoves 8 = .ok (.lastore, 1) := by decide +kernel
theorem dL_uncoveredWithoutMoves_9 : decode cL_uncoveredWithoutMoves 9 = .ok (.goto 6, 3) := by decide +kernel
theorem dL_uncoveredWithoutMoves_12 : decode cL_uncoveredWithoutMoves 12 = .ok (.astore_n 3, 1) := by decide +kernel
theorem dL_uncoveredWithoutMoves_13 : decode cL_uncoveredWithoutMoves 13 = .ok (.iconst 1, 1) := by decide +kernel
theorem dL_uncoveredWithoutMoves_14 : decode cL_uncoveredWithoutMoves 14 = .ok (.ireturn, 1) := by decide +kernel
theorem dL_uncoveredWithoutMoves_15 : decode cL_uncoveredWithoutMoves 15 = .ok (.iconst 0, 1) := by decide +kernel
theorem dL_uncoveredWithoutMoves_16 : decode cL_uncoveredWithoutMoves 16 = .ok (.ireturn, 1) := by decide +kernel
theorem dL_nearestMinutes_0 : decode cL_nearestMinutes 0 = .ok (.aload_n 3, 1) := by decide +kernel
theorem dL_nearestMinutes_1 : decode cL_nearestMinutes 1 = .ok (.iconst 0, 1) := by decide +kernel
theorem dL_nearestMinutes_2 : decode cL_nearestMinutes 2 = .ok (.aload_n 0, 1) := by decide +kernel
theorem dL_nearestMinutes_3 : decode cL_nearestMinutes 3 = .ok (.iload_n 1, 1) := by decide +kernel
theorem dL_nearestMinutes_4 : decode cL_nearestMinutes 4 = .ok (.iload_n 2, 1) := by decide +kernel
theorem dL_nearestMinutes_5 : decode cL_nearestMinutes 5 = .ok (.invokevirtual 36, 3) := by decide +kernel
theorem dL_nearestMinutes_8 : decode cL_nearestMinutes 8 = .ok (.i2l, 1) := by decide +kernel
theorem dL_nearestMinutes_9 : decode cL_nearestMinutes 9 = .ok (.lastore, 1) := by decide +kernel
theorem dL_nearestMinutes_10 : decode cL_nearestMinutes 10 = .ok (.goto 11, 3) := by decide +kernel
theorem dL_nearestMinutes_13 : decode cL_nearestMinutes 13 = .ok (.astore 4, 2) := by decide +kernel
theorem dL_nearestMinutes_15 : decode cL_nearestMinutes 15 = .ok (.iconst 1, 1) := by decide +kernel
theorem dL_nearestMinutes_16 : decode cL_nearestMinutes 16 = .ok (.ireturn, 1) := by decide +kernel
theorem dL_nearestMinutes_17 : decode cL_nearestMinutes 17 = .ok (.astore 4, 2) := by decide +kernel
theorem dL_nearestMinutes_19 : decode cL_nearestMinutes 19 = .ok (.iconst 2, 1) := by decide +kernel
theorem dL_nearestMinutes_20 : decode cL_nearestMinutes 20 = .ok (.ireturn, 1) := by decide +kernel
theorem dL_nearestMinutes_21 : decode cL_nearestMinutes 21 = .ok (.iconst 0, 1) := by decide +kernel
theorem dL_nearestMinutes_22 : decode cL_nearestMinutes 22 = .ok (.ireturn, 1) := by decide +kernel
theorem dL_coveringEngines_0 : decode cL_coveringEngines 0 = .ok (.aload_n 3, 1) := by decide +kernel
theorem dL_coveringEngines_1 : decode cL_coveringEngines 1 = .ok (.iconst 0, 1) := by decide +kernel
theorem dL_coveringEngines_2 : decode cL_coveringEngines 2 = .ok (.aload_n 0, 1) := by decide +kernel
theorem dL_coveringEngines_3 : decode cL_coveringEngines 3 = .ok (.iload_n 1, 1) := by decide +kernel
theorem dL_coveringEngines_4 : decode cL_coveringEngines 4 = .ok (.iload_n 2, 1) := by decide +kernel
theorem dL_coveringEngines_5 : decode cL_coveringEngines 5 = .ok (.invokevirtual 39, 3) := by decide +kernel
theorem dL_coveringEngines_8 : decode cL_coveringEngines 8 = .ok (.i2l, 1) := by decide +kernel
theorem dL_coveringEngines_9 : decode cL_coveringEngines 9 = .ok (.lastore, 1) := by decide +kernel
theorem dL_coveringEngines_10 : decode cL_coveringEngines 10 = .ok (.goto 11, 3) := by decide +kernel
theorem dL_coveringEngines_13 : decode cL_coveringEngines 13 = .ok (.astore 4, 2) := by decide +kernel
theorem dL_coveringEngines_15 : decode cL_coveringEngines 15 = .ok (.iconst 1, 1) := by decide +kernel
theorem dL_coveringEngines_16 : decode cL_coveringEngines 16 = .ok (.ireturn, 1) := by decide +kernel
theorem dL_coveringEngines_17 : decode cL_coveringEngines 17 = .ok (.astore 4, 2) := by decide +kernel
theorem dL_coveringEngines_19 : decode cL_coveringEngines 19 = .ok (.iconst 2, 1) := by decide +kernel
theorem dL_coveringEngines_20 : decode cL_coveringEngines 20 = .ok (.ireturn, 1) := by decide +kernel
theorem dL_coveringEngines_21 : decode cL_coveringEngines 21 = .ok (.iconst 0, 1) := by decide +kernel
theorem dL_coveringEngines_22 : decode cL_coveringEngines 22 = .ok (.ireturn, 1) := by decide +kernel
theorem dL_weakestStreet_0 : decode cL_weakestStreet 0 = .ok (.aload_n 2, 1) := by decide +kernel
theorem dL_weakestStreet_1 : decode cL_weakestStreet 1 = .ok (.iconst 0, 1) := by decide +kernel
theorem dL_weakestStreet_2 : decode cL_weakestStreet 2 = .ok (.aload_n 0, 1) := by decide +kernel
theorem dL_weakestStreet_3 : decode cL_weakestStreet 3 = .ok (.iload_n 1, 1) := by decide +kernel
theorem dL_weakestStreet_4 : decode cL_weakestStreet 4 = .ok (.invokevirtual 42, 3) := by decide +kernel
theorem dL_weakestStreet_7 : decode cL_weakestStreet 7 = .ok (.i2l, 1) := by decide +kernel
theorem dL_weakestStreet_8 : decode cL_weakestStreet 8 = .ok (.lastore, 1) := by decide +kernel
theorem dL_weakestStreet_9 : decode cL_weakestStreet 9 = .ok (.goto 6, 3) := by decide +kernel
theorem dL_weakestStreet_12 : decode cL_weakestStreet 12 = .ok (.astore_n 3, 1) := by decide +kernel
theorem dL_weakestStreet_13 : decode cL_weakestStreet 13 = .ok (.iconst 1, 1) := by decide +kernel
theorem dL_weakestStreet_14 : decode cL_weakestStreet 14 = .ok (.ireturn, 1) := by decide +kernel
theorem dL_weakestStreet_15 : decode cL_weakestStreet 15 = .ok (.iconst 0, 1) := by decide +kernel
theorem dL_weakestStreet_16 : decode cL_weakestStreet 16 = .ok (.ireturn, 1) := by decide +kernel
theorem dL_setStart_0 : decode cL_setStart 0 = .ok (.aload_n 3, 1) := by decide +kernel
theorem dL_setStart_1 : decode cL_setStart 1 = .ok (.iconst 0, 1) := by decide +kernel
theorem dL_setStart_2 : decode cL_setStart 2 = .ok (.aload_n 0, 1) := by decide +kernel
theorem dL_setStart_3 : decode cL_setStart 3 = .ok (.iload_n 1, 1) := by decide +kernel
theorem dL_setStart_4 : decode cL_setStart 4 = .ok (.iload_n 2, 1) := by decide +kernel
theorem dL_setStart_5 : decode cL_setStart 5 = .ok (.invokevirtual 45, 3) := by decide +kernel
theorem dL_setStart_8 : decode cL_setStart 8 = .ok (.i2l, 1) := by decide +kernel
theorem dL_setStart_9 : decode cL_setStart 9 = .ok (.lastore, 1) := by decide +kernel
theorem dL_setStart_10 : decode cL_setStart 10 = .ok (.goto 11, 3) := by decide +kernel
theorem dL_setStart_13 : decode cL_setStart 13 = .ok (.astore 4, 2) := by decide +kernel
theorem dL_setStart_15 : decode cL_setStart 15 = .ok (.iconst 1, 1) := by decide +kernel
theorem dL_setStart_16 : decode cL_setStart 16 = .ok (.ireturn, 1) := by decide +kernel
theorem dL_setStart_17 : decode cL_setStart 17 = .ok (.astore 4, 2) := by decide +kernel
theorem dL_setStart_19 : decode cL_setStart 19 = .ok (.iconst 2, 1) := by decide +kernel
theorem dL_setStart_20 : decode cL_setStart 20 = .ok (.ireturn, 1) := by decide +kernel
theorem dL_setStart_21 : decode cL_setStart 21 = .ok (.iconst 0, 1) := by decide +kernel
theorem dL_setStart_22 : decode cL_setStart 22 = .ok (.ireturn, 1) := by decide +kernel
theorem dL_start_0 : decode cL_start 0 = .ok (.aload_n 2, 1) := by decide +kernel
theorem dL_start_1 : decode cL_start 1 = .ok (.iconst 0, 1) := by decide +kernel
theorem dL_start_2 : decode cL_start 2 = .ok (.aload_n 0, 1) := by decide +kernel
theorem dL_start_3 : decode cL_start 3 = .ok (.iload_n 1, 1) := by decide +kernel
theorem dL_start_4 : decode cL_start 4 = .ok (.invokevirtual 48, 3) := by decide +kernel
theorem dL_start_7 : decode cL_start 7 = .ok (.i2l, 1) := by decide +kernel
theorem dL_start_8 : decode cL_start 8 = .ok (.lastore, 1) := by decide +kernel
theorem dL_start_9 : decode cL_start 9 = .ok (.goto 6, 3) := by decide +kernel
theorem dL_start_12 : decode cL_start 12 = .ok (.astore_n 3, 1) := by decide +kernel
theorem dL_start_13 : decode cL_start 13 = .ok (.iconst 1, 1) := by decide +kernel
theorem dL_start_14 : decode cL_start 14 = .ok (.ireturn, 1) := by decide +kernel
theorem dL_start_15 : decode cL_start 15 = .ok (.iconst 0, 1) := by decide +kernel
theorem dL_start_16 : decode cL_start 16 = .ok (.ireturn, 1) := by decide +kernel
theorem dL_drillState_0 : decode cL_drillState 0 = .ok (.aload_n 2, 1) := by decide +kernel
theorem dL_drillState_1 : decode cL_drillState 1 = .ok (.iconst 0, 1) := by decide +kernel
theorem dL_drillState_2 : decode cL_drillState 2 = .ok (.aload_n 0, 1) := by decide +kernel
theorem dL_drillState_3 : decode cL_drillState 3 = .ok (.iload_n 1, 1) := by decide +kernel
theorem dL_drillState_4 : decode cL_drillState 4 = .ok (.invokevirtual 51, 3) := by decide +kernel
theorem dL_drillState_7 : decode cL_drillState 7 = .ok (.i2l, 1) := by decide +kernel
theorem dL_drillState_8 : decode cL_drillState 8 = .ok (.lastore, 1) := by decide +kernel
theorem dL_drillState_9 : decode cL_drillState 9 = .ok (.goto 6, 3) := by decide +kernel
theorem dL_drillState_12 : decode cL_drillState 12 = .ok (.astore_n 3, 1) := by decide +kernel
theorem dL_drillState_13 : decode cL_drillState 13 = .ok (.iconst 1, 1) := by decide +kernel
theorem dL_drillState_14 : decode cL_drillState 14 = .ok (.ireturn, 1) := by decide +kernel
theorem dL_drillState_15 : decode cL_drillState 15 = .ok (.iconst 0, 1) := by decide +kernel
theorem dL_drillState_16 : decode cL_drillState 16 = .ok (.ireturn, 1) := by decide +kernel
theorem dL_drillEngines_0 : decode cL_drillEngines 0 = .ok (.aload_n 2, 1) := by decide +kernel
theorem dL_drillEngines_1 : decode cL_drillEngines 1 = .ok (.iconst 0, 1) := by decide +kernel
theorem dL_drillEngines_2 : decode cL_drillEngines 2 = .ok (.aload_n 0, 1) := by decide +kernel
theorem dL_drillEngines_3 : decode cL_drillEngines 3 = .ok (.iload_n 1, 1) := by decide +kernel
theorem dL_drillEngines_4 : decode cL_drillEngines 4 = .ok (.invokevirtual 54, 3) := by decide +kernel
theorem dL_drillEngines_7 : decode cL_drillEngines 7 = .ok (.i2l, 1) := by decide +kernel
theorem dL_drillEngines_8 : decode cL_drillEngines 8 = .ok (.lastore, 1) := by decide +kernel
theorem dL_drillEngines_9 : decode cL_drillEngines 9 = .ok (.goto 6, 3) := by decide +kernel
theorem dL_drillEngines_12 : decode cL_drillEngines 12 = .ok (.astore_n 3, 1) := by decide +kernel
theorem dL_drillEngines_13 : decode cL_drillEngines 13 = .ok (.iconst 1, 1) := by decide +kernel
theorem dL_drillEngines_14 : decode cL_drillEngines 14 = .ok (.ireturn, 1) := by decide +kernel
theorem dL_drillEngines_15 : decode cL_drillEngines 15 = .ok (.iconst 0, 1) := by decide +kernel
theorem dL_drillEngines_16 : decode cL_drillEngines 16 = .ok (.ireturn, 1) := by decide +kernel
theorem dL_drillBegin_0 : decode cL_drillBegin 0 = .ok (.aload_n 2, 1) := by decide +kernel
theorem dL_drillBegin_1 : decode cL_drillBegin 1 = .ok (.iconst 0, 1) := by decide +kernel
theorem dL_drillBegin_2 : decode cL_drillBegin 2 = .ok (.aload_n 0, 1) := by decide +kernel
theorem dL_drillBegin_3 : decode cL_drillBegin 3 = .ok (.iload_n 1, 1) := by decide +kernel
theorem dL_drillBegin_4 : decode cL_drillBegin 4 = .ok (.invokevirtual 57, 3) := by decide +kernel
theorem dL_drillBegin_7 : decode cL_drillBegin 7 = .ok (.i2l, 1) := by decide +kernel
theorem dL_drillBegin_8 : decode cL_drillBegin 8 = .ok (.lastore, 1) := by decide +kernel
theorem dL_drillBegin_9 : decode cL_drillBegin 9 = .ok (.goto 6, 3) := by decide +kernel
theorem dL_drillBegin_12 : decode cL_drillBegin 12 = .ok (.astore_n 3, 1) := by decide +kernel
theorem dL_drillBegin_13 : decode cL_drillBegin 13 = .ok (.iconst 1, 1) := by decide +kernel
theorem dL_drillBegin_14 : decode cL_drillBegin 14 = .ok (.ireturn, 1) := by decide +kernel
theorem dL_drillBegin_15 : decode cL_drillBegin 15 = .ok (.iconst 0, 1) := by decide +kernel
theorem dL_drillBegin_16 : decode cL_drillBegin 16 = .ok (.ireturn, 1) := by decide +kernel
theorem dL_drillEnd_0 : decode cL_drillEnd 0 = .ok (.aload_n 2, 1) := by decide +kernel
theorem dL_drillEnd_1 : decode cL_drillEnd 1 = .ok (.iconst 0, 1) := by decide +kernel
theorem dL_drillEnd_2 : decode cL_drillEnd 2 = .ok (.aload_n 0, 1) := by decide +kernel
theorem dL_drillEnd_3 : decode cL_drillEnd 3 = .ok (.iload_n 1, 1) := by decide +kernel
theorem dL_drillEnd_4 : decode cL_drillEnd 4 = .ok (.invokevirtual 60, 3) := by decide +kernel
theorem dL_drillEnd_7 : decode cL_drillEnd 7 = .ok (.i2l, 1) := by decide +kernel
theorem dL_drillEnd_8 : decode cL_drillEnd 8 = .ok (.lastore, 1) := by decide +kernel
theorem dL_drillEnd_9 : decode cL_drillEnd 9 = .ok (.goto 6, 3) := by decide +kernel
theorem dL_drillEnd_12 : decode cL_drillEnd 12 = .ok (.astore_n 3, 1) := by decide +kernel
theorem dL_drillEnd_13 : decode cL_drillEnd 13 = .ok (.iconst 1, 1) := by decide +kernel
theorem dL_drillEnd_14 : decode cL_drillEnd 14 = .ok (.ireturn, 1) := by decide +kernel
theorem dL_drillEnd_15 : decode cL_drillEnd 15 = .ok (.iconst 0, 1) := by decide +kernel
theorem dL_drillEnd_16 : decode cL_drillEnd 16 = .ok (.ireturn, 1) := by decide +kernel
theorem dL_drillBack_0 : decode cL_drillBack 0 = .ok (.aload_n 2, 1) := by decide +kernel
theorem dL_drillBack_1 : decode cL_drillBack 1 = .ok (.iconst 0, 1) := by decide +kernel
theorem dL_drillBack_2 : decode cL_drillBack 2 = .ok (.aload_n 0, 1) := by decide +kernel
theorem dL_drillBack_3 : decode cL_drillBack 3 = .ok (.iload_n 1, 1) := by decide +kernel
theorem dL_drillBack_4 : decode cL_drillBack 4 = .ok (.invokevirtual 63, 3) := by decide +kernel
theorem dL_drillBack_7 : decode cL_drillBack 7 = .ok (.i2l, 1) := by decide +kernel
theorem dL_drillBack_8 : decode cL_drillBack 8 = .ok (.lastore, 1) := by decide +kernel
theorem dL_drillBack_9 : decode cL_drillBack 9 = .ok (.goto 6, 3) := by decide +kernel
theorem dL_drillBack_12 : decode cL_drillBack 12 = .ok (.astore_n 3, 1) := by decide +kernel
theorem dL_drillBack_13 : decode cL_drillBack 13 = .ok (.iconst 1, 1) := by decide +kernel
theorem dL_drillBack_14 : decode cL_drillBack 14 = .ok (.ireturn, 1) := by decide +kernel
theorem dL_drillBack_15 : decode cL_drillBack 15 = .ok (.iconst 0, 1) := by decide +kernel
theorem dL_drillBack_16 : decode cL_drillBack 16 = .ok (.ireturn, 1) := by decide +kernel
theorem dL_violationCode_0 : decode cL_violationCode 0 = .ok (.aload_n 2, 1) := by decide +kernel
theorem dL_violationCode_1 : decode cL_violationCode 1 = .ok (.iconst 0, 1) := by decide +kernel
theorem dL_violationCode_2 : decode cL_violationCode 2 = .ok (.aload_n 0, 1) := by decide +kernel
theorem dL_violationCode_3 : decode cL_violationCode 3 = .ok (.iload_n 1, 1) := by decide +kernel
theorem dL_violationCode_4 : decode cL_violationCode 4 = .ok (.invokevirtual 66, 3) := by decide +kernel
theorem dL_violationCode_7 : decode cL_violationCode 7 = .ok (.i2l, 1) := by decide +kernel
theorem dL_violationCode_8 : decode cL_violationCode 8 = .ok (.lastore, 1) := by decide +kernel
theorem dL_violationCode_9 : decode cL_violationCode 9 = .ok (.goto 6, 3) := by decide +kernel
theorem dL_violationCode_12 : decode cL_violationCode 12 = .ok (.astore_n 3, 1) := by decide +kernel
theorem dL_violationCode_13 : decode cL_violationCode 13 = .ok (.iconst 1, 1) := by decide +kernel
theorem dL_violationCode_14 : decode cL_violationCode 14 = .ok (.ireturn, 1) := by decide +kernel
theorem dL_violationCode_15 : decode cL_violationCode 15 = .ok (.iconst 0, 1) := by decide +kernel
theorem dL_violationCode_16 : decode cL_violationCode 16 = .ok (.ireturn, 1) := by decide +kernel
theorem dL_violationSlot_0 : decode cL_violationSlot 0 = .ok (.aload_n 2, 1) := by decide +kernel
theorem dL_violationSlot_1 : decode cL_violationSlot 1 = .ok (.iconst 0, 1) := by decide +kernel
theorem dL_violationSlot_2 : decode cL_violationSlot 2 = .ok (.aload_n 0, 1) := by decide +kernel
theorem dL_violationSlot_3 : decode cL_violationSlot 3 = .ok (.iload_n 1, 1) := by decide +kernel
theorem dL_violationSlot_4 : decode cL_violationSlot 4 = .ok (.invokevirtual 69, 3) := by decide +kernel
theorem dL_violationSlot_7 : decode cL_violationSlot 7 = .ok (.i2l, 1) := by decide +kernel
theorem dL_violationSlot_8 : decode cL_violationSlot 8 = .ok (.lastore, 1) := by decide +kernel
theorem dL_violationSlot_9 : decode cL_violationSlot 9 = .ok (.goto 6, 3) := by decide +kernel
theorem dL_violationSlot_12 : decode cL_violationSlot 12 = .ok (.astore_n 3, 1) := by decide +kernel
theorem dL_violationSlot_13 : decode cL_violationSlot 13 = .ok (.iconst 1, 1) := by decide +kernel
theorem dL_violationSlot_14 : decode cL_violationSlot 14 = .ok (.ireturn, 1) := by decide +kernel
theorem dL_violationSlot_15 : decode cL_violationSlot 15 = .ok (.iconst 0, 1) := by decide +kernel
theorem dL_violationSlot_16 : decode cL_violationSlot 16 = .ok (.ireturn, 1) := by decide +kernel
theorem dL_violationSubject_0 : decode cL_violationSubject 0 = .ok (.aload_n 2, 1) := by decide +kernel
theorem dL_violationSubject_1 : decode cL_violationSubject 1 = .ok (.iconst 0, 1) := by decide +kernel
theorem dL_violationSubject_2 : decode cL_violationSubject 2 = .ok (.aload_n 0, 1) := by decide +kernel
theorem dL_violationSubject_3 : decode cL_violationSubject 3 = .ok (.iload_n 1, 1) := by decide +kernel
theorem dL_violationSubject_4 : decode cL_violationSubject 4 = .ok (.invokevirtual 72, 3) := by decide +kernel
theorem dL_violationSubject_7 : decode cL_violationSubject 7 = .ok (.i2l, 1) := by decide +kernel
theorem dL_violationSubject_8 : decode cL_violationSubject 8 = .ok (.lastore, 1) := by decide +kernel
theorem dL_violationSubject_9 : decode cL_violationSubject 9 = .ok (.goto 6, 3) := by decide +kernel
theorem dL_violationSubject_12 : decode cL_violationSubject 12 = .ok (.astore_n 3, 1) := by decide +kernel
theorem dL_violationSubject_13 : decode cL_violationSubject 13 = .ok (.iconst 1, 1) := by decide +kernel
theorem dL_violationSubject_14 : decode cL_violationSubject 14 = .ok (.ireturn, 1) := by decide +kernel
theorem dL_violationSubject_15 : decode cL_violationSubject 15 = .ok (.iconst 0, 1) := by decide +kernel
theorem dL_violationSubject_16 : decode cL_violationSubject 16 = .ok (.ireturn, 1) := by decide +kernel
theorem dL_availableAt_0 : decode cL_availableAt 0 = .ok (.aload_n 2, 1) := by decide +kernel
theorem dL_availableAt_1 : decode cL_availableAt 1 = .ok (.iconst 0, 1) := by decide +kernel
theorem dL_availableAt_2 : decode cL_availableAt 2 = .ok (.aload_n 0, 1) := by decide +kernel
theorem dL_availableAt_3 : decode cL_availableAt 3 = .ok (.iload_n 1, 1) := by decide +kernel
theorem dL_availableAt_4 : decode cL_availableAt 4 = .ok (.invokevirtual 75, 3) := by decide +kernel
theorem dL_availableAt_7 : decode cL_availableAt 7 = .ok (.i2l, 1) := by decide +kernel
theorem dL_availableAt_8 : decode cL_availableAt 8 = .ok (.lastore, 1) := by decide +kernel
theorem dL_availableAt_9 : decode cL_availableAt 9 = .ok (.goto 6, 3) := by decide +kernel
theorem dL_availableAt_12 : decode cL_availableAt 12 = .ok (.astore_n 3, 1) := by decide +kernel
theorem dL_availableAt_13 : decode cL_availableAt 13 = .ok (.iconst 1, 1) := by decide +kernel
theorem dL_availableAt_14 : decode cL_availableAt 14 = .ok (.ireturn, 1) := by decide +kernel
theorem dL_availableAt_15 : decode cL_availableAt 15 = .ok (.iconst 0, 1) := by decide +kernel
theorem dL_availableAt_16 : decode cL_availableAt 16 = .ok (.ireturn, 1) := by decide +kernel
theorem dL_uncoveredAt_0 : decode cL_uncoveredAt 0 = .ok (.aload_n 2, 1) := by decide +kernel
theorem dL_uncoveredAt_1 : decode cL_uncoveredAt 1 = .ok (.iconst 0, 1) := by decide +kernel
theorem dL_uncoveredAt_2 : decode cL_uncoveredAt 2 = .ok (.aload_n 0, 1) := by decide +kernel
theorem dL_uncoveredAt_3 : decode cL_uncoveredAt 3 = .ok (.iload_n 1, 1) := by decide +kernel
theorem dL_uncoveredAt_4 : decode cL_uncoveredAt 4 = .ok (.invokevirtual 78, 3) := by decide +kernel
theorem dL_uncoveredAt_7 : decode cL_uncoveredAt 7 = .ok (.i2l, 1) := by decide +kernel
theorem dL_uncoveredAt_8 : decode cL_uncoveredAt 8 = .ok (.lastore, 1) := by decide +kernel
theorem dL_uncoveredAt_9 : decode cL_uncoveredAt 9 = .ok (.goto 6, 3) := by decide +kernel
theorem dL_uncoveredAt_12 : decode cL_uncoveredAt 12 = .ok (.astore_n 3, 1) := by decide +kernel
theorem dL_uncoveredAt_13 : decode cL_uncoveredAt 13 = .ok (.iconst 1, 1) := by decide +kernel
theorem dL_uncoveredAt_14 : decode cL_uncoveredAt 14 = .ok (.ireturn, 1) := by decide +kernel
theorem dL_uncoveredAt_15 : decode cL_uncoveredAt 15 = .ok (.iconst 0, 1) := by decide +kernel
theorem dL_uncoveredAt_16 : decode cL_uncoveredAt 16 = .ok (.ireturn, 1) := by decide +kernel
theorem dL_dryHoses_0 : decode cL_dryHoses 0 = .ok (.aload_n 2, 1) := by decide +kernel
theorem dL_dryHoses_1 : decode cL_dryHoses 1 = .ok (.iconst 0, 1) := by decide +kernel
theorem dL_dryHoses_2 : decode cL_dryHoses 2 = .ok (.aload_n 0, 1) := by decide +kernel
theorem dL_dryHoses_3 : decode cL_dryHoses 3 = .ok (.iload_n 1, 1) := by decide +kernel
theorem dL_dryHoses_4 : decode cL_dryHoses 4 = .ok (.invokevirtual 81, 3) := by decide +kernel
theorem dL_dryHoses_7 : decode cL_dryHoses 7 = .ok (.i2l, 1) := by decide +kernel
theorem dL_dryHoses_8 : decode cL_dryHoses 8 = .ok (.lastore, 1) := by decide +kernel
theorem dL_dryHoses_9 : decode cL_dryHoses 9 = .ok (.goto 6, 3) := by decide +kernel
theorem dL_dryHoses_12 : decode cL_dryHoses 12 = .ok (.astore_n 3, 1) := by decide +kernel
theorem dL_dryHoses_13 : decode cL_dryHoses 13 = .ok (.iconst 1, 1) := by decide +kernel
theorem dL_dryHoses_14 : decode cL_dryHoses 14 = .ok (.ireturn, 1) := by decide +kernel
theorem dL_dryHoses_15 : decode cL_dryHoses 15 = .ok (.iconst 0, 1) := by decide +kernel
theorem dL_dryHoses_16 : decode cL_dryHoses 16 = .ok (.ireturn, 1) := by decide +kernel
theorem dL_wetHoses_0 : decode cL_wetHoses 0 = .ok (.aload_n 2, 1) := by decide +kernel
theorem dL_wetHoses_1 : decode cL_wetHoses 1 = .ok (.iconst 0, 1) := by decide +kernel
theorem dL_wetHoses_2 : decode cL_wetHoses 2 = .ok (.aload_n 0, 1) := by decide +kernel
theorem dL_wetHoses_3 : decode cL_wetHoses 3 = .ok (.iload_n 1, 1) := by decide +kernel
theorem dL_wetHoses_4 : decode cL_wetHoses 4 = .ok (.invokevirtual 84, 3) := by decide +kernel
theorem dL_wetHoses_7 : decode cL_wetHoses 7 = .ok (.i2l, 1) := by decide +kernel
theorem dL_wetHoses_8 : decode cL_wetHoses 8 = .ok (.lastore, 1) := by decide +kernel
theorem dL_wetHoses_9 : decode cL_wetHoses 9 = .ok (.goto 6, 3) := by decide +kernel
theorem dL_wetHoses_12 : decode cL_wetHoses 12 = .ok (.astore_n 3, 1) := by decide +kernel
theorem dL_wetHoses_13 : decode cL_wetHoses 13 = .ok (.iconst 1, 1) := by decide +kernel
theorem dL_wetHoses_14 : decode cL_wetHoses 14 = .ok (.ireturn, 1) := by decide +kernel
theorem dL_wetHoses_15 : decode cL_wetHoses 15 = .ok (.iconst 0, 1) := by decide +kernel
theorem dL_wetHoses_16 : decode cL_wetHoses 16 = .ok (.ireturn, 1) := by decide +kernel
theorem dL_dryingHoses_0 : decode cL_dryingHoses 0 = .ok (.aload_n 2, 1) := by decide +kernel
theorem dL_dryingHoses_1 : decode cL_dryingHoses 1 = .ok (.iconst 0, 1) := by decide +kernel
theorem dL_dryingHoses_2 : decode cL_dryingHoses 2 = .ok (.aload_n 0, 1) := by decide +kernel
theorem dL_dryingHoses_3 : decode cL_dryingHoses 3 = .ok (.iload_n 1, 1) := by decide +kernel
theorem dL_dryingHoses_4 : decode cL_dryingHoses 4 = .ok (.invokevirtual 87, 3) := by decide +kernel
theorem dL_dryingHoses_7 : decode cL_dryingHoses 7 = .ok (.i2l, 1) := by decide +kernel
theorem dL_dryingHoses_8 : decode cL_dryingHoses 8 = .ok (.lastore, 1) := by decide +kernel
theorem dL_dryingHoses_9 : decode cL_dryingHoses 9 = .ok (.goto 6, 3) := by decide +kernel
theorem dL_dryingHoses_12 : decode cL_dryingHoses 12 = .ok (.astore_n 3, 1) := by decide +kernel
theorem dL_dryingHoses_13 : decode cL_dryingHoses 13 = .ok (.iconst 1, 1) := by decide +kernel
theorem dL_dryingHoses_14 : decode cL_dryingHoses 14 = .ok (.ireturn, 1) := by decide +kernel
theorem dL_dryingHoses_15 : decode cL_dryingHoses 15 = .ok (.iconst 0, 1) := by decide +kernel
theorem dL_dryingHoses_16 : decode cL_dryingHoses 16 = .ok (.ireturn, 1) := by decide +kernel
theorem dL_awaySlots_0 : decode cL_awaySlots 0 = .ok (.aload_n 2, 1) := by decide +kernel
theorem dL_awaySlots_1 : decode cL_awaySlots 1 = .ok (.iconst 0, 1) := by decide +kernel
theorem dL_awaySlots_2 : decode cL_awaySlots 2 = .ok (.aload_n 0, 1) := by decide +kernel
theorem dL_awaySlots_3 : decode cL_awaySlots 3 = .ok (.iload_n 1, 1) := by decide +kernel
theorem dL_awaySlots_4 : decode cL_awaySlots 4 = .ok (.invokevirtual 90, 3) := by decide +kernel
theorem dL_awaySlots_7 : decode cL_awaySlots 7 = .ok (.i2l, 1) := by decide +kernel
theorem dL_awaySlots_8 : decode cL_awaySlots 8 = .ok (.lastore, 1) := by decide +kernel
theorem dL_awaySlots_9 : decode cL_awaySlots 9 = .ok (.goto 6, 3) := by decide +kernel
theorem dL_awaySlots_12 : decode cL_awaySlots 12 = .ok (.astore_n 3, 1) := by decide +kernel
theorem dL_awaySlots_13 : decode cL_awaySlots 13 = .ok (.iconst 1, 1) := by decide +kernel
theorem dL_awaySlots_14 : decode cL_awaySlots 14 = .ok (.ireturn, 1) := by decide +kernel
theorem dL_awaySlots_15 : decode cL_awaySlots 15 = .ok (.iconst 0, 1) := by decide +kernel
theorem dL_awaySlots_16 : decode cL_awaySlots 16 = .ok (.ireturn, 1) := by decide +kernel
theorem dL_earliestStart_0 : decode cL_earliestStart 0 = .ok (.aload_n 2, 1) := by decide +kernel
theorem dL_earliestStart_1 : decode cL_earliestStart 1 = .ok (.iconst 0, 1) := by decide +kernel
theorem dL_earliestStart_2 : decode cL_earliestStart 2 = .ok (.aload_n 0, 1) := by decide +kernel
theorem dL_earliestStart_3 : decode cL_earliestStart 3 = .ok (.iload_n 1, 1) := by decide +kernel
theorem dL_earliestStart_4 : decode cL_earliestStart 4 = .ok (.invokevirtual 93, 3) := by decide +kernel
theorem dL_earliestStart_7 : decode cL_earliestStart 7 = .ok (.i2l, 1) := by decide +kernel
theorem dL_earliestStart_8 : decode cL_earliestStart 8 = .ok (.lastore, 1) := by decide +kernel
theorem dL_earliestStart_9 : decode cL_earliestStart 9 = .ok (.goto 6, 3) := by decide +kernel
theorem dL_earliestStart_12 : decode cL_earliestStart 12 = .ok (.astore_n 3, 1) := by decide +kernel
theorem dL_earliestStart_13 : decode cL_earliestStart 13 = .ok (.iconst 1, 1) := by decide +kernel
theorem dL_earliestStart_14 : decode cL_earliestStart 14 = .ok (.ireturn, 1) := by decide +kernel
theorem dL_earliestStart_15 : decode cL_earliestStart 15 = .ok (.iconst 0, 1) := by decide +kernel
theorem dL_earliestStart_16 : decode cL_earliestStart 16 = .ok (.ireturn, 1) := by decide +kernel
theorem dL_schedule_0 : decode cL_schedule 0 = .ok (.aload_n 2, 1) := by decide +kernel
theorem dL_schedule_1 : decode cL_schedule 1 = .ok (.iconst 0, 1) := by decide +kernel
theorem dL_schedule_2 : decode cL_schedule 2 = .ok (.aload_n 0, 1) := by decide +kernel
theorem dL_schedule_3 : decode cL_schedule 3 = .ok (.iload_n 1, 1) := by decide +kernel
theorem dL_schedule_4 : decode cL_schedule 4 = .ok (.invokevirtual 96, 3) := by decide +kernel
theorem dL_schedule_7 : decode cL_schedule 7 = .ok (.i2l, 1) := by decide +kernel
theorem dL_schedule_8 : decode cL_schedule 8 = .ok (.lastore, 1) := by decide +kernel
theorem dL_schedule_9 : decode cL_schedule 9 = .ok (.goto 6, 3) := by decide +kernel
theorem dL_schedule_12 : decode cL_schedule 12 = .ok (.astore_n 3, 1) := by decide +kernel
theorem dL_schedule_13 : decode cL_schedule 13 = .ok (.iconst 1, 1) := by decide +kernel
theorem dL_schedule_14 : decode cL_schedule 14 = .ok (.ireturn, 1) := by decide +kernel
theorem dL_schedule_15 : decode cL_schedule 15 = .ok (.iconst 0, 1) := by decide +kernel
theorem dL_schedule_16 : decode cL_schedule 16 = .ok (.ireturn, 1) := by decide +kernel
theorem dL_bestFinishWithout_0 : decode cL_bestFinishWithout 0 = .ok (.aload_n 2, 1) := by decide +kernel
theorem dL_bestFinishWithout_1 : decode cL_bestFinishWithout 1 = .ok (.iconst 0, 1) := by decide +kernel
theorem dL_bestFinishWithout_2 : decode cL_bestFinishWithout 2 = .ok (.aload_n 0, 1) := by decide +kernel
theorem dL_bestFinishWithout_3 : decode cL_bestFinishWithout 3 = .ok (.iload_n 1, 1) := by decide +kernel
theorem dL_bestFinishWithout_4 : decode cL_bestFinishWithout 4 = .ok (.invokevirtual 99, 3) := by decide +kernel
theorem dL_bestFinishWithout_7 : decode cL_bestFinishWithout 7 = .ok (.i2l, 1) := by decide +kernel
theorem dL_bestFinishWithout_8 : decode cL_bestFinishWithout 8 = .ok (.lastore, 1) := by decide +kernel
theorem dL_bestFinishWithout_9 : decode cL_bestFinishWithout 9 = .ok (.goto 6, 3) := by decide +kernel
theorem dL_bestFinishWithout_12 : decode cL_bestFinishWithout 12 = .ok (.astore_n 3, 1) := by decide +kernel
theorem dL_bestFinishWithout_13 : decode cL_bestFinishWithout 13 = .ok (.iconst 1, 1) := by decide +kernel
theorem dL_bestFinishWithout_14 : decode cL_bestFinishWithout 14 = .ok (.ireturn, 1) := by decide +kernel
theorem dL_bestFinishWithout_15 : decode cL_bestFinishWithout 15 = .ok (.iconst 0, 1) := by decide +kernel
theorem dL_bestFinishWithout_16 : decode cL_bestFinishWithout 16 = .ok (.ireturn, 1) := by decide +kernel
theorem dL_bestFinishWith_0 : decode cL_bestFinishWith 0 = .ok (.aload_n 3, 1) := by decide +kernel
theorem dL_bestFinishWith_1 : decode cL_bestFinishWith 1 = .ok (.iconst 0, 1) := by decide +kernel
theorem dL_bestFinishWith_2 : decode cL_bestFinishWith 2 = .ok (.aload_n 0, 1) := by decide +kernel
theorem dL_bestFinishWith_3 : decode cL_bestFinishWith 3 = .ok (.iload_n 1, 1) := by decide +kernel
theorem dL_bestFinishWith_4 : decode cL_bestFinishWith 4 = .ok (.iload_n 2, 1) := by decide +kernel
theorem dL_bestFinishWith_5 : decode cL_bestFinishWith 5 = .ok (.invokevirtual 102, 3) := by decide +kernel
theorem dL_bestFinishWith_8 : decode cL_bestFinishWith 8 = .ok (.i2l, 1) := by decide +kernel
theorem dL_bestFinishWith_9 : decode cL_bestFinishWith 9 = .ok (.lastore, 1) := by decide +kernel
theorem dL_bestFinishWith_10 : decode cL_bestFinishWith 10 = .ok (.goto 7, 3) := by decide +kernel
theorem dL_bestFinishWith_13 : decode cL_bestFinishWith 13 = .ok (.astore 4, 2) := by decide +kernel
theorem dL_bestFinishWith_15 : decode cL_bestFinishWith 15 = .ok (.iconst 1, 1) := by decide +kernel
theorem dL_bestFinishWith_16 : decode cL_bestFinishWith 16 = .ok (.ireturn, 1) := by decide +kernel
theorem dL_bestFinishWith_17 : decode cL_bestFinishWith 17 = .ok (.iconst 0, 1) := by decide +kernel
theorem dL_bestFinishWith_18 : decode cL_bestFinishWith 18 = .ok (.ireturn, 1) := by decide +kernel
theorem dL_law_0 : decode cL_law 0 = .ok (.new 8, 3) := by decide +kernel
theorem dL_law_3 : decode cL_law 3 = .ok (.dup, 1) := by decide +kernel
theorem dL_law_4 : decode cL_law 4 = .ok (.invokespecial 105, 3) := by decide +kernel
theorem dL_law_7 : decode cL_law 7 = .ok (.astore_n 1, 1) := by decide +kernel
theorem dL_law_8 : decode cL_law 8 = .ok (.new 106, 3) := by decide +kernel
theorem dL_law_11 : decode cL_law 11 = .ok (.dup, 1) := by decide +kernel
theorem dL_law_12 : decode cL_law 12 = .ok (.invokespecial 108, 3) := by decide +kernel
theorem dL_law_15 : decode cL_law 15 = .ok (.astore_n 2, 1) := by decide +kernel
theorem dL_law_16 : decode cL_law 16 = .ok (.iconst 1, 1) := by decide +kernel
theorem dL_law_17 : decode cL_law 17 = .ok (.newarray .long, 2) := by decide +kernel
theorem dL_law_19 : decode cL_law 19 = .ok (.astore_n 3, 1) := by decide +kernel
theorem dL_law_20 : decode cL_law 20 = .ok (.iconst 0, 1) := by decide +kernel
theorem dL_law_21 : decode cL_law 21 = .ok (.istore 4, 2) := by decide +kernel
theorem dL_law_23 : decode cL_law 23 = .ok (.iload 4, 2) := by decide +kernel
theorem dL_law_25 : decode cL_law 25 = .ok (.aload_n 0, 1) := by decide +kernel
theorem dL_law_26 : decode cL_law 26 = .ok (.arraylength, 1) := by decide +kernel
theorem dL_law_27 : decode cL_law 27 = .ok (.bipush 6, 2) := by decide +kernel
theorem dL_law_29 : decode cL_law 29 = .ok (.isub, 1) := by decide +kernel
theorem dL_law_30 : decode cL_law 30 = .ok (.if_icmp .gt 2362, 3) := by decide +kernel
theorem dL_law_33 : decode cL_law 33 = .ok (.aload_n 0, 1) := by decide +kernel
theorem dL_law_34 : decode cL_law 34 = .ok (.iload 4, 2) := by decide +kernel
theorem dL_law_36 : decode cL_law 36 = .ok (.iaload, 1) := by decide +kernel
theorem dL_law_37 : decode cL_law 37 = .ok (.bipush 63, 2) := by decide +kernel
theorem dL_law_39 : decode cL_law 39 = .ok (.iand, 1) := by decide +kernel
theorem dL_law_40 : decode cL_law 40 = .ok (.tableswitch 2346 0 51 #[224, 297, 322, 335, 348, 361, 374, 387, 400, 413, 426, 439, 507, 575, 631, 687, 755, 811, 867, 935, 1003, 1059, 1072, 1085, 1153, 1209, 1222, 1235, 1291, 1347, 1403, 1459, 1515, 1528, 1584, 1640, 1696, 1752, 1808, 1864, 1920, 1976, 2032, 2045, 2058, 2114, 2127, 2183, 2196, 2209, 2265, 2333], 224) := by decide +kernel
theorem dL_law_264 : decode cL_law 264 = .ok (.aload_n 1, 1) := by decide +kernel
theorem dL_law_265 : decode cL_law 265 = .ok (.aload_n 0, 1) := by decide +kernel
theorem dL_law_266 : decode cL_law 266 = .ok (.iload 4, 2) := by decide +kernel
theorem dL_law_268 : decode cL_law 268 = .ok (.iconst 1, 1) := by decide +kernel
theorem dL_law_269 : decode cL_law 269 = .ok (.iadd, 1) := by decide +kernel
theorem dL_law_270 : decode cL_law 270 = .ok (.iaload, 1) := by decide +kernel
theorem dL_law_271 : decode cL_law 271 = .ok (.aload_n 0, 1) := by decide +kernel
theorem dL_law_272 : decode cL_law 272 = .ok (.iload 4, 2) := by decide +kernel
theorem dL_law_274 : decode cL_law 274 = .ok (.iconst 2, 1) := by decide +kernel
theorem dL_law_275 : decode cL_law 275 = .ok (.iadd, 1) := by decide +kernel
theorem dL_law_276 : decode cL_law 276 = .ok (.iaload, 1) := by decide +kernel
theorem dL_law_277 : decode cL_law 277 = .ok (.aload_n 0, 1) := by decide +kernel
theorem dL_law_278 : decode cL_law 278 = .ok (.iload 4, 2) := by decide +kernel
theorem dL_law_280 : decode cL_law 280 = .ok (.iconst 3, 1) := by decide +kernel
theorem dL_law_281 : decode cL_law 281 = .ok (.iadd, 1) := by decide +kernel
theorem dL_law_282 : decode cL_law 282 = .ok (.iaload, 1) := by decide +kernel
theorem dL_law_283 : decode cL_law 283 = .ok (.aload_n 0, 1) := by decide +kernel
theorem dL_law_284 : decode cL_law 284 = .ok (.iload 4, 2) := by decide +kernel
theorem dL_law_286 : decode cL_law 286 = .ok (.iconst 4, 1) := by decide +kernel
theorem dL_law_287 : decode cL_law 287 = .ok (.iadd, 1) := by decide +kernel
theorem dL_law_288 : decode cL_law 288 = .ok (.iaload, 1) := by decide +kernel
theorem dL_law_289 : decode cL_law 289 = .ok (.aload_n 0, 1) := by decide +kernel
theorem dL_law_290 : decode cL_law 290 = .ok (.iload 4, 2) := by decide +kernel
theorem dL_law_292 : decode cL_law 292 = .ok (.iconst 5, 1) := by decide +kernel
theorem dL_law_293 : decode cL_law 293 = .ok (.iadd, 1) := by decide +kernel
theorem dL_law_294 : decode cL_law 294 = .ok (.iaload, 1) := by decide +kernel
theorem dL_law_295 : decode cL_law 295 = .ok (.invokevirtual 109, 3) := by decide +kernel
theorem dL_law_298 : decode cL_law 298 = .ok (.aload_n 2, 1) := by decide +kernel
theorem dL_law_299 : decode cL_law 299 = .ok (.aload_n 0, 1) := by decide +kernel
theorem dL_law_300 : decode cL_law 300 = .ok (.iload 4, 2) := by decide +kernel
theorem dL_law_302 : decode cL_law 302 = .ok (.iconst 1, 1) := by decide +kernel
theorem dL_law_303 : decode cL_law 303 = .ok (.iadd, 1) := by decide +kernel
theorem dL_law_304 : decode cL_law 304 = .ok (.iaload, 1) := by decide +kernel
theorem dL_law_305 : decode cL_law 305 = .ok (.aload_n 0, 1) := by decide +kernel
theorem dL_law_306 : decode cL_law 306 = .ok (.iload 4, 2) := by decide +kernel
theorem dL_law_308 : decode cL_law 308 = .ok (.iconst 2, 1) := by decide +kernel
theorem dL_law_309 : decode cL_law 309 = .ok (.iadd, 1) := by decide +kernel
theorem dL_law_310 : decode cL_law 310 = .ok (.iaload, 1) := by decide +kernel
theorem dL_law_311 : decode cL_law 311 = .ok (.aload_n 0, 1) := by decide +kernel
theorem dL_law_312 : decode cL_law 312 = .ok (.iload 4, 2) := by decide +kernel
theorem dL_law_314 : decode cL_law 314 = .ok (.iconst 3, 1) := by decide +kernel
theorem dL_law_315 : decode cL_law 315 = .ok (.iadd, 1) := by decide +kernel
theorem dL_law_316 : decode cL_law 316 = .ok (.iaload, 1) := by decide +kernel
theorem dL_law_317 : decode cL_law 317 = .ok (.aload_n 0, 1) := by decide +kernel
theorem dL_law_318 : decode cL_law 318 = .ok (.iload 4, 2) := by decide +kernel
theorem dL_law_320 : decode cL_law 320 = .ok (.iconst 4, 1) := by decide +kernel
theorem dL_law_321 : decode cL_law 321 = .ok (.iadd, 1) := by decide +kernel
theorem dL_law_322 : decode cL_law 322 = .ok (.iaload, 1) := by decide +kernel
theorem dL_law_323 : decode cL_law 323 = .ok (.aload_n 0, 1) := by decide +kernel
theorem dL_law_324 : decode cL_law 324 = .ok (.iload 4, 2) := by decide +kernel
theorem dL_law_326 : decode cL_law 326 = .ok (.iconst 5, 1) := by decide +kernel
theorem dL_law_327 : decode cL_law 327 = .ok (.iadd, 1) := by decide +kernel
theorem dL_law_328 : decode cL_law 328 = .ok (.iaload, 1) := by decide +kernel
theorem dL_law_329 : decode cL_law 329 = .ok (.invokevirtual 113, 3) := by decide +kernel
theorem dL_law_332 : decode cL_law 332 = .ok (.if_icmp .eq 2054, 3) := by decide +kernel
theorem dL_law_335 : decode cL_law 335 = .ok (.iconst 0, 1) := by decide +kernel
theorem dL_law_336 : decode cL_law 336 = .ok (.ireturn, 1) := by decide +kernel
theorem dL_law_337 : decode cL_law 337 = .ok (.aload_n 1, 1) := by decide +kernel
theorem dL_law_338 : decode cL_law 338 = .ok (.aload_n 0, 1) := by decide +kernel
theorem dL_law_339 : decode cL_law 339 = .ok (.iload 4, 2) := by decide +kernel
theorem dL_law_341 : decode cL_law 341 = .ok (.iconst 1, 1) := by decide +kernel
theorem dL_law_342 : decode cL_law 342 = .ok (.iadd, 1) := by decide +kernel
theorem dL_law_343 : decode cL_law 343 = .ok (.iaload, 1) := by decide +kernel
theorem dL_law_344 : decode cL_law 344 = .ok (.invokevirtual 114, 3) := by decide +kernel
theorem dL_law_347 : decode cL_law 347 = .ok (.aload_n 2, 1) := by decide +kernel
theorem dL_law_348 : decode cL_law 348 = .ok (.aload_n 0, 1) := by decide +kernel
theorem dL_law_349 : decode cL_law 349 = .ok (.iload 4, 2) := by decide +kernel
theorem dL_law_351 : decode cL_law 351 = .ok (.iconst 1, 1) := by decide +kernel
theorem dL_law_352 : decode cL_law 352 = .ok (.iadd, 1) := by decide +kernel
theorem dL_law_353 : decode cL_law 353 = .ok (.iaload, 1) := by decide +kernel
theorem dL_law_354 : decode cL_law 354 = .ok (.invokevirtual 118, 3) := by decide +kernel
theorem dL_law_357 : decode cL_law 357 = .ok (.if_icmp .eq 2029, 3) := by decide +kernel
theorem dL_law_360 : decode cL_law 360 = .ok (.iconst 0, 1) := by decide +kernel
theorem dL_law_361 : decode cL_law 361 = .ok (.ireturn, 1) := by decide +kernel
theorem dL_law_362 : decode cL_law 362 = .ok (.aload_n 1, 1) := by decide +kernel
theorem dL_law_363 : decode cL_law 363 = .ok (.invokevirtual 119, 3) := by decide +kernel
theorem dL_law_366 : decode cL_law 366 = .ok (.aload_n 2, 1) := by decide +kernel
theorem dL_law_367 : decode cL_law 367 = .ok (.invokevirtual 123, 3) := by decide +kernel
theorem dL_law_370 : decode cL_law 370 = .ok (.if_icmp .eq 2016, 3) := by decide +kernel
theorem dL_law_373 : decode cL_law 373 = .ok (.iconst 0, 1) := by decide +kernel
theorem dL_law_374 : decode cL_law 374 = .ok (.ireturn, 1) := by decide +kernel
theorem dL_law_375 : decode cL_law 375 = .ok (.aload_n 1, 1) := by decide +kernel
theorem dL_law_376 : decode cL_law 376 = .ok (.invokevirtual 124, 3) := by decide +kernel
theorem dL_law_379 : decode cL_law 379 = .ok (.aload_n 2, 1) := by decide +kernel
theorem dL_law_380 : decode cL_law 380 = .ok (.invokevirtual 127, 3) := by decide +kernel
theorem dL_law_383 : decode cL_law 383 = .ok (.if_icmp .eq 2003, 3) := by decide +kernel
theorem dL_law_386 : decode cL_law 386 = .ok (.iconst 0, 1) := by decide +kernel
theorem dL_law_387 : decode cL_law 387 = .ok (.ireturn, 1) := by decide +kernel
theorem dL_law_388 : decode cL_law 388 = .ok (.aload_n 1, 1) := by decide +kernel
theorem dL_law_389 : decode cL_law 389 = .ok (.invokevirtual 128, 3) := by decide +kernel
theorem dL_law_392 : decode cL_law 392 = .ok (.aload_n 2, 1) := by decide +kernel
theorem dL_law_393 : decode cL_law 393 = .ok (.invokevirtual 131, 3) := by decide +kernel
theorem dL_law_396 : decode cL_law 396 = .ok (.if_icmp .eq 1990, 3) := by decide +kernel
theorem dL_law_399 : decode cL_law 399 = .ok (.iconst 0, 1) := by decide +kernel
theorem dL_law_400 : decode cL_law 400 = .ok (.ireturn, 1) := by decide +kernel
theorem dL_law_401 : decode cL_law 401 = .ok (.aload_n 1, 1) := by decide +kernel
theorem dL_law_402 : decode cL_law 402 = .ok (.invokevirtual 132, 3) := by decide +kernel
theorem dL_law_405 : decode cL_law 405 = .ok (.aload_n 2, 1) := by decide +kernel
theorem dL_law_406 : decode cL_law 406 = .ok (.invokevirtual 135, 3) := by decide +kernel
theorem dL_law_409 : decode cL_law 409 = .ok (.if_icmp .eq 1977, 3) := by decide +kernel
theorem dL_law_412 : decode cL_law 412 = .ok (.iconst 0, 1) := by decide +kernel
theorem dL_law_413 : decode cL_law 413 = .ok (.ireturn, 1) := by decide +kernel
theorem dL_law_414 : decode cL_law 414 = .ok (.aload_n 1, 1) := by decide +kernel
theorem dL_law_415 : decode cL_law 415 = .ok (.invokevirtual 136, 3) := by decide +kernel
theorem dL_law_418 : decode cL_law 418 = .ok (.aload_n 2, 1) := by decide +kernel
theorem dL_law_419 : decode cL_law 419 = .ok (.invokevirtual 139, 3) := by decide +kernel
theorem dL_law_422 : decode cL_law 422 = .ok (.if_icmp .eq 1964, 3) := by decide +kernel
theorem dL_law_425 : decode cL_law 425 = .ok (.iconst 0, 1) := by decide +kernel
theorem dL_law_426 : decode cL_law 426 = .ok (.ireturn, 1) := by decide +kernel
theorem dL_law_427 : decode cL_law 427 = .ok (.aload_n 1, 1) := by decide +kernel
theorem dL_law_428 : decode cL_law 428 = .ok (.invokevirtual 140, 3) := by decide +kernel
theorem dL_law_431 : decode cL_law 431 = .ok (.aload_n 2, 1) := by decide +kernel
theorem dL_law_432 : decode cL_law 432 = .ok (.invokevirtual 143, 3) := by decide +kernel
theorem dL_law_435 : decode cL_law 435 = .ok (.if_icmp .eq 1951, 3) := by decide +kernel
theorem dL_law_438 : decode cL_law 438 = .ok (.iconst 0, 1) := by decide +kernel
theorem dL_law_439 : decode cL_law 439 = .ok (.ireturn, 1) := by decide +kernel
theorem dL_law_440 : decode cL_law 440 = .ok (.aload_n 1, 1) := by decide +kernel
theorem dL_law_441 : decode cL_law 441 = .ok (.invokevirtual 144, 3) := by decide +kernel
theorem dL_law_444 : decode cL_law 444 = .ok (.aload_n 2, 1) := by decide +kernel
theorem dL_law_445 : decode cL_law 445 = .ok (.invokevirtual 147, 3) := by decide +kernel
theorem dL_law_448 : decode cL_law 448 = .ok (.if_icmp .eq 1938, 3) := by decide +kernel
theorem dL_law_451 : decode cL_law 451 = .ok (.iconst 0, 1) := by decide +kernel
theorem dL_law_452 : decode cL_law 452 = .ok (.ireturn, 1) := by decide +kernel
theorem dL_law_453 : decode cL_law 453 = .ok (.aload_n 1, 1) := by decide +kernel
theorem dL_law_454 : decode cL_law 454 = .ok (.invokevirtual 148, 3) := by decide +kernel
theorem dL_law_457 : decode cL_law 457 = .ok (.aload_n 2, 1) := by decide +kernel
theorem dL_law_458 : decode cL_law 458 = .ok (.invokevirtual 151, 3) := by decide +kernel
theorem dL_law_461 : decode cL_law 461 = .ok (.if_icmp .eq 1925, 3) := by decide +kernel
theorem dL_law_464 : decode cL_law 464 = .ok (.iconst 0, 1) := by decide +kernel
theorem dL_law_465 : decode cL_law 465 = .ok (.ireturn, 1) := by decide +kernel
theorem dL_law_466 : decode cL_law 466 = .ok (.aload_n 1, 1) := by decide +kernel
theorem dL_law_467 : decode cL_law 467 = .ok (.invokevirtual 152, 3) := by decide +kernel
theorem dL_law_470 : decode cL_law 470 = .ok (.aload_n 2, 1) := by decide +kernel
theorem dL_law_471 : decode cL_law 471 = .ok (.invokevirtual 155, 3) := by decide +kernel
theorem dL_law_474 : decode cL_law 474 = .ok (.if_icmp .eq 1912, 3) := by decide +kernel
theorem dL_law_477 : decode cL_law 477 = .ok (.iconst 0, 1) := by decide +kernel
theorem dL_law_478 : decode cL_law 478 = .ok (.ireturn, 1) := by decide +kernel
theorem dL_law_479 : decode cL_law 479 = .ok (.aload_n 1, 1) := by decide +kernel
theorem dL_law_480 : decode cL_law 480 = .ok (.aload_n 0, 1) := by decide +kernel
theorem dL_law_481 : decode cL_law 481 = .ok (.iload 4, 2) := by decide +kernel
theorem dL_law_483 : decode cL_law 483 = .ok (.iconst 1, 1) := by decide +kernel
theorem dL_law_484 : decode cL_law 484 = .ok (.iadd, 1) := by decide +kernel
theorem dL_law_485 : decode cL_law 485 = .ok (.iaload, 1) := by decide +kernel
theorem dL_law_486 : decode cL_law 486 = .ok (.aload_n 0, 1) := by decide +kernel
theorem dL_law_487 : decode cL_law 487 = .ok (.iload 4, 2) := by decide +kernel
theorem dL_law_489 : decode cL_law 489 = .ok (.iconst 2, 1) := by decide +kernel
theorem dL_law_490 : decode cL_law 490 = .ok (.iadd, 1) := by decide +kernel
theorem dL_law_491 : decode cL_law 491 = .ok (.iaload, 1) := by decide +kernel
theorem dL_law_492 : decode cL_law 492 = .ok (.aload_n 3, 1) := by decide +kernel
theorem dL_law_493 : decode cL_law 493 = .ok (.invokestatic 156, 3) := by decide +kernel
theorem dL_law_496 : decode cL_law 496 = .ok (.istore 5, 2) := by decide +kernel
theorem dL_law_498 : decode cL_law 498 = .ok (.aload_n 2, 1) := by decide +kernel
theorem dL_law_499 : decode cL_law 499 = .ok (.aload_n 0, 1) := by decide +kernel
theorem dL_law_500 : decode cL_law 500 = .ok (.iload 4, 2) := by decide +kernel
theorem dL_law_502 : decode cL_law 502 = .ok (.iconst 1, 1) := by decide +kernel
theorem dL_law_503 : decode cL_law 503 = .ok (.iadd, 1) := by decide +kernel
theorem dL_law_504 : decode cL_law 504 = .ok (.iaload, 1) := by decide +kernel
theorem dL_law_505 : decode cL_law 505 = .ok (.aload_n 0, 1) := by decide +kernel
theorem dL_law_506 : decode cL_law 506 = .ok (.iload 4, 2) := by decide +kernel
theorem dL_law_508 : decode cL_law 508 = .ok (.iconst 2, 1) := by decide +kernel
theorem dL_law_509 : decode cL_law 509 = .ok (.iadd, 1) := by decide +kernel
theorem dL_law_510 : decode cL_law 510 = .ok (.iaload, 1) := by decide +kernel
theorem dL_law_511 : decode cL_law 511 = .ok (.invokevirtual 161, 3) := by decide +kernel
theorem dL_law_514 : decode cL_law 514 = .ok (.istore 6, 2) := by decide +kernel
theorem dL_law_516 : decode cL_law 516 = .ok (.aload_n 2, 1) := by decide +kernel
theorem dL_law_517 : decode cL_law 517 = .ok (.invokevirtual 162, 3) := by decide +kernel
theorem dL_law_520 : decode cL_law 520 = .ok (.iload 5, 2) := by decide +kernel
theorem dL_law_522 : decode cL_law 522 = .ok (.if_icmp .eq 5, 3) := by decide +kernel
theorem dL_law_525 : decode cL_law 525 = .ok (.iconst 0, 1) := by decide +kernel
theorem dL_law_526 : decode cL_law 526 = .ok (.ireturn, 1) := by decide +kernel
theorem dL_law_527 : decode cL_law 527 = .ok (.iload 5, 2) := by decide +kernel
theorem dL_law_529 : decode cL_law 529 = .ok (.ifCond .ne 15, 3) := by decide +kernel
theorem dL_law_532 : decode cL_law 532 = .ok (.aload_n 3, 1) := by decide +kernel
theorem dL_law_533 : decode cL_law 533 = .ok (.iconst 0, 1) := by decide +kernel
theorem dL_law_534 : decode cL_law 534 = .ok (.laload, 1) := by decide +kernel
theorem dL_law_535 : decode cL_law 535 = .ok (.iload 6, 2) := by decide +kernel
theorem dL_law_537 : decode cL_law 537 = .ok (.i2l, 1) := by decide +kernel
theorem dL_law_538 : decode cL_law 538 = .ok (.lcmp, 1) := by decide +kernel
theorem dL_law_539 : decode cL_law 539 = .ok (.ifCond .eq 5, 3) := by decide +kernel
theorem dL_law_542 : decode cL_law 542 = .ok (.iconst 0, 1) := by decide +kernel
theorem dL_law_543 : decode cL_law 543 = .ok (.ireturn, 1) := by decide +kernel
theorem dL_law_544 : decode cL_law 544 = .ok (.goto 1842, 3) := by decide +kernel
theorem dL_law_547 : decode cL_law 547 = .ok (.aload_n 1, 1) := by decide +kernel
theorem dL_law_548 : decode cL_law 548 = .ok (.aload_n 0, 1) := by decide +kernel
theorem dL_law_549 : decode cL_law 549 = .ok (.iload 4, 2) := by decide +kernel
theorem dL_law_551 : decode cL_law 551 = .ok (.iconst 1, 1) := by decide +kernel
theorem dL_law_552 : decode cL_law 552 = .ok (.iadd, 1) := by decide +kernel
theorem dL_law_553 : decode cL_law 553 = .ok (.iaload, 1) := by decide +kernel
theorem dL_law_554 : decode cL_law 554 = .ok (.aload_n 0, 1) := by decide +kernel
theorem dL_law_555 : decode cL_law 555 = .ok (.iload 4, 2) := by decide +kernel
theorem dL_law_557 : decode cL_law 557 = .ok (.iconst 2, 1) := by decide +kernel
theorem dL_law_558 : decode cL_law 558 = .ok (.iadd, 1) := by decide +kernel
theorem dL_law_559 : decode cL_law 559 = .ok (.iaload, 1) := by decide +kernel
theorem dL_law_560 : decode cL_law 560 = .ok (.aload_n 3, 1) := by decide +kernel
theorem dL_law_561 : decode cL_law 561 = .ok (.invokestatic 165, 3) := by decide +kernel
theorem dL_law_564 : decode cL_law 564 = .ok (.istore 5, 2) := by decide +kernel
theorem dL_law_566 : decode cL_law 566 = .ok (.aload_n 2, 1) := by decide +kernel
theorem dL_law_567 : decode cL_law 567 = .ok (.aload_n 0, 1) := by decide +kernel
theorem dL_law_568 : decode cL_law 568 = .ok (.iload 4, 2) := by decide +kernel
theorem dL_law_570 : decode cL_law 570 = .ok (.iconst 1, 1) := by decide +kernel
theorem dL_law_571 : decode cL_law 571 = .ok (.iadd, 1) := by decide +kernel
theorem dL_law_572 : decode cL_law 572 = .ok (.iaload, 1) := by decide +kernel
theorem dL_law_573 : decode cL_law 573 = .ok (.aload_n 0, 1) := by decide +kernel
theorem dL_law_574 : decode cL_law 574 = .ok (.iload 4, 2) := by decide +kernel
theorem dL_law_576 : decode cL_law 576 = .ok (.iconst 2, 1) := by decide +kernel
theorem dL_law_577 : decode cL_law 577 = .ok (.iadd, 1) := by decide +kernel
theorem dL_law_578 : decode cL_law 578 = .ok (.iaload, 1) := by decide +kernel
theorem dL_law_579 : decode cL_law 579 = .ok (.invokevirtual 167, 3) := by decide +kernel
theorem dL_law_582 : decode cL_law 582 = .ok (.istore 6, 2) := by decide +kernel
theorem dL_law_584 : decode cL_law 584 = .ok (.aload_n 2, 1) := by decide +kernel
theorem dL_law_585 : decode cL_law 585 = .ok (.invokevirtual 162, 3) := by decide +kernel
theorem dL_law_588 : decode cL_law 588 = .ok (.iload 5, 2) := by decide +kernel
theorem dL_law_590 : decode cL_law 590 = .ok (.if_icmp .eq 5, 3) := by decide +kernel
theorem dL_law_593 : decode cL_law 593 = .ok (.iconst 0, 1) := by decide +kernel
theorem dL_law_594 : decode cL_law 594 = .ok (.ireturn, 1) := by decide +kernel
theorem dL_law_595 : decode cL_law 595 = .ok (.iload 5, 2) := by decide +kernel
theorem dL_law_597 : decode cL_law 597 = .ok (.ifCond .ne 15, 3) := by decide +kernel
theorem dL_law_600 : decode cL_law 600 = .ok (.aload_n 3, 1) := by decide +kernel
theorem dL_law_601 : decode cL_law 601 = .ok (.iconst 0, 1) := by decide +kernel
theorem dL_law_602 : decode cL_law 602 = .ok (.laload, 1) := by decide +kernel
theorem dL_law_603 : decode cL_law 603 = .ok (.iload 6, 2) := by decide +kernel
theorem dL_law_605 : decode cL_law 605 = .ok (.i2l, 1) := by decide +kernel
theorem dL_law_606 : decode cL_law 606 = .ok (.lcmp, 1) := by decide +kernel
theorem dL_law_607 : decode cL_law 607 = .ok (.ifCond .eq 5, 3) := by decide +kernel
theorem dL_law_610 : decode cL_law 610 = .ok (.iconst 0, 1) := by decide +kernel
theorem dL_law_611 : decode cL_law 611 = .ok (.ireturn, 1) := by decide +kernel
theorem dL_law_612 : decode cL_law 612 = .ok (.goto 1774, 3) := by decide +kernel
theorem dL_law_615 : decode cL_law 615 = .ok (.aload_n 1, 1) := by decide +kernel
theorem dL_law_616 : decode cL_law 616 = .ok (.aload_n 0, 1) := by decide +kernel
theorem dL_law_617 : decode cL_law 617 = .ok (.iload 4, 2) := by decide +kernel
theorem dL_law_619 : decode cL_law 619 = .ok (.iconst 1, 1) := by decide +kernel
theorem dL_law_620 : decode cL_law 620 = .ok (.iadd, 1) := by decide +kernel
theorem dL_law_621 : decode cL_law 621 = .ok (.iaload, 1) := by decide +kernel
theorem dL_law_622 : decode cL_law 622 = .ok (.aload_n 3, 1) := by decide +kernel
theorem dL_law_623 : decode cL_law 623 = .ok (.invokestatic 168, 3) := by decide +kernel
theorem dL_law_626 : decode cL_law 626 = .ok (.istore 5, 2) := by decide +kernel
theorem dL_law_628 : decode cL_law 628 = .ok (.aload_n 2, 1) := by decide +kernel
theorem dL_law_629 : decode cL_law 629 = .ok (.aload_n 0, 1) := by decide +kernel
theorem dL_law_630 : decode cL_law 630 = .ok (.iload 4, 2) := by decide +kernel
theorem dL_law_632 : decode cL_law 632 = .ok (.iconst 1, 1) := by decide +kernel
theorem dL_law_633 : decode cL_law 633 = .ok (.iadd, 1) := by decide +kernel
theorem dL_law_634 : decode cL_law 634 = .ok (.iaload, 1) := by decide +kernel
theorem dL_law_635 : decode cL_law 635 = .ok (.invokevirtual 171, 3) := by decide +kernel
theorem dL_law_638 : decode cL_law 638 = .ok (.istore 6, 2) := by decide +kernel
theorem dL_law_640 : decode cL_law 640 = .ok (.aload_n 2, 1) := by decide +kernel
theorem dL_law_641 : decode cL_law 641 = .ok (.invokevirtual 162, 3) := by decide +kernel
theorem dL_law_644 : decode cL_law 644 = .ok (.iload 5, 2) := by decide +kernel
theorem dL_law_646 : decode cL_law 646 = .ok (.if_icmp .eq 5, 3) := by decide +kernel
theorem dL_law_649 : decode cL_law 649 = .ok (.iconst 0, 1) := by decide +kernel
theorem dL_law_650 : decode cL_law 650 = .ok (.ireturn, 1) := by decide +kernel
theorem dL_law_651 : decode cL_law 651 = .ok (.iload 5, 2) := by decide +kernel
theorem dL_law_653 : decode cL_law 653 = .ok (.ifCond .ne 15, 3) := by decide +kernel
theorem dL_law_656 : decode cL_law 656 = .ok (.aload_n 3, 1) := by decide +kernel
theorem dL_law_657 : decode cL_law 657 = .ok (.iconst 0, 1) := by decide +kernel
theorem dL_law_658 : decode cL_law 658 = .ok (.laload, 1) := by decide +kernel
theorem dL_law_659 : decode cL_law 659 = .ok (.iload 6, 2) := by decide +kernel
theorem dL_law_661 : decode cL_law 661 = .ok (.i2l, 1) := by decide +kernel
theorem dL_law_662 : decode cL_law 662 = .ok (.lcmp, 1) := by decide +kernel
theorem dL_law_663 : decode cL_law 663 = .ok (.ifCond .eq 5, 3) := by decide +kernel
theorem dL_law_666 : decode cL_law 666 = .ok (.iconst 0, 1) := by decide +kernel
theorem dL_law_667 : decode cL_law 667 = .ok (.ireturn, 1) := by decide +kernel
theorem dL_law_668 : decode cL_law 668 = .ok (.goto 1718, 3) := by decide +kernel
theorem dL_law_671 : decode cL_law 671 = .ok (.aload_n 1, 1) := by decide +kernel
theorem dL_law_672 : decode cL_law 672 = .ok (.aload_n 0, 1) := by decide +kernel
theorem dL_law_673 : decode cL_law 673 = .ok (.iload 4, 2) := by decide +kernel
theorem dL_law_675 : decode cL_law 675 = .ok (.iconst 1, 1) := by decide +kernel
theorem dL_law_676 : decode cL_law 676 = .ok (.iadd, 1) := by decide +kernel
theorem dL_law_677 : decode cL_law 677 = .ok (.iaload, 1) := by decide +kernel
theorem dL_law_678 : decode cL_law 678 = .ok (.aload_n 3, 1) := by decide +kernel
theorem dL_law_679 : decode cL_law 679 = .ok (.invokestatic 172, 3) := by decide +kernel
theorem dL_law_682 : decode cL_law 682 = .ok (.istore 5, 2) := by decide +kernel
theorem dL_law_684 : decode cL_law 684 = .ok (.aload_n 2, 1) := by decide +kernel
theorem dL_law_685 : decode cL_law 685 = .ok (.aload_n 0, 1) := by decide +kernel
theorem dL_law_686 : decode cL_law 686 = .ok (.iload 4, 2) := by decide +kernel
theorem dL_law_688 : decode cL_law 688 = .ok (.iconst 1, 1) := by decide +kernel
theorem dL_law_689 : decode cL_law 689 = .ok (.iadd, 1) := by decide +kernel
theorem dL_law_690 : decode cL_law 690 = .ok (.iaload, 1) := by decide +kernel
theorem dL_law_691 : decode cL_law 691 = .ok (.invokevirtual 174, 3) := by decide +kernel
theorem dL_law_694 : decode cL_law 694 = .ok (.istore 6, 2) := by decide +kernel
theorem dL_law_696 : decode cL_law 696 = .ok (.aload_n 2, 1) := by decide +kernel
theorem dL_law_697 : decode cL_law 697 = .ok (.invokevirtual 162, 3) := by decide +kernel
theorem dL_law_700 : decode cL_law 700 = .ok (.iload 5, 2) := by decide +kernel
theorem dL_law_702 : decode cL_law 702 = .ok (.if_icmp .eq 5, 3) := by decide +kernel
theorem dL_law_705 : decode cL_law 705 = .ok (.iconst 0, 1) := by decide +kernel
theorem dL_law_706 : decode cL_law 706 = .ok (.ireturn, 1) := by decide +kernel
theorem dL_law_707 : decode cL_law 707 = .ok (.iload 5, 2) := by decide +kernel
theorem dL_law_709 : decode cL_law 709 = .ok (.ifCond .ne 15, 3) := by decide +kernel
theorem dL_law_712 : decode cL_law 712 = .ok (.aload_n 3, 1) := by decide +kernel
theorem dL_law_713 : decode cL_law 713 = .ok (.iconst 0, 1) := by decide +kernel
theorem dL_law_714 : decode cL_law 714 = .ok (.laload, 1) := by decide +kernel
theorem dL_law_715 : decode cL_law 715 = .ok (.iload 6, 2) := by decide +kernel
theorem dL_law_717 : decode cL_law 717 = .ok (.i2l, 1) := by decide +kernel
theorem dL_law_718 : decode cL_law 718 = .ok (.lcmp, 1) := by decide +kernel
theorem dL_law_719 : decode cL_law 719 = .ok (.ifCond .eq 5, 3) := by decide +kernel
theorem dL_law_722 : decode cL_law 722 = .ok (.iconst 0, 1) := by decide +kernel
theorem dL_law_723 : decode cL_law 723 = .ok (.ireturn, 1) := by decide +kernel
theorem dL_law_724 : decode cL_law 724 = .ok (.goto 1662, 3) := by decide +kernel
theorem dL_law_727 : decode cL_law 727 = .ok (.aload_n 1, 1) := by decide +kernel
theorem dL_law_728 : decode cL_law 728 = .ok (.aload_n 0, 1) := by decide +kernel
theorem dL_law_729 : decode cL_law 729 = .ok (.iload 4, 2) := by decide +kernel
theorem dL_law_731 : decode cL_law 731 = .ok (.iconst 1, 1) := by decide +kernel
theorem dL_law_732 : decode cL_law 732 = .ok (.iadd, 1) := by decide +kernel
theorem dL_law_733 : decode cL_law 733 = .ok (.iaload, 1) := by decide +kernel
theorem dL_law_734 : decode cL_law 734 = .ok (.aload_n 0, 1) := by decide +kernel
theorem dL_law_735 : decode cL_law 735 = .ok (.iload 4, 2) := by decide +kernel
theorem dL_law_737 : decode cL_law 737 = .ok (.iconst 2, 1) := by decide +kernel
theorem dL_law_738 : decode cL_law 738 = .ok (.iadd, 1) := by decide +kernel
theorem dL_law_739 : decode cL_law 739 = .ok (.iaload, 1) := by decide +kernel
theorem dL_law_740 : decode cL_law 740 = .ok (.aload_n 3, 1) := by decide +kernel
theorem dL_law_741 : decode cL_law 741 = .ok (.invokestatic 175, 3) := by decide +kernel
theorem dL_law_744 : decode cL_law 744 = .ok (.istore 5, 2) := by decide +kernel
theorem dL_law_746 : decode cL_law 746 = .ok (.aload_n 2, 1) := by decide +kernel
theorem dL_law_747 : decode cL_law 747 = .ok (.aload_n 0, 1) := by decide +kernel
theorem dL_law_748 : decode cL_law 748 = .ok (.iload 4, 2) := by decide +kernel
theorem dL_law_750 : decode cL_law 750 = .ok (.iconst 1, 1) := by decide +kernel
theorem dL_law_751 : decode cL_law 751 = .ok (.iadd, 1) := by decide +kernel
theorem dL_law_752 : decode cL_law 752 = .ok (.iaload, 1) := by decide +kernel
theorem dL_law_753 : decode cL_law 753 = .ok (.aload_n 0, 1) := by decide +kernel
theorem dL_law_754 : decode cL_law 754 = .ok (.iload 4, 2) := by decide +kernel
theorem dL_law_756 : decode cL_law 756 = .ok (.iconst 2, 1) := by decide +kernel
theorem dL_law_757 : decode cL_law 757 = .ok (.iadd, 1) := by decide +kernel
theorem dL_law_758 : decode cL_law 758 = .ok (.iaload, 1) := by decide +kernel
theorem dL_law_759 : decode cL_law 759 = .ok (.invokevirtual 177, 3) := by decide +kernel
theorem dL_law_762 : decode cL_law 762 = .ok (.istore 6, 2) := by decide +kernel
theorem dL_law_764 : decode cL_law 764 = .ok (.aload_n 2, 1) := by decide +kernel
theorem dL_law_765 : decode cL_law 765 = .ok (.invokevirtual 162, 3) := by decide +kernel
theorem dL_law_768 : decode cL_law 768 = .ok (.iload 5, 2) := by decide +kernel
theorem dL_law_770 : decode cL_law 770 = .ok (.if_icmp .eq 5, 3) := by decide +kernel
theorem dL_law_773 : decode cL_law 773 = .ok (.iconst 0, 1) := by decide +kernel
theorem dL_law_774 : decode cL_law 774 = .ok (.ireturn, 1) := by decide +kernel
theorem dL_law_775 : decode cL_law 775 = .ok (.iload 5, 2) := by decide +kernel
theorem dL_law_777 : decode cL_law 777 = .ok (.ifCond .ne 15, 3) := by decide +kernel
theorem dL_law_780 : decode cL_law 780 = .ok (.aload_n 3, 1) := by decide +kernel
theorem dL_law_781 : decode cL_law 781 = .ok (.iconst 0, 1) := by decide +kernel
theorem dL_law_782 : decode cL_law 782 = .ok (.laload, 1) := by decide +kernel
theorem dL_law_783 : decode cL_law 783 = .ok (.iload 6, 2) := by decide +kernel
theorem dL_law_785 : decode cL_law 785 = .ok (.i2l, 1) := by decide +kernel
theorem dL_law_786 : decode cL_law 786 = .ok (.lcmp, 1) := by decide +kernel
theorem dL_law_787 : decode cL_law 787 = .ok (.ifCond .eq 5, 3) := by decide +kernel
theorem dL_law_790 : decode cL_law 790 = .ok (.iconst 0, 1) := by decide +kernel
theorem dL_law_791 : decode cL_law 791 = .ok (.ireturn, 1) := by decide +kernel
theorem dL_law_792 : decode cL_law 792 = .ok (.goto 1594, 3) := by decide +kernel
theorem dL_law_795 : decode cL_law 795 = .ok (.aload_n 1, 1) := by decide +kernel
theorem dL_law_796 : decode cL_law 796 = .ok (.aload_n 0, 1) := by decide +kernel
theorem dL_law_797 : decode cL_law 797 = .ok (.iload 4, 2) := by decide +kernel
theorem dL_law_799 : decode cL_law 799 = .ok (.iconst 1, 1) := by decide +kernel
theorem dL_law_800 : decode cL_law 800 = .ok (.iadd, 1) := by decide +kernel
theorem dL_law_801 : decode cL_law 801 = .ok (.iaload, 1) := by decide +kernel
theorem dL_law_802 : decode cL_law 802 = .ok (.aload_n 3, 1) := by decide +kernel
theorem dL_law_803 : decode cL_law 803 = .ok (.invokestatic 178, 3) := by decide +kernel
theorem dL_law_806 : decode cL_law 806 = .ok (.istore 5, 2) := by decide +kernel
theorem dL_law_808 : decode cL_law 808 = .ok (.aload_n 2, 1) := by decide +kernel
theorem dL_law_809 : decode cL_law 809 = .ok (.aload_n 0, 1) := by decide +kernel
theorem dL_law_810 : decode cL_law 810 = .ok (.iload 4, 2) := by decide +kernel
theorem dL_law_812 : decode cL_law 812 = .ok (.iconst 1, 1) := by decide +kernel
theorem dL_law_813 : decode cL_law 813 = .ok (.iadd, 1) := by decide +kernel
theorem dL_law_814 : decode cL_law 814 = .ok (.iaload, 1) := by decide +kernel
theorem dL_law_815 : decode cL_law 815 = .ok (.invokevirtual 180, 3) := by decide +kernel
theorem dL_law_818 : decode cL_law 818 = .ok (.istore 6, 2) := by decide +kernel
theorem dL_law_820 : decode cL_law 820 = .ok (.aload_n 2, 1) := by decide +kernel
theorem dL_law_821 : decode cL_law 821 = .ok (.invokevirtual 162, 3) := by decide +kernel
theorem dL_law_824 : decode cL_law 824 = .ok (.iload 5, 2) := by decide +kernel
theorem dL_law_826 : decode cL_law 826 = .ok (.if_icmp .eq 5, 3) := by decide +kernel
theorem dL_law_829 : decode cL_law 829 = .ok (.iconst 0, 1) := by decide +kernel
theorem dL_law_830 : decode cL_law 830 = .ok (.ireturn, 1) := by decide +kernel
theorem dL_law_831 : decode cL_law 831 = .ok (.iload 5, 2) := by decide +kernel
theorem dL_law_833 : decode cL_law 833 = .ok (.ifCond .ne 15, 3) := by decide +kernel
theorem dL_law_836 : decode cL_law 836 = .ok (.aload_n 3, 1) := by decide +kernel
theorem dL_law_837 : decode cL_law 837 = .ok (.iconst 0, 1) := by decide +kernel
theorem dL_law_838 : decode cL_law 838 = .ok (.laload, 1) := by decide +kernel
theorem dL_law_839 : decode cL_law 839 = .ok (.iload 6, 2) := by decide +kernel
theorem dL_law_841 : decode cL_law 841 = .ok (.i2l, 1) := by decide +kernel
theorem dL_law_842 : decode cL_law 842 = .ok (.lcmp, 1) := by decide +kernel
theorem dL_law_843 : decode cL_law 843 = .ok (.ifCond .eq 5, 3) := by decide +kernel
theorem dL_law_846 : decode cL_law 846 = .ok (.iconst 0, 1) := by decide +kernel
theorem dL_law_847 : decode cL_law 847 = .ok (.ireturn, 1) := by decide +kernel
theorem dL_law_848 : decode cL_law 848 = .ok (.goto 1538, 3) := by decide +kernel
theorem dL_law_851 : decode cL_law 851 = .ok (.aload_n 1, 1) := by decide +kernel
theorem dL_law_852 : decode cL_law 852 = .ok (.aload_n 0, 1) := by decide +kernel
theorem dL_law_853 : decode cL_law 853 = .ok (.iload 4, 2) := by decide +kernel
theorem dL_law_855 : decode cL_law 855 = .ok (.iconst 1, 1) := by decide +kernel
theorem dL_law_856 : decode cL_law 856 = .ok (.iadd, 1) := by decide +kernel
theorem dL_law_857 : decode cL_law 857 = .ok (.iaload, 1) := by decide +kernel
theorem dL_law_858 : decode cL_law 858 = .ok (.aload_n 3, 1) := by decide +kernel
theorem dL_law_859 : decode cL_law 859 = .ok (.invokestatic 181, 3) := by decide +kernel
theorem dL_law_862 : decode cL_law 862 = .ok (.istore 5, 2) := by decide +kernel
theorem dL_law_864 : decode cL_law 864 = .ok (.aload_n 2, 1) := by decide +kernel
theorem dL_law_865 : decode cL_law 865 = .ok (.aload_n 0, 1) := by decide +kernel
theorem dL_law_866 : decode cL_law 866 = .ok (.iload 4, 2) := by decide +kernel
theorem dL_law_868 : decode cL_law 868 = .ok (.iconst 1, 1) := by decide +kernel
theorem dL_law_869 : decode cL_law 869 = .ok (.iadd, 1) := by decide +kernel
theorem dL_law_870 : decode cL_law 870 = .ok (.iaload, 1) := by decide +kernel
theorem dL_law_871 : decode cL_law 871 = .ok (.invokevirtual 183, 3) := by decide +kernel
theorem dL_law_874 : decode cL_law 874 = .ok (.istore 6, 2) := by decide +kernel
theorem dL_law_876 : decode cL_law 876 = .ok (.aload_n 2, 1) := by decide +kernel
theorem dL_law_877 : decode cL_law 877 = .ok (.invokevirtual 162, 3) := by decide +kernel
theorem dL_law_880 : decode cL_law 880 = .ok (.iload 5, 2) := by decide +kernel
theorem dL_law_882 : decode cL_law 882 = .ok (.if_icmp .eq 5, 3) := by decide +kernel
theorem dL_law_885 : decode cL_law 885 = .ok (.iconst 0, 1) := by decide +kernel
theorem dL_law_886 : decode cL_law 886 = .ok (.ireturn, 1) := by decide +kernel
theorem dL_law_887 : decode cL_law 887 = .ok (.iload 5, 2) := by decide +kernel
theorem dL_law_889 : decode cL_law 889 = .ok (.ifCond .ne 15, 3) := by decide +kernel
theorem dL_law_892 : decode cL_law 892 = .ok (.aload_n 3, 1) := by decide +kernel
theorem dL_law_893 : decode cL_law 893 = .ok (.iconst 0, 1) := by decide +kernel
theorem dL_law_894 : decode cL_law 894 = .ok (.laload, 1) := by decide +kernel
theorem dL_law_895 : decode cL_law 895 = .ok (.iload 6, 2) := by decide +kernel
theorem dL_law_897 : decode cL_law 897 = .ok (.i2l, 1) := by decide +kernel
theorem dL_law_898 : decode cL_law 898 = .ok (.lcmp, 1) := by decide +kernel
theorem dL_law_899 : decode cL_law 899 = .ok (.ifCond .eq 5, 3) := by decide +kernel
theorem dL_law_902 : decode cL_law 902 = .ok (.iconst 0, 1) := by decide +kernel
theorem dL_law_903 : decode cL_law 903 = .ok (.ireturn, 1) := by decide +kernel
theorem dL_law_904 : decode cL_law 904 = .ok (.goto 1482, 3) := by decide +kernel
theorem dL_law_907 : decode cL_law 907 = .ok (.aload_n 1, 1) := by decide +kernel
theorem dL_law_908 : decode cL_law 908 = .ok (.aload_n 0, 1) := by decide +kernel
theorem dL_law_909 : decode cL_law 909 = .ok (.iload 4, 2) := by decide +kernel
theorem dL_law_911 : decode cL_law 911 = .ok (.iconst 1, 1) := by decide +kernel
theorem dL_law_912 : decode cL_law 912 = .ok (.iadd, 1) := by decide +kernel
theorem dL_law_913 : decode cL_law 913 = .ok (.iaload, 1) := by decide +kernel
theorem dL_law_914 : decode cL_law 914 = .ok (.aload_n 0, 1) := by decide +kernel
theorem dL_law_915 : decode cL_law 915 = .ok (.iload 4, 2) := by decide +kernel
theorem dL_law_917 : decode cL_law 917 = .ok (.iconst 2, 1) := by decide +kernel
theorem dL_law_918 : decode cL_law 918 = .ok (.iadd, 1) := by decide +kernel
theorem dL_law_919 : decode cL_law 919 = .ok (.iaload, 1) := by decide +kernel
theorem dL_law_920 : decode cL_law 920 = .ok (.aload_n 3, 1) := by decide +kernel
theorem dL_law_921 : decode cL_law 921 = .ok (.invokestatic 184, 3) := by decide +kernel
theorem dL_law_924 : decode cL_law 924 = .ok (.istore 5, 2) := by decide +kernel
theorem dL_law_926 : decode cL_law 926 = .ok (.aload_n 2, 1) := by decide +kernel
theorem dL_law_927 : decode cL_law 927 = .ok (.aload_n 0, 1) := by decide +kernel
theorem dL_law_928 : decode cL_law 928 = .ok (.iload 4, 2) := by decide +kernel
theorem dL_law_930 : decode cL_law 930 = .ok (.iconst 1, 1) := by decide +kernel
theorem dL_law_931 : decode cL_law 931 = .ok (.iadd, 1) := by decide +kernel
theorem dL_law_932 : decode cL_law 932 = .ok (.iaload, 1) := by decide +kernel
theorem dL_law_933 : decode cL_law 933 = .ok (.aload_n 0, 1) := by decide +kernel
theorem dL_law_934 : decode cL_law 934 = .ok (.iload 4, 2) := by decide +kernel
theorem dL_law_936 : decode cL_law 936 = .ok (.iconst 2, 1) := by decide +kernel
theorem dL_law_937 : decode cL_law 937 = .ok (.iadd, 1) := by decide +kernel
theorem dL_law_938 : decode cL_law 938 = .ok (.iaload, 1) := by decide +kernel
theorem dL_law_939 : decode cL_law 939 = .ok (.invokevirtual 186, 3) := by decide +kernel
theorem dL_law_942 : decode cL_law 942 = .ok (.istore 6, 2) := by decide +kernel
theorem dL_law_944 : decode cL_law 944 = .ok (.aload_n 2, 1) := by decide +kernel
theorem dL_law_945 : decode cL_law 945 = .ok (.invokevirtual 162, 3) := by decide +kernel
theorem dL_law_948 : decode cL_law 948 = .ok (.iload 5, 2) := by decide +kernel
theorem dL_law_950 : decode cL_law 950 = .ok (.if_icmp .eq 5, 3) := by decide +kernel
theorem dL_law_953 : decode cL_law 953 = .ok (.iconst 0, 1) := by decide +kernel
theorem dL_law_954 : decode cL_law 954 = .ok (.ireturn, 1) := by decide +kernel
theorem dL_law_955 : decode cL_law 955 = .ok (.iload 5, 2) := by decide +kernel
theorem dL_law_957 : decode cL_law 957 = .ok (.ifCond .ne 15, 3) := by decide +kernel
theorem dL_law_960 : decode cL_law 960 = .ok (.aload_n 3, 1) := by decide +kernel
theorem dL_law_961 : decode cL_law 961 = .ok (.iconst 0, 1) := by decide +kernel
theorem dL_law_962 : decode cL_law 962 = .ok (.laload, 1) := by decide +kernel
theorem dL_law_963 : decode cL_law 963 = .ok (.iload 6, 2) := by decide +kernel
theorem dL_law_965 : decode cL_law 965 = .ok (.i2l, 1) := by decide +kernel
theorem dL_law_966 : decode cL_law 966 = .ok (.lcmp, 1) := by decide +kernel
theorem dL_law_967 : decode cL_law 967 = .ok (.ifCond .eq 5, 3) := by decide +kernel
theorem dL_law_970 : decode cL_law 970 = .ok (.iconst 0, 1) := by decide +kernel
theorem dL_law_971 : decode cL_law 971 = .ok (.ireturn, 1) := by decide +kernel
theorem dL_law_972 : decode cL_law 972 = .ok (.goto 1414, 3) := by decide +kernel
theorem dL_law_975 : decode cL_law 975 = .ok (.aload_n 1, 1) := by decide +kernel
theorem dL_law_976 : decode cL_law 976 = .ok (.aload_n 0, 1) := by decide +kernel
theorem dL_law_977 : decode cL_law 977 = .ok (.iload 4, 2) := by decide +kernel
theorem dL_law_979 : decode cL_law 979 = .ok (.iconst 1, 1) := by decide +kernel
theorem dL_law_980 : decode cL_law 980 = .ok (.iadd, 1) := by decide +kernel
theorem dL_law_981 : decode cL_law 981 = .ok (.iaload, 1) := by decide +kernel
theorem dL_law_982 : decode cL_law 982 = .ok (.aload_n 0, 1) := by decide +kernel
theorem dL_law_983 : decode cL_law 983 = .ok (.iload 4, 2) := by decide +kernel
theorem dL_law_985 : decode cL_law 985 = .ok (.iconst 2, 1) := by decide +kernel
theorem dL_law_986 : decode cL_law 986 = .ok (.iadd, 1) := by decide +kernel
theorem dL_law_987 : decode cL_law 987 = .ok (.iaload, 1) := by decide +kernel
theorem dL_law_988 : decode cL_law 988 = .ok (.aload_n 3, 1) := by decide +kernel
theorem dL_law_989 : decode cL_law 989 = .ok (.invokestatic 187, 3) := by decide +kernel
theorem dL_law_992 : decode cL_law 992 = .ok (.istore 5, 2) := by decide +kernel
theorem dL_law_994 : decode cL_law 994 = .ok (.aload_n 2, 1) := by decide +kernel
theorem dL_law_995 : decode cL_law 995 = .ok (.aload_n 0, 1) := by decide +kernel
theorem dL_law_996 : decode cL_law 996 = .ok (.iload 4, 2) := by decide +kernel
theorem dL_law_998 : decode cL_law 998 = .ok (.iconst 1, 1) := by decide +kernel
theorem dL_law_999 : decode cL_law 999 = .ok (.iadd, 1) := by decide +kernel
theorem dL_law_1000 : decode cL_law 1000 = .ok (.iaload, 1) := by decide +kernel
theorem dL_law_1001 : decode cL_law 1001 = .ok (.aload_n 0, 1) := by decide +kernel
theorem dL_law_1002 : decode cL_law 1002 = .ok (.iload 4, 2) := by decide +kernel
theorem dL_law_1004 : decode cL_law 1004 = .ok (.iconst 2, 1) := by decide +kernel
theorem dL_law_1005 : decode cL_law 1005 = .ok (.iadd, 1) := by decide +kernel
theorem dL_law_1006 : decode cL_law 1006 = .ok (.iaload, 1) := by decide +kernel
theorem dL_law_1007 : decode cL_law 1007 = .ok (.invokevirtual 189, 3) := by decide +kernel
theorem dL_law_1010 : decode cL_law 1010 = .ok (.istore 6, 2) := by decide +kernel
theorem dL_law_1012 : decode cL_law 1012 = .ok (.aload_n 2, 1) := by decide +kernel
theorem dL_law_1013 : decode cL_law 1013 = .ok (.invokevirtual 162, 3) := by decide +kernel
theorem dL_law_1016 : decode cL_law 1016 = .ok (.iload 5, 2) := by decide +kernel
theorem dL_law_1018 : decode cL_law 1018 = .ok (.if_icmp .eq 5, 3) := by decide +kernel
theorem dL_law_1021 : decode cL_law 1021 = .ok (.iconst 0, 1) := by decide +kernel
theorem dL_law_1022 : decode cL_law 1022 = .ok (.ireturn, 1) := by decide +kernel
theorem dL_law_1023 : decode cL_law 1023 = .ok (.iload 5, 2) := by decide +kernel
theorem dL_law_1025 : decode cL_law 1025 = .ok (.ifCond .ne 15, 3) := by decide +kernel
theorem dL_law_1028 : decode cL_law 1028 = .ok (.aload_n 3, 1) := by decide +kernel
theorem dL_law_1029 : decode cL_law 1029 = .ok (.iconst 0, 1) := by decide +kernel
theorem dL_law_1030 : decode cL_law 1030 = .ok (.laload, 1) := by decide +kernel
theorem dL_law_1031 : decode cL_law 1031 = .ok (.iload 6, 2) := by decide +kernel
theorem dL_law_1033 : decode cL_law 1033 = .ok (.i2l, 1) := by decide +kernel
theorem dL_law_1034 : decode cL_law 1034 = .ok (.lcmp, 1) := by decide +kernel
theorem dL_law_1035 : decode cL_law 1035 = .ok (.ifCond .eq 5, 3) := by decide +kernel
theorem dL_law_1038 : decode cL_law 1038 = .ok (.iconst 0, 1) := by decide +kernel
theorem dL_law_1039 : decode cL_law 1039 = .ok (.ireturn, 1) := by decide +kernel
theorem dL_law_1040 : decode cL_law 1040 = .ok (.goto 1346, 3) := by decide +kernel
theorem dL_law_1043 : decode cL_law 1043 = .ok (.aload_n 1, 1) := by decide +kernel
theorem dL_law_1044 : decode cL_law 1044 = .ok (.aload_n 0, 1) := by decide +kernel
theorem dL_law_1045 : decode cL_law 1045 = .ok (.iload 4, 2) := by decide +kernel
theorem dL_law_1047 : decode cL_law 1047 = .ok (.iconst 1, 1) := by decide +kernel
theorem dL_law_1048 : decode cL_law 1048 = .ok (.iadd, 1) := by decide +kernel
theorem dL_law_1049 : decode cL_law 1049 = .ok (.iaload, 1) := by decide +kernel
theorem dL_law_1050 : decode cL_law 1050 = .ok (.aload_n 3, 1) := by decide +kernel
theorem dL_law_1051 : decode cL_law 1051 = .ok (.invokestatic 190, 3) := by decide +kernel
theorem dL_law_1054 : decode cL_law 1054 = .ok (.istore 5, 2) := by decide +kernel
theorem dL_law_1056 : decode cL_law 1056 = .ok (.aload_n 2, 1) := by decide +kernel
theorem dL_law_1057 : decode cL_law 1057 = .ok (.aload_n 0, 1) := by decide +kernel
theorem dL_law_1058 : decode cL_law 1058 = .ok (.iload 4, 2) := by decide +kernel
theorem dL_law_1060 : decode cL_law 1060 = .ok (.iconst 1, 1) := by decide +kernel
theorem dL_law_1061 : decode cL_law 1061 = .ok (.iadd, 1) := by decide +kernel
theorem dL_law_1062 : decode cL_law 1062 = .ok (.iaload, 1) := by decide +kernel
theorem dL_law_1063 : decode cL_law 1063 = .ok (.invokevirtual 192, 3) := by decide +kernel
theorem dL_law_1066 : decode cL_law 1066 = .ok (.istore 6, 2) := by decide +kernel
theorem dL_law_1068 : decode cL_law 1068 = .ok (.aload_n 2, 1) := by decide +kernel
theorem dL_law_1069 : decode cL_law 1069 = .ok (.invokevirtual 162, 3) := by decide +kernel
theorem dL_law_1072 : decode cL_law 1072 = .ok (.iload 5, 2) := by decide +kernel
theorem dL_law_1074 : decode cL_law 1074 = .ok (.if_icmp .eq 5, 3) := by decide +kernel
theorem dL_law_1077 : decode cL_law 1077 = .ok (.iconst 0, 1) := by decide +kernel
theorem dL_law_1078 : decode cL_law 1078 = .ok (.ireturn, 1) := by decide +kernel
theorem dL_law_1079 : decode cL_law 1079 = .ok (.iload 5, 2) := by decide +kernel
theorem dL_law_1081 : decode cL_law 1081 = .ok (.ifCond .ne 15, 3) := by decide +kernel
theorem dL_law_1084 : decode cL_law 1084 = .ok (.aload_n 3, 1) := by decide +kernel
theorem dL_law_1085 : decode cL_law 1085 = .ok (.iconst 0, 1) := by decide +kernel
theorem dL_law_1086 : decode cL_law 1086 = .ok (.laload, 1) := by decide +kernel
theorem dL_law_1087 : decode cL_law 1087 = .ok (.iload 6, 2) := by decide +kernel
theorem dL_law_1089 : decode cL_law 1089 = .ok (.i2l, 1) := by decide +kernel
theorem dL_law_1090 : decode cL_law 1090 = .ok (.lcmp, 1) := by decide +kernel
theorem dL_law_1091 : decode cL_law 1091 = .ok (.ifCond .eq 5, 3) := by decide +kernel
theorem dL_law_1094 : decode cL_law 1094 = .ok (.iconst 0, 1) := by decide +kernel
theorem dL_law_1095 : decode cL_law 1095 = .ok (.ireturn, 1) := by decide +kernel
theorem dL_law_1096 : decode cL_law 1096 = .ok (.goto 1290, 3) := by decide +kernel
theorem dL_law_1099 : decode cL_law 1099 = .ok (.aload_n 1, 1) := by decide +kernel
theorem dL_law_1100 : decode cL_law 1100 = .ok (.invokevirtual 193, 3) := by decide +kernel
theorem dL_law_1103 : decode cL_law 1103 = .ok (.aload_n 2, 1) := by decide +kernel
theorem dL_law_1104 : decode cL_law 1104 = .ok (.invokevirtual 196, 3) := by decide +kernel
theorem dL_law_1107 : decode cL_law 1107 = .ok (.if_icmp .eq 1279, 3) := by decide +kernel
theorem dL_law_1110 : decode cL_law 1110 = .ok (.iconst 0, 1) := by decide +kernel
theorem dL_law_1111 : decode cL_law 1111 = .ok (.ireturn, 1) := by decide +kernel
theorem dL_law_1112 : decode cL_law 1112 = .ok (.aload_n 1, 1) := by decide +kernel
theorem dL_law_1113 : decode cL_law 1113 = .ok (.invokevirtual 197, 3) := by decide +kernel
theorem dL_law_1116 : decode cL_law 1116 = .ok (.aload_n 2, 1) := by decide +kernel
theorem dL_law_1117 : decode cL_law 1117 = .ok (.invokevirtual 200, 3) := by decide +kernel
theorem dL_law_1120 : decode cL_law 1120 = .ok (.if_icmp .eq 1266, 3) := by decide +kernel
theorem dL_law_1123 : decode cL_law 1123 = .ok (.iconst 0, 1) := by decide +kernel
theorem dL_law_1124 : decode cL_law 1124 = .ok (.ireturn, 1) := by decide +kernel
theorem dL_law_1125 : decode cL_law 1125 = .ok (.aload_n 1, 1) := by decide +kernel
theorem dL_law_1126 : decode cL_law 1126 = .ok (.aload_n 0, 1) := by decide +kernel
theorem dL_law_1127 : decode cL_law 1127 = .ok (.iload 4, 2) := by decide +kernel
theorem dL_law_1129 : decode cL_law 1129 = .ok (.iconst 1, 1) := by decide +kernel
theorem dL_law_1130 : decode cL_law 1130 = .ok (.iadd, 1) := by decide +kernel
theorem dL_law_1131 : decode cL_law 1131 = .ok (.iaload, 1) := by decide +kernel
theorem dL_law_1132 : decode cL_law 1132 = .ok (.aload_n 0, 1) := by decide +kernel
theorem dL_law_1133 : decode cL_law 1133 = .ok (.iload 4, 2) := by decide +kernel
theorem dL_law_1135 : decode cL_law 1135 = .ok (.iconst 2, 1) := by decide +kernel
theorem dL_law_1136 : decode cL_law 1136 = .ok (.iadd, 1) := by decide +kernel
theorem dL_law_1137 : decode cL_law 1137 = .ok (.iaload, 1) := by decide +kernel
theorem dL_law_1138 : decode cL_law 1138 = .ok (.aload_n 3, 1) := by decide +kernel
theorem dL_law_1139 : decode cL_law 1139 = .ok (.invokestatic 201, 3) := by decide +kernel
theorem dL_law_1142 : decode cL_law 1142 = .ok (.istore 5, 2) := by decide +kernel
theorem dL_law_1144 : decode cL_law 1144 = .ok (.aload_n 2, 1) := by decide +kernel
theorem dL_law_1145 : decode cL_law 1145 = .ok (.aload_n 0, 1) := by decide +kernel
theorem dL_law_1146 : decode cL_law 1146 = .ok (.iload 4, 2) := by decide +kernel
theorem dL_law_1148 : decode cL_law 1148 = .ok (.iconst 1, 1) := by decide +kernel
theorem dL_law_1149 : decode cL_law 1149 = .ok (.iadd, 1) := by decide +kernel
theorem dL_law_1150 : decode cL_law 1150 = .ok (.iaload, 1) := by decide +kernel
theorem dL_law_1151 : decode cL_law 1151 = .ok (.aload_n 0, 1) := by decide +kernel
theorem dL_law_1152 : decode cL_law 1152 = .ok (.iload 4, 2) := by decide +kernel
theorem dL_law_1154 : decode cL_law 1154 = .ok (.iconst 2, 1) := by decide +kernel
theorem dL_law_1155 : decode cL_law 1155 = .ok (.iadd, 1) := by decide +kernel
theorem dL_law_1156 : decode cL_law 1156 = .ok (.iaload, 1) := by decide +kernel
theorem dL_law_1157 : decode cL_law 1157 = .ok (.invokevirtual 203, 3) := by decide +kernel
theorem dL_law_1160 : decode cL_law 1160 = .ok (.istore 6, 2) := by decide +kernel
theorem dL_law_1162 : decode cL_law 1162 = .ok (.aload_n 2, 1) := by decide +kernel
theorem dL_law_1163 : decode cL_law 1163 = .ok (.invokevirtual 162, 3) := by decide +kernel
theorem dL_law_1166 : decode cL_law 1166 = .ok (.iload 5, 2) := by decide +kernel
theorem dL_law_1168 : decode cL_law 1168 = .ok (.if_icmp .eq 5, 3) := by decide +kernel
theorem dL_law_1171 : decode cL_law 1171 = .ok (.iconst 0, 1) := by decide +kernel
theorem dL_law_1172 : decode cL_law 1172 = .ok (.ireturn, 1) := by decide +kernel
theorem dL_law_1173 : decode cL_law 1173 = .ok (.iload 5, 2) := by decide +kernel
theorem dL_law_1175 : decode cL_law 1175 = .ok (.ifCond .ne 15, 3) := by decide +kernel
theorem dL_law_1178 : decode cL_law 1178 = .ok (.aload_n 3, 1) := by decide +kernel
theorem dL_law_1179 : decode cL_law 1179 = .ok (.iconst 0, 1) := by decide +kernel
theorem dL_law_1180 : decode cL_law 1180 = .ok (.laload, 1) := by decide +kernel
theorem dL_law_1181 : decode cL_law 1181 = .ok (.iload 6, 2) := by decide +kernel
theorem dL_law_1183 : decode cL_law 1183 = .ok (.i2l, 1) := by decide +kernel
theorem dL_law_1184 : decode cL_law 1184 = .ok (.lcmp, 1) := by decide +kernel
theorem dL_law_1185 : decode cL_law 1185 = .ok (.ifCond .eq 5, 3) := by decide +kernel
theorem dL_law_1188 : decode cL_law 1188 = .ok (.iconst 0, 1) := by decide +kernel
theorem dL_law_1189 : decode cL_law 1189 = .ok (.ireturn, 1) := by decide +kernel
theorem dL_law_1190 : decode cL_law 1190 = .ok (.goto 1196, 3) := by decide +kernel
theorem dL_law_1193 : decode cL_law 1193 = .ok (.aload_n 1, 1) := by decide +kernel
theorem dL_law_1194 : decode cL_law 1194 = .ok (.aload_n 0, 1) := by decide +kernel
theorem dL_law_1195 : decode cL_law 1195 = .ok (.iload 4, 2) := by decide +kernel
theorem dL_law_1197 : decode cL_law 1197 = .ok (.iconst 1, 1) := by decide +kernel
theorem dL_law_1198 : decode cL_law 1198 = .ok (.iadd, 1) := by decide +kernel
theorem dL_law_1199 : decode cL_law 1199 = .ok (.iaload, 1) := by decide +kernel
theorem dL_law_1200 : decode cL_law 1200 = .ok (.aload_n 3, 1) := by decide +kernel
theorem dL_law_1201 : decode cL_law 1201 = .ok (.invokestatic 204, 3) := by decide +kernel
theorem dL_law_1204 : decode cL_law 1204 = .ok (.istore 5, 2) := by decide +kernel
theorem dL_law_1206 : decode cL_law 1206 = .ok (.aload_n 2, 1) := by decide +kernel
theorem dL_law_1207 : decode cL_law 1207 = .ok (.aload_n 0, 1) := by decide +kernel
theorem dL_law_1208 : decode cL_law 1208 = .ok (.iload 4, 2) := by decide +kernel
theorem dL_law_1210 : decode cL_law 1210 = .ok (.iconst 1, 1) := by decide +kernel
theorem dL_law_1211 : decode cL_law 1211 = .ok (.iadd, 1) := by decide +kernel
theorem dL_law_1212 : decode cL_law 1212 = .ok (.iaload, 1) := by decide +kernel
theorem dL_law_1213 : decode cL_law 1213 = .ok (.invokevirtual 206, 3) := by decide +kernel
theorem dL_law_1216 : decode cL_law 1216 = .ok (.istore 6, 2) := by decide +kernel
theorem dL_law_1218 : decode cL_law 1218 = .ok (.aload_n 2, 1) := by decide +kernel
theorem dL_law_1219 : decode cL_law 1219 = .ok (.invokevirtual 162, 3) := by decide +kernel
theorem dL_law_1222 : decode cL_law 1222 = .ok (.iload 5, 2) := by decide +kernel
theorem dL_law_1224 : decode cL_law 1224 = .ok (.if_icmp .eq 5, 3) := by decide +kernel
theorem dL_law_1227 : decode cL_law 1227 = .ok (.iconst 0, 1) := by decide +kernel
theorem dL_law_1228 : decode cL_law 1228 = .ok (.ireturn, 1) := by decide +kernel
theorem dL_law_1229 : decode cL_law 1229 = .ok (.iload 5, 2) := by decide +kernel
theorem dL_law_1231 : decode cL_law 1231 = .ok (.ifCond .ne 15, 3) := by decide +kernel
theorem dL_law_1234 : decode cL_law 1234 = .ok (.aload_n 3, 1) := by decide +kernel
theorem dL_law_1235 : decode cL_law 1235 = .ok (.iconst 0, 1) := by decide +kernel
theorem dL_law_1236 : decode cL_law 1236 = .ok (.laload, 1) := by decide +kernel
theorem dL_law_1237 : decode cL_law 1237 = .ok (.iload 6, 2) := by decide +kernel
theorem dL_law_1239 : decode cL_law 1239 = .ok (.i2l, 1) := by decide +kernel
theorem dL_law_1240 : decode cL_law 1240 = .ok (.lcmp, 1) := by decide +kernel
theorem dL_law_1241 : decode cL_law 1241 = .ok (.ifCond .eq 5, 3) := by decide +kernel
theorem dL_law_1244 : decode cL_law 1244 = .ok (.iconst 0, 1) := by decide +kernel
theorem dL_law_1245 : decode cL_law 1245 = .ok (.ireturn, 1) := by decide +kernel
theorem dL_law_1246 : decode cL_law 1246 = .ok (.goto 1140, 3) := by decide +kernel
theorem dL_law_1249 : decode cL_law 1249 = .ok (.aload_n 1, 1) := by decide +kernel
theorem dL_law_1250 : decode cL_law 1250 = .ok (.invokevirtual 207, 3) := by decide +kernel
theorem dL_law_1253 : decode cL_law 1253 = .ok (.aload_n 2, 1) := by decide +kernel
theorem dL_law_1254 : decode cL_law 1254 = .ok (.invokevirtual 210, 3) := by decide +kernel
theorem dL_law_1257 : decode cL_law 1257 = .ok (.if_icmp .eq 1129, 3) := by decide +kernel
theorem dL_law_1260 : decode cL_law 1260 = .ok (.iconst 0, 1) := by decide +kernel
theorem dL_law_1261 : decode cL_law 1261 = .ok (.ireturn, 1) := by decide +kernel
theorem dL_law_1262 : decode cL_law 1262 = .ok (.aload_n 1, 1) := by decide +kernel
theorem dL_law_1263 : decode cL_law 1263 = .ok (.invokevirtual 211, 3) := by decide +kernel
theorem dL_law_1266 : decode cL_law 1266 = .ok (.aload_n 2, 1) := by decide +kernel
theorem dL_law_1267 : decode cL_law 1267 = .ok (.invokevirtual 214, 3) := by decide +kernel
theorem dL_law_1270 : decode cL_law 1270 = .ok (.if_icmp .eq 1116, 3) := by decide +kernel
theorem dL_law_1273 : decode cL_law 1273 = .ok (.iconst 0, 1) := by decide +kernel
theorem dL_law_1274 : decode cL_law 1274 = .ok (.ireturn, 1) := by decide +kernel
theorem dL_law_1275 : decode cL_law 1275 = .ok (.aload_n 1, 1) := by decide +kernel
theorem dL_law_1276 : decode cL_law 1276 = .ok (.aload_n 0, 1) := by decide +kernel
theorem dL_law_1277 : decode cL_law 1277 = .ok (.iload 4, 2) := by decide +kernel
theorem dL_law_1279 : decode cL_law 1279 = .ok (.iconst 1, 1) := by decide +kernel
theorem dL_law_1280 : decode cL_law 1280 = .ok (.iadd, 1) := by decide +kernel
theorem dL_law_1281 : decode cL_law 1281 = .ok (.iaload, 1) := by decide +kernel
theorem dL_law_1282 : decode cL_law 1282 = .ok (.aload_n 3, 1) := by decide +kernel
theorem dL_law_1283 : decode cL_law 1283 = .ok (.invokestatic 215, 3) := by decide +kernel
theorem dL_law_1286 : decode cL_law 1286 = .ok (.istore 5, 2) := by decide +kernel
theorem dL_law_1288 : decode cL_law 1288 = .ok (.aload_n 2, 1) := by decide +kernel
theorem dL_law_1289 : decode cL_law 1289 = .ok (.aload_n 0, 1) := by decide +kernel
theorem dL_law_1290 : decode cL_law 1290 = .ok (.iload 4, 2) := by decide +kernel
theorem dL_law_1292 : decode cL_law 1292 = .ok (.iconst 1, 1) := by decide +kernel
theorem dL_law_1293 : decode cL_law 1293 = .ok (.iadd, 1) := by decide +kernel
theorem dL_law_1294 : decode cL_law 1294 = .ok (.iaload, 1) := by decide +kernel
theorem dL_law_1295 : decode cL_law 1295 = .ok (.invokevirtual 217, 3) := by decide +kernel
theorem dL_law_1298 : decode cL_law 1298 = .ok (.istore 6, 2) := by decide +kernel
theorem dL_law_1300 : decode cL_law 1300 = .ok (.aload_n 2, 1) := by decide +kernel
theorem dL_law_1301 : decode cL_law 1301 = .ok (.invokevirtual 162, 3) := by decide +kernel
theorem dL_law_1304 : decode cL_law 1304 = .ok (.iload 5, 2) := by decide +kernel
theorem dL_law_1306 : decode cL_law 1306 = .ok (.if_icmp .eq 5, 3) := by decide +kernel
theorem dL_law_1309 : decode cL_law 1309 = .ok (.iconst 0, 1) := by decide +kernel
theorem dL_law_1310 : decode cL_law 1310 = .ok (.ireturn, 1) := by decide +kernel
theorem dL_law_1311 : decode cL_law 1311 = .ok (.iload 5, 2) := by decide +kernel
theorem dL_law_1313 : decode cL_law 1313 = .ok (.ifCond .ne 15, 3) := by decide +kernel
theorem dL_law_1316 : decode cL_law 1316 = .ok (.aload_n 3, 1) := by decide +kernel
theorem dL_law_1317 : decode cL_law 1317 = .ok (.iconst 0, 1) := by decide +kernel
theorem dL_law_1318 : decode cL_law 1318 = .ok (.laload, 1) := by decide +kernel
theorem dL_law_1319 : decode cL_law 1319 = .ok (.iload 6, 2) := by decide +kernel
theorem dL_law_1321 : decode cL_law 1321 = .ok (.i2l, 1) := by decide +kernel
theorem dL_law_1322 : decode cL_law 1322 = .ok (.lcmp, 1) := by decide +kernel
theorem dL_law_1323 : decode cL_law 1323 = .ok (.ifCond .eq 5, 3) := by decide +kernel
theorem dL_law_1326 : decode cL_law 1326 = .ok (.iconst 0, 1) := by decide +kernel
theorem dL_law_1327 : decode cL_law 1327 = .ok (.ireturn, 1) := by decide +kernel
theorem dL_law_1328 : decode cL_law 1328 = .ok (.goto 1058, 3) := by decide +kernel
theorem dL_law_1331 : decode cL_law 1331 = .ok (.aload_n 1, 1) := by decide +kernel
theorem dL_law_1332 : decode cL_law 1332 = .ok (.aload_n 0, 1) := by decide +kernel
theorem dL_law_1333 : decode cL_law 1333 = .ok (.iload 4, 2) := by decide +kernel
theorem dL_law_1335 : decode cL_law 1335 = .ok (.iconst 1, 1) := by decide +kernel
theorem dL_law_1336 : decode cL_law 1336 = .ok (.iadd, 1) := by decide +kernel
theorem dL_law_1337 : decode cL_law 1337 = .ok (.iaload, 1) := by decide +kernel
theorem dL_law_1338 : decode cL_law 1338 = .ok (.aload_n 3, 1) := by decide +kernel
theorem dL_law_1339 : decode cL_law 1339 = .ok (.invokestatic 218, 3) := by decide +kernel
theorem dL_law_1342 : decode cL_law 1342 = .ok (.istore 5, 2) := by decide +kernel
theorem dL_law_1344 : decode cL_law 1344 = .ok (.aload_n 2, 1) := by decide +kernel
theorem dL_law_1345 : decode cL_law 1345 = .ok (.aload_n 0, 1) := by decide +kernel
theorem dL_law_1346 : decode cL_law 1346 = .ok (.iload 4, 2) := by decide +kernel
theorem dL_law_1348 : decode cL_law 1348 = .ok (.iconst 1, 1) := by decide +kernel
theorem dL_law_1349 : decode cL_law 1349 = .ok (.iadd, 1) := by decide +kernel
theorem dL_law_1350 : decode cL_law 1350 = .ok (.iaload, 1) := by decide +kernel
theorem dL_law_1351 : decode cL_law 1351 = .ok (.invokevirtual 220, 3) := by decide +kernel
theorem dL_law_1354 : decode cL_law 1354 = .ok (.istore 6, 2) := by decide +kernel
theorem dL_law_1356 : decode cL_law 1356 = .ok (.aload_n 2, 1) := by decide +kernel
theorem dL_law_1357 : decode cL_law 1357 = .ok (.invokevirtual 162, 3) := by decide +kernel
theorem dL_law_1360 : decode cL_law 1360 = .ok (.iload 5, 2) := by decide +kernel
theorem dL_law_1362 : decode cL_law 1362 = .ok (.if_icmp .eq 5, 3) := by decide +kernel
theorem dL_law_1365 : decode cL_law 1365 = .ok (.iconst 0, 1) := by decide +kernel
theorem dL_law_1366 : decode cL_law 1366 = .ok (.ireturn, 1) := by decide +kernel
theorem dL_law_1367 : decode cL_law 1367 = .ok (.iload 5, 2) := by decide +kernel
theorem dL_law_1369 : decode cL_law 1369 = .ok (.ifCond .ne 15, 3) := by decide +kernel
theorem dL_law_1372 : decode cL_law 1372 = .ok (.aload_n 3, 1) := by decide +kernel
theorem dL_law_1373 : decode cL_law 1373 = .ok (.iconst 0, 1) := by decide +kernel
theorem dL_law_1374 : decode cL_law 1374 = .ok (.laload, 1) := by decide +kernel
theorem dL_law_1375 : decode cL_law 1375 = .ok (.iload 6, 2) := by decide +kernel
theorem dL_law_1377 : decode cL_law 1377 = .ok (.i2l, 1) := by decide +kernel
theorem dL_law_1378 : decode cL_law 1378 = .ok (.lcmp, 1) := by decide +kernel
theorem dL_law_1379 : decode cL_law 1379 = .ok (.ifCond .eq 5, 3) := by decide +kernel
theorem dL_law_1382 : decode cL_law 1382 = .ok (.iconst 0, 1) := by decide +kernel
theorem dL_law_1383 : decode cL_law 1383 = .ok (.ireturn, 1) := by decide +kernel
theorem dL_law_1384 : decode cL_law 1384 = .ok (.goto 1002, 3) := by decide +kernel
theorem dL_law_1387 : decode cL_law 1387 = .ok (.aload_n 1, 1) := by decide +kernel
theorem dL_law_1388 : decode cL_law 1388 = .ok (.aload_n 0, 1) := by decide +kernel
theorem dL_law_1389 : decode cL_law 1389 = .ok (.iload 4, 2) := by decide +kernel
theorem dL_law_1391 : decode cL_law 1391 = .ok (.iconst 1, 1) := by decide +kernel
theorem dL_law_1392 : decode cL_law 1392 = .ok (.iadd, 1) := by decide +kernel
theorem dL_law_1393 : decode cL_law 1393 = .ok (.iaload, 1) := by decide +kernel
theorem dL_law_1394 : decode cL_law 1394 = .ok (.aload_n 3, 1) := by decide +kernel
theorem dL_law_1395 : decode cL_law 1395 = .ok (.invokestatic 221, 3) := by decide +kernel
theorem dL_law_1398 : decode cL_law 1398 = .ok (.istore 5, 2) := by decide +kernel
theorem dL_law_1400 : decode cL_law 1400 = .ok (.aload_n 2, 1) := by decide +kernel
theorem dL_law_1401 : decode cL_law 1401 = .ok (.aload_n 0, 1) := by decide +kernel
theorem dL_law_1402 : decode cL_law 1402 = .ok (.iload 4, 2) := by decide +kernel
theorem dL_law_1404 : decode cL_law 1404 = .ok (.iconst 1, 1) := by decide +kernel
theorem dL_law_1405 : decode cL_law 1405 = .ok (.iadd, 1) := by decide +kernel
theorem dL_law_1406 : decode cL_law 1406 = .ok (.iaload, 1) := by decide +kernel
theorem dL_law_1407 : decode cL_law 1407 = .ok (.invokevirtual 223, 3) := by decide +kernel
theorem dL_law_1410 : decode cL_law 1410 = .ok (.istore 6, 2) := by decide +kernel
theorem dL_law_1412 : decode cL_law 1412 = .ok (.aload_n 2, 1) := by decide +kernel
theorem dL_law_1413 : decode cL_law 1413 = .ok (.invokevirtual 162, 3) := by decide +kernel
theorem dL_law_1416 : decode cL_law 1416 = .ok (.iload 5, 2) := by decide +kernel
theorem dL_law_1418 : decode cL_law 1418 = .ok (.if_icmp .eq 5, 3) := by decide +kernel
theorem dL_law_1421 : decode cL_law 1421 = .ok (.iconst 0, 1) := by decide +kernel
theorem dL_law_1422 : decode cL_law 1422 = .ok (.ireturn, 1) := by decide +kernel
theorem dL_law_1423 : decode cL_law 1423 = .ok (.iload 5, 2) := by decide +kernel
theorem dL_law_1425 : decode cL_law 1425 = .ok (.ifCond .ne 15, 3) := by decide +kernel
theorem dL_law_1428 : decode cL_law 1428 = .ok (.aload_n 3, 1) := by decide +kernel
theorem dL_law_1429 : decode cL_law 1429 = .ok (.iconst 0, 1) := by decide +kernel
theorem dL_law_1430 : decode cL_law 1430 = .ok (.laload, 1) := by decide +kernel
theorem dL_law_1431 : decode cL_law 1431 = .ok (.iload 6, 2) := by decide +kernel
theorem dL_law_1433 : decode cL_law 1433 = .ok (.i2l, 1) := by decide +kernel
theorem dL_law_1434 : decode cL_law 1434 = .ok (.lcmp, 1) := by decide +kernel
theorem dL_law_1435 : decode cL_law 1435 = .ok (.ifCond .eq 5, 3) := by decide +kernel
theorem dL_law_1438 : decode cL_law 1438 = .ok (.iconst 0, 1) := by decide +kernel
theorem dL_law_1439 : decode cL_law 1439 = .ok (.ireturn, 1) := by decide +kernel
theorem dL_law_1440 : decode cL_law 1440 = .ok (.goto 946, 3) := by decide +kernel
theorem dL_law_1443 : decode cL_law 1443 = .ok (.aload_n 1, 1) := by decide +kernel
theorem dL_law_1444 : decode cL_law 1444 = .ok (.aload_n 0, 1) := by decide +kernel
theorem dL_law_1445 : decode cL_law 1445 = .ok (.iload 4, 2) := by decide +kernel
theorem dL_law_1447 : decode cL_law 1447 = .ok (.iconst 1, 1) := by decide +kernel
theorem dL_law_1448 : decode cL_law 1448 = .ok (.iadd, 1) := by decide +kernel
theorem dL_law_1449 : decode cL_law 1449 = .ok (.iaload, 1) := by decide +kernel
theorem dL_law_1450 : decode cL_law 1450 = .ok (.aload_n 3, 1) := by decide +kernel
theorem dL_law_1451 : decode cL_law 1451 = .ok (.invokestatic 224, 3) := by decide +kernel
theorem dL_law_1454 : decode cL_law 1454 = .ok (.istore 5, 2) := by decide +kernel
theorem dL_law_1456 : decode cL_law 1456 = .ok (.aload_n 2, 1) := by decide +kernel
theorem dL_law_1457 : decode cL_law 1457 = .ok (.aload_n 0, 1) := by decide +kernel
theorem dL_law_1458 : decode cL_law 1458 = .ok (.iload 4, 2) := by decide +kernel
theorem dL_law_1460 : decode cL_law 1460 = .ok (.iconst 1, 1) := by decide +kernel
theorem dL_law_1461 : decode cL_law 1461 = .ok (.iadd, 1) := by decide +kernel
theorem dL_law_1462 : decode cL_law 1462 = .ok (.iaload, 1) := by decide +kernel
theorem dL_law_1463 : decode cL_law 1463 = .ok (.invokevirtual 226, 3) := by decide +kernel
theorem dL_law_1466 : decode cL_law 1466 = .ok (.istore 6, 2) := by decide +kernel
theorem dL_law_1468 : decode cL_law 1468 = .ok (.aload_n 2, 1) := by decide +kernel
theorem dL_law_1469 : decode cL_law 1469 = .ok (.invokevirtual 162, 3) := by decide +kernel
theorem dL_law_1472 : decode cL_law 1472 = .ok (.iload 5, 2) := by decide +kernel
theorem dL_law_1474 : decode cL_law 1474 = .ok (.if_icmp .eq 5, 3) := by decide +kernel
theorem dL_law_1477 : decode cL_law 1477 = .ok (.iconst 0, 1) := by decide +kernel
theorem dL_law_1478 : decode cL_law 1478 = .ok (.ireturn, 1) := by decide +kernel
theorem dL_law_1479 : decode cL_law 1479 = .ok (.iload 5, 2) := by decide +kernel
theorem dL_law_1481 : decode cL_law 1481 = .ok (.ifCond .ne 15, 3) := by decide +kernel
theorem dL_law_1484 : decode cL_law 1484 = .ok (.aload_n 3, 1) := by decide +kernel
theorem dL_law_1485 : decode cL_law 1485 = .ok (.iconst 0, 1) := by decide +kernel
theorem dL_law_1486 : decode cL_law 1486 = .ok (.laload, 1) := by decide +kernel
theorem dL_law_1487 : decode cL_law 1487 = .ok (.iload 6, 2) := by decide +kernel
theorem dL_law_1489 : decode cL_law 1489 = .ok (.i2l, 1) := by decide +kernel
theorem dL_law_1490 : decode cL_law 1490 = .ok (.lcmp, 1) := by decide +kernel
theorem dL_law_1491 : decode cL_law 1491 = .ok (.ifCond .eq 5, 3) := by decide +kernel
theorem dL_law_1494 : decode cL_law 1494 = .ok (.iconst 0, 1) := by decide +kernel
theorem dL_law_1495 : decode cL_law 1495 = .ok (.ireturn, 1) := by decide +kernel
theorem dL_law_1496 : decode cL_law 1496 = .ok (.goto 890, 3) := by decide +kernel
theorem dL_law_1499 : decode cL_law 1499 = .ok (.aload_n 1, 1) := by decide +kernel
theorem dL_law_1500 : decode cL_law 1500 = .ok (.aload_n 0, 1) := by decide +kernel
theorem dL_law_1501 : decode cL_law 1501 = .ok (.iload 4, 2) := by decide +kernel
theorem dL_law_1503 : decode cL_law 1503 = .ok (.iconst 1, 1) := by decide +kernel
theorem dL_law_1504 : decode cL_law 1504 = .ok (.iadd, 1) := by decide +kernel
theorem dL_law_1505 : decode cL_law 1505 = .ok (.iaload, 1) := by decide +kernel
theorem dL_law_1506 : decode cL_law 1506 = .ok (.aload_n 3, 1) := by decide +kernel
theorem dL_law_1507 : decode cL_law 1507 = .ok (.invokestatic 227, 3) := by decide +kernel
theorem dL_law_1510 : decode cL_law 1510 = .ok (.istore 5, 2) := by decide +kernel
theorem dL_law_1512 : decode cL_law 1512 = .ok (.aload_n 2, 1) := by decide +kernel
theorem dL_law_1513 : decode cL_law 1513 = .ok (.aload_n 0, 1) := by decide +kernel
theorem dL_law_1514 : decode cL_law 1514 = .ok (.iload 4, 2) := by decide +kernel
theorem dL_law_1516 : decode cL_law 1516 = .ok (.iconst 1, 1) := by decide +kernel
theorem dL_law_1517 : decode cL_law 1517 = .ok (.iadd, 1) := by decide +kernel
theorem dL_law_1518 : decode cL_law 1518 = .ok (.iaload, 1) := by decide +kernel
theorem dL_law_1519 : decode cL_law 1519 = .ok (.invokevirtual 229, 3) := by decide +kernel
theorem dL_law_1522 : decode cL_law 1522 = .ok (.istore 6, 2) := by decide +kernel
theorem dL_law_1524 : decode cL_law 1524 = .ok (.aload_n 2, 1) := by decide +kernel
theorem dL_law_1525 : decode cL_law 1525 = .ok (.invokevirtual 162, 3) := by decide +kernel
theorem dL_law_1528 : decode cL_law 1528 = .ok (.iload 5, 2) := by decide +kernel
theorem dL_law_1530 : decode cL_law 1530 = .ok (.if_icmp .eq 5, 3) := by decide +kernel
theorem dL_law_1533 : decode cL_law 1533 = .ok (.iconst 0, 1) := by decide +kernel
theorem dL_law_1534 : decode cL_law 1534 = .ok (.ireturn, 1) := by decide +kernel
theorem dL_law_1535 : decode cL_law 1535 = .ok (.iload 5, 2) := by decide +kernel
theorem dL_law_1537 : decode cL_law 1537 = .ok (.ifCond .ne 15, 3) := by decide +kernel
theorem dL_law_1540 : decode cL_law 1540 = .ok (.aload_n 3, 1) := by decide +kernel
theorem dL_law_1541 : decode cL_law 1541 = .ok (.iconst 0, 1) := by decide +kernel
theorem dL_law_1542 : decode cL_law 1542 = .ok (.laload, 1) := by decide +kernel
theorem dL_law_1543 : decode cL_law 1543 = .ok (.iload 6, 2) := by decide +kernel
theorem dL_law_1545 : decode cL_law 1545 = .ok (.i2l, 1) := by decide +kernel
theorem dL_law_1546 : decode cL_law 1546 = .ok (.lcmp, 1) := by decide +kernel
theorem dL_law_1547 : decode cL_law 1547 = .ok (.ifCond .eq 5, 3) := by decide +kernel
theorem dL_law_1550 : decode cL_law 1550 = .ok (.iconst 0, 1) := by decide +kernel
theorem dL_law_1551 : decode cL_law 1551 = .ok (.ireturn, 1) := by decide +kernel
theorem dL_law_1552 : decode cL_law 1552 = .ok (.goto 834, 3) := by decide +kernel
theorem dL_law_1555 : decode cL_law 1555 = .ok (.aload_n 1, 1) := by decide +kernel
theorem dL_law_1556 : decode cL_law 1556 = .ok (.invokevirtual 230, 3) := by decide +kernel
theorem dL_law_1559 : decode cL_law 1559 = .ok (.aload_n 2, 1) := by decide +kernel
theorem dL_law_1560 : decode cL_law 1560 = .ok (.invokevirtual 233, 3) := by decide +kernel
theorem dL_law_1563 : decode cL_law 1563 = .ok (.if_icmp .eq 823, 3) := by decide +kernel
theorem dL_law_1566 : decode cL_law 1566 = .ok (.iconst 0, 1) := by decide +kernel
theorem dL_law_1567 : decode cL_law 1567 = .ok (.ireturn, 1) := by decide +kernel
theorem dL_law_1568 : decode cL_law 1568 = .ok (.aload_n 1, 1) := by decide +kernel
theorem dL_law_1569 : decode cL_law 1569 = .ok (.aload_n 0, 1) := by decide +kernel
theorem dL_law_1570 : decode cL_law 1570 = .ok (.iload 4, 2) := by decide +kernel
theorem dL_law_1572 : decode cL_law 1572 = .ok (.iconst 1, 1) := by decide +kernel
theorem dL_law_1573 : decode cL_law 1573 = .ok (.iadd, 1) := by decide +kernel
theorem dL_law_1574 : decode cL_law 1574 = .ok (.iaload, 1) := by decide +kernel
theorem dL_law_1575 : decode cL_law 1575 = .ok (.aload_n 3, 1) := by decide +kernel
theorem dL_law_1576 : decode cL_law 1576 = .ok (.invokestatic 234, 3) := by decide +kernel
theorem dL_law_1579 : decode cL_law 1579 = .ok (.istore 5, 2) := by decide +kernel
theorem dL_law_1581 : decode cL_law 1581 = .ok (.aload_n 2, 1) := by decide +kernel
theorem dL_law_1582 : decode cL_law 1582 = .ok (.aload_n 0, 1) := by decide +kernel
theorem dL_law_1583 : decode cL_law 1583 = .ok (.iload 4, 2) := by decide +kernel
theorem dL_law_1585 : decode cL_law 1585 = .ok (.iconst 1, 1) := by decide +kernel
theorem dL_law_1586 : decode cL_law 1586 = .ok (.iadd, 1) := by decide +kernel
theorem dL_law_1587 : decode cL_law 1587 = .ok (.iaload, 1) := by decide +kernel
theorem dL_law_1588 : decode cL_law 1588 = .ok (.invokevirtual 236, 3) := by decide +kernel
theorem dL_law_1591 : decode cL_law 1591 = .ok (.istore 6, 2) := by decide +kernel
theorem dL_law_1593 : decode cL_law 1593 = .ok (.aload_n 2, 1) := by decide +kernel
theorem dL_law_1594 : decode cL_law 1594 = .ok (.invokevirtual 162, 3) := by decide +kernel
theorem dL_law_1597 : decode cL_law 1597 = .ok (.iload 5, 2) := by decide +kernel
theorem dL_law_1599 : decode cL_law 1599 = .ok (.if_icmp .eq 5, 3) := by decide +kernel
theorem dL_law_1602 : decode cL_law 1602 = .ok (.iconst 0, 1) := by decide +kernel
theorem dL_law_1603 : decode cL_law 1603 = .ok (.ireturn, 1) := by decide +kernel
theorem dL_law_1604 : decode cL_law 1604 = .ok (.iload 5, 2) := by decide +kernel
theorem dL_law_1606 : decode cL_law 1606 = .ok (.ifCond .ne 15, 3) := by decide +kernel
theorem dL_law_1609 : decode cL_law 1609 = .ok (.aload_n 3, 1) := by decide +kernel
theorem dL_law_1610 : decode cL_law 1610 = .ok (.iconst 0, 1) := by decide +kernel
theorem dL_law_1611 : decode cL_law 1611 = .ok (.laload, 1) := by decide +kernel
theorem dL_law_1612 : decode cL_law 1612 = .ok (.iload 6, 2) := by decide +kernel
theorem dL_law_1614 : decode cL_law 1614 = .ok (.i2l, 1) := by decide +kernel
theorem dL_law_1615 : decode cL_law 1615 = .ok (.lcmp, 1) := by decide +kernel
theorem dL_law_1616 : decode cL_law 1616 = .ok (.ifCond .eq 5, 3) := by decide +kernel
theorem dL_law_1619 : decode cL_law 1619 = .ok (.iconst 0, 1) := by decide +kernel
theorem dL_law_1620 : decode cL_law 1620 = .ok (.ireturn, 1) := by decide +kernel
theorem dL_law_1621 : decode cL_law 1621 = .ok (.goto 765, 3) := by decide +kernel
theorem dL_law_1624 : decode cL_law 1624 = .ok (.aload_n 1, 1) := by decide +kernel
theorem dL_law_1625 : decode cL_law 1625 = .ok (.aload_n 0, 1) := by decide +kernel
theorem dL_law_1626 : decode cL_law 1626 = .ok (.iload 4, 2) := by decide +kernel
theorem dL_law_1628 : decode cL_law 1628 = .ok (.iconst 1, 1) := by decide +kernel
theorem dL_law_1629 : decode cL_law 1629 = .ok (.iadd, 1) := by decide +kernel
theorem dL_law_1630 : decode cL_law 1630 = .ok (.iaload, 1) := by decide +kernel
theorem dL_law_1631 : decode cL_law 1631 = .ok (.aload_n 3, 1) := by decide +kernel
theorem dL_law_1632 : decode cL_law 1632 = .ok (.invokestatic 237, 3) := by decide +kernel
theorem dL_law_1635 : decode cL_law 1635 = .ok (.istore 5, 2) := by decide +kernel
theorem dL_law_1637 : decode cL_law 1637 = .ok (.aload_n 2, 1) := by decide +kernel
theorem dL_law_1638 : decode cL_law 1638 = .ok (.aload_n 0, 1) := by decide +kernel
theorem dL_law_1639 : decode cL_law 1639 = .ok (.iload 4, 2) := by decide +kernel
theorem dL_law_1641 : decode cL_law 1641 = .ok (.iconst 1, 1) := by decide +kernel
theorem dL_law_1642 : decode cL_law 1642 = .ok (.iadd, 1) := by decide +kernel
theorem dL_law_1643 : decode cL_law 1643 = .ok (.iaload, 1) := by decide +kernel
theorem dL_law_1644 : decode cL_law 1644 = .ok (.invokevirtual 239, 3) := by decide +kernel
theorem dL_law_1647 : decode cL_law 1647 = .ok (.istore 6, 2) := by decide +kernel
theorem dL_law_1649 : decode cL_law 1649 = .ok (.aload_n 2, 1) := by decide +kernel
theorem dL_law_1650 : decode cL_law 1650 = .ok (.invokevirtual 162, 3) := by decide +kernel
theorem dL_law_1653 : decode cL_law 1653 = .ok (.iload 5, 2) := by decide +kernel
theorem dL_law_1655 : decode cL_law 1655 = .ok (.if_icmp .eq 5, 3) := by decide +kernel
theorem dL_law_1658 : decode cL_law 1658 = .ok (.iconst 0, 1) := by decide +kernel
theorem dL_law_1659 : decode cL_law 1659 = .ok (.ireturn, 1) := by decide +kernel
theorem dL_law_1660 : decode cL_law 1660 = .ok (.iload 5, 2) := by decide +kernel
theorem dL_law_1662 : decode cL_law 1662 = .ok (.ifCond .ne 15, 3) := by decide +kernel
theorem dL_law_1665 : decode cL_law 1665 = .ok (.aload_n 3, 1) := by decide +kernel
theorem dL_law_1666 : decode cL_law 1666 = .ok (.iconst 0, 1) := by decide +kernel
theorem dL_law_1667 : decode cL_law 1667 = .ok (.laload, 1) := by decide +kernel
theorem dL_law_1668 : decode cL_law 1668 = .ok (.iload 6, 2) := by decide +kernel
theorem dL_law_1670 : decode cL_law 1670 = .ok (.i2l, 1) := by decide +kernel
theorem dL_law_1671 : decode cL_law 1671 = .ok (.lcmp, 1) := by decide +kernel
theorem dL_law_1672 : decode cL_law 1672 = .ok (.ifCond .eq 5, 3) := by decide +kernel
theorem dL_law_1675 : decode cL_law 1675 = .ok (.iconst 0, 1) := by decide +kernel
theorem dL_law_1676 : decode cL_law 1676 = .ok (.ireturn, 1) := by decide +kernel
theorem dL_law_1677 : decode cL_law 1677 = .ok (.goto 709, 3) := by decide +kernel
theorem dL_law_1680 : decode cL_law 1680 = .ok (.aload_n 1, 1) := by decide +kernel
theorem dL_law_1681 : decode cL_law 1681 = .ok (.aload_n 0, 1) := by decide +kernel
theorem dL_law_1682 : decode cL_law 1682 = .ok (.iload 4, 2) := by decide +kernel
theorem dL_law_1684 : decode cL_law 1684 = .ok (.iconst 1, 1) := by decide +kernel
theorem dL_law_1685 : decode cL_law 1685 = .ok (.iadd, 1) := by decide +kernel
theorem dL_law_1686 : decode cL_law 1686 = .ok (.iaload, 1) := by decide +kernel
theorem dL_law_1687 : decode cL_law 1687 = .ok (.aload_n 3, 1) := by decide +kernel
theorem dL_law_1688 : decode cL_law 1688 = .ok (.invokestatic 240, 3) := by decide +kernel
theorem dL_law_1691 : decode cL_law 1691 = .ok (.istore 5, 2) := by decide +kernel
theorem dL_law_1693 : decode cL_law 1693 = .ok (.aload_n 2, 1) := by decide +kernel
theorem dL_law_1694 : decode cL_law 1694 = .ok (.aload_n 0, 1) := by decide +kernel
theorem dL_law_1695 : decode cL_law 1695 = .ok (.iload 4, 2) := by decide +kernel
theorem dL_law_1697 : decode cL_law 1697 = .ok (.iconst 1, 1) := by decide +kernel
theorem dL_law_1698 : decode cL_law 1698 = .ok (.iadd, 1) := by decide +kernel
theorem dL_law_1699 : decode cL_law 1699 = .ok (.iaload, 1) := by decide +kernel
theorem dL_law_1700 : decode cL_law 1700 = .ok (.invokevirtual 242, 3) := by decide +kernel
theorem dL_law_1703 : decode cL_law 1703 = .ok (.istore 6, 2) := by decide +kernel
theorem dL_law_1705 : decode cL_law 1705 = .ok (.aload_n 2, 1) := by decide +kernel
theorem dL_law_1706 : decode cL_law 1706 = .ok (.invokevirtual 162, 3) := by decide +kernel
theorem dL_law_1709 : decode cL_law 1709 = .ok (.iload 5, 2) := by decide +kernel
theorem dL_law_1711 : decode cL_law 1711 = .ok (.if_icmp .eq 5, 3) := by decide +kernel
theorem dL_law_1714 : decode cL_law 1714 = .ok (.iconst 0, 1) := by decide +kernel
theorem dL_law_1715 : decode cL_law 1715 = .ok (.ireturn, 1) := by decide +kernel
theorem dL_law_1716 : decode cL_law 1716 = .ok (.iload 5, 2) := by decide +kernel
theorem dL_law_1718 : decode cL_law 1718 = .ok (.ifCond .ne 15, 3) := by decide +kernel
theorem dL_law_1721 : decode cL_law 1721 = .ok (.aload_n 3, 1) := by decide +kernel
theorem dL_law_1722 : decode cL_law 1722 = .ok (.iconst 0, 1) := by decide +kernel
theorem dL_law_1723 : decode cL_law 1723 = .ok (.laload, 1) := by decide +kernel
theorem dL_law_1724 : decode cL_law 1724 = .ok (.iload 6, 2) := by decide +kernel
theorem dL_law_1726 : decode cL_law 1726 = .ok (.i2l, 1) := by decide +kernel
theorem dL_law_1727 : decode cL_law 1727 = .ok (.lcmp, 1) := by decide +kernel
theorem dL_law_1728 : decode cL_law 1728 = .ok (.ifCond .eq 5, 3) := by decide +kernel
theorem dL_law_1731 : decode cL_law 1731 = .ok (.iconst 0, 1) := by decide +kernel
theorem dL_law_1732 : decode cL_law 1732 = .ok (.ireturn, 1) := by decide +kernel
theorem dL_law_1733 : decode cL_law 1733 = .ok (.goto 653, 3) := by decide +kernel
theorem dL_law_1736 : decode cL_law 1736 = .ok (.aload_n 1, 1) := by decide +kernel
theorem dL_law_1737 : decode cL_law 1737 = .ok (.aload_n 0, 1) := by decide +kernel
theorem dL_law_1738 : decode cL_law 1738 = .ok (.iload 4, 2) := by decide +kernel
theorem dL_law_1740 : decode cL_law 1740 = .ok (.iconst 1, 1) := by decide +kernel
theorem dL_law_1741 : decode cL_law 1741 = .ok (.iadd, 1) := by decide +kernel
theorem dL_law_1742 : decode cL_law 1742 = .ok (.iaload, 1) := by decide +kernel
theorem dL_law_1743 : decode cL_law 1743 = .ok (.aload_n 3, 1) := by decide +kernel
theorem dL_law_1744 : decode cL_law 1744 = .ok (.invokestatic 243, 3) := by decide +kernel
theorem dL_law_1747 : decode cL_law 1747 = .ok (.istore 5, 2) := by decide +kernel
theorem dL_law_1749 : decode cL_law 1749 = .ok (.aload_n 2, 1) := by decide +kernel
theorem dL_law_1750 : decode cL_law 1750 = .ok (.aload_n 0, 1) := by decide +kernel
theorem dL_law_1751 : decode cL_law 1751 = .ok (.iload 4, 2) := by decide +kernel
theorem dL_law_1753 : decode cL_law 1753 = .ok (.iconst 1, 1) := by decide +kernel
theorem dL_law_1754 : decode cL_law 1754 = .ok (.iadd, 1) := by decide +kernel
theorem dL_law_1755 : decode cL_law 1755 = .ok (.iaload, 1) := by decide +kernel
theorem dL_law_1756 : decode cL_law 1756 = .ok (.invokevirtual 245, 3) := by decide +kernel
theorem dL_law_1759 : decode cL_law 1759 = .ok (.istore 6, 2) := by decide +kernel
theorem dL_law_1761 : decode cL_law 1761 = .ok (.aload_n 2, 1) := by decide +kernel
theorem dL_law_1762 : decode cL_law 1762 = .ok (.invokevirtual 162, 3) := by decide +kernel
theorem dL_law_1765 : decode cL_law 1765 = .ok (.iload 5, 2) := by decide +kernel
theorem dL_law_1767 : decode cL_law 1767 = .ok (.if_icmp .eq 5, 3) := by decide +kernel
theorem dL_law_1770 : decode cL_law 1770 = .ok (.iconst 0, 1) := by decide +kernel
theorem dL_law_1771 : decode cL_law 1771 = .ok (.ireturn, 1) := by decide +kernel
theorem dL_law_1772 : decode cL_law 1772 = .ok (.iload 5, 2) := by decide +kernel
theorem dL_law_1774 : decode cL_law 1774 = .ok (.ifCond .ne 15, 3) := by decide +kernel
theorem dL_law_1777 : decode cL_law 1777 = .ok (.aload_n 3, 1) := by decide +kernel
theorem dL_law_1778 : decode cL_law 1778 = .ok (.iconst 0, 1) := by decide +kernel
theorem dL_law_1779 : decode cL_law 1779 = .ok (.laload, 1) := by decide +kernel
theorem dL_law_1780 : decode cL_law 1780 = .ok (.iload 6, 2) := by decide +kernel
theorem dL_law_1782 : decode cL_law 1782 = .ok (.i2l, 1) := by decide +kernel
theorem dL_law_1783 : decode cL_law 1783 = .ok (.lcmp, 1) := by decide +kernel
theorem dL_law_1784 : decode cL_law 1784 = .ok (.ifCond .eq 5, 3) := by decide +kernel
theorem dL_law_1787 : decode cL_law 1787 = .ok (.iconst 0, 1) := by decide +kernel
theorem dL_law_1788 : decode cL_law 1788 = .ok (.ireturn, 1) := by decide +kernel
theorem dL_law_1789 : decode cL_law 1789 = .ok (.goto 597, 3) := by decide +kernel
theorem dL_law_1792 : decode cL_law 1792 = .ok (.aload_n 1, 1) := by decide +kernel
theorem dL_law_1793 : decode cL_law 1793 = .ok (.aload_n 0, 1) := by decide +kernel
theorem dL_law_1794 : decode cL_law 1794 = .ok (.iload 4, 2) := by decide +kernel
theorem dL_law_1796 : decode cL_law 1796 = .ok (.iconst 1, 1) := by decide +kernel
theorem dL_law_1797 : decode cL_law 1797 = .ok (.iadd, 1) := by decide +kernel
theorem dL_law_1798 : decode cL_law 1798 = .ok (.iaload, 1) := by decide +kernel
theorem dL_law_1799 : decode cL_law 1799 = .ok (.aload_n 3, 1) := by decide +kernel
theorem dL_law_1800 : decode cL_law 1800 = .ok (.invokestatic 246, 3) := by decide +kernel
theorem dL_law_1803 : decode cL_law 1803 = .ok (.istore 5, 2) := by decide +kernel
theorem dL_law_1805 : decode cL_law 1805 = .ok (.aload_n 2, 1) := by decide +kernel
theorem dL_law_1806 : decode cL_law 1806 = .ok (.aload_n 0, 1) := by decide +kernel
theorem dL_law_1807 : decode cL_law 1807 = .ok (.iload 4, 2) := by decide +kernel
theorem dL_law_1809 : decode cL_law 1809 = .ok (.iconst 1, 1) := by decide +kernel
theorem dL_law_1810 : decode cL_law 1810 = .ok (.iadd, 1) := by decide +kernel
theorem dL_law_1811 : decode cL_law 1811 = .ok (.iaload, 1) := by decide +kernel
theorem dL_law_1812 : decode cL_law 1812 = .ok (.invokevirtual 248, 3) := by decide +kernel
theorem dL_law_1815 : decode cL_law 1815 = .ok (.istore 6, 2) := by decide +kernel
theorem dL_law_1817 : decode cL_law 1817 = .ok (.aload_n 2, 1) := by decide +kernel
theorem dL_law_1818 : decode cL_law 1818 = .ok (.invokevirtual 162, 3) := by decide +kernel
theorem dL_law_1821 : decode cL_law 1821 = .ok (.iload 5, 2) := by decide +kernel
theorem dL_law_1823 : decode cL_law 1823 = .ok (.if_icmp .eq 5, 3) := by decide +kernel
theorem dL_law_1826 : decode cL_law 1826 = .ok (.iconst 0, 1) := by decide +kernel
theorem dL_law_1827 : decode cL_law 1827 = .ok (.ireturn, 1) := by decide +kernel
theorem dL_law_1828 : decode cL_law 1828 = .ok (.iload 5, 2) := by decide +kernel
theorem dL_law_1830 : decode cL_law 1830 = .ok (.ifCond .ne 15, 3) := by decide +kernel
theorem dL_law_1833 : decode cL_law 1833 = .ok (.aload_n 3, 1) := by decide +kernel
theorem dL_law_1834 : decode cL_law 1834 = .ok (.iconst 0, 1) := by decide +kernel
theorem dL_law_1835 : decode cL_law 1835 = .ok (.laload, 1) := by decide +kernel
theorem dL_law_1836 : decode cL_law 1836 = .ok (.iload 6, 2) := by decide +kernel
theorem dL_law_1838 : decode cL_law 1838 = .ok (.i2l, 1) := by decide +kernel
theorem dL_law_1839 : decode cL_law 1839 = .ok (.lcmp, 1) := by decide +kernel
theorem dL_law_1840 : decode cL_law 1840 = .ok (.ifCond .eq 5, 3) := by decide +kernel
theorem dL_law_1843 : decode cL_law 1843 = .ok (.iconst 0, 1) := by decide +kernel
theorem dL_law_1844 : decode cL_law 1844 = .ok (.ireturn, 1) := by decide +kernel
theorem dL_law_1845 : decode cL_law 1845 = .ok (.goto 541, 3) := by decide +kernel
theorem dL_law_1848 : decode cL_law 1848 = .ok (.aload_n 1, 1) := by decide +kernel
theorem dL_law_1849 : decode cL_law 1849 = .ok (.aload_n 0, 1) := by decide +kernel
theorem dL_law_1850 : decode cL_law 1850 = .ok (.iload 4, 2) := by decide +kernel
theorem dL_law_1852 : decode cL_law 1852 = .ok (.iconst 1, 1) := by decide +kernel
theorem dL_law_1853 : decode cL_law 1853 = .ok (.iadd, 1) := by decide +kernel
theorem dL_law_1854 : decode cL_law 1854 = .ok (.iaload, 1) := by decide +kernel
theorem dL_law_1855 : decode cL_law 1855 = .ok (.aload_n 3, 1) := by decide +kernel
theorem dL_law_1856 : decode cL_law 1856 = .ok (.invokestatic 249, 3) := by decide +kernel
theorem dL_law_1859 : decode cL_law 1859 = .ok (.istore 5, 2) := by decide +kernel
theorem dL_law_1861 : decode cL_law 1861 = .ok (.aload_n 2, 1) := by decide +kernel
theorem dL_law_1862 : decode cL_law 1862 = .ok (.aload_n 0, 1) := by decide +kernel
theorem dL_law_1863 : decode cL_law 1863 = .ok (.iload 4, 2) := by decide +kernel
theorem dL_law_1865 : decode cL_law 1865 = .ok (.iconst 1, 1) := by decide +kernel
theorem dL_law_1866 : decode cL_law 1866 = .ok (.iadd, 1) := by decide +kernel
theorem dL_law_1867 : decode cL_law 1867 = .ok (.iaload, 1) := by decide +kernel
theorem dL_law_1868 : decode cL_law 1868 = .ok (.invokevirtual 251, 3) := by decide +kernel
theorem dL_law_1871 : decode cL_law 1871 = .ok (.istore 6, 2) := by decide +kernel
theorem dL_law_1873 : decode cL_law 1873 = .ok (.aload_n 2, 1) := by decide +kernel
theorem dL_law_1874 : decode cL_law 1874 = .ok (.invokevirtual 162, 3) := by decide +kernel
theorem dL_law_1877 : decode cL_law 1877 = .ok (.iload 5, 2) := by decide +kernel
theorem dL_law_1879 : decode cL_law 1879 = .ok (.if_icmp .eq 5, 3) := by decide +kernel
theorem dL_law_1882 : decode cL_law 1882 = .ok (.iconst 0, 1) := by decide +kernel
theorem dL_law_1883 : decode cL_law 1883 = .ok (.ireturn, 1) := by decide +kernel
theorem dL_law_1884 : decode cL_law 1884 = .ok (.iload 5, 2) := by decide +kernel
theorem dL_law_1886 : decode cL_law 1886 = .ok (.ifCond .ne 15, 3) := by decide +kernel
theorem dL_law_1889 : decode cL_law 1889 = .ok (.aload_n 3, 1) := by decide +kernel
theorem dL_law_1890 : decode cL_law 1890 = .ok (.iconst 0, 1) := by decide +kernel
theorem dL_law_1891 : decode cL_law 1891 = .ok (.laload, 1) := by decide +kernel
theorem dL_law_1892 : decode cL_law 1892 = .ok (.iload 6, 2) := by decide +kernel
theorem dL_law_1894 : decode cL_law 1894 = .ok (.i2l, 1) := by decide +kernel
theorem dL_law_1895 : decode cL_law 1895 = .ok (.lcmp, 1) := by decide +kernel
theorem dL_law_1896 : decode cL_law 1896 = .ok (.ifCond .eq 5, 3) := by decide +kernel
theorem dL_law_1899 : decode cL_law 1899 = .ok (.iconst 0, 1) := by decide +kernel
theorem dL_law_1900 : decode cL_law 1900 = .ok (.ireturn, 1) := by decide +kernel
theorem dL_law_1901 : decode cL_law 1901 = .ok (.goto 485, 3) := by decide +kernel
theorem dL_law_1904 : decode cL_law 1904 = .ok (.aload_n 1, 1) := by decide +kernel
theorem dL_law_1905 : decode cL_law 1905 = .ok (.aload_n 0, 1) := by decide +kernel
theorem dL_law_1906 : decode cL_law 1906 = .ok (.iload 4, 2) := by decide +kernel
theorem dL_law_1908 : decode cL_law 1908 = .ok (.iconst 1, 1) := by decide +kernel
theorem dL_law_1909 : decode cL_law 1909 = .ok (.iadd, 1) := by decide +kernel
theorem dL_law_1910 : decode cL_law 1910 = .ok (.iaload, 1) := by decide +kernel
theorem dL_law_1911 : decode cL_law 1911 = .ok (.aload_n 3, 1) := by decide +kernel
theorem dL_law_1912 : decode cL_law 1912 = .ok (.invokestatic 252, 3) := by decide +kernel
theorem dL_law_1915 : decode cL_law 1915 = .ok (.istore 5, 2) := by decide +kernel
theorem dL_law_1917 : decode cL_law 1917 = .ok (.aload_n 2, 1) := by decide +kernel
theorem dL_law_1918 : decode cL_law 1918 = .ok (.aload_n 0, 1) := by decide +kernel
theorem dL_law_1919 : decode cL_law 1919 = .ok (.iload 4, 2) := by decide +kernel
theorem dL_law_1921 : decode cL_law 1921 = .ok (.iconst 1, 1) := by decide +kernel
theorem dL_law_1922 : decode cL_law 1922 = .ok (.iadd, 1) := by decide +kernel
theorem dL_law_1923 : decode cL_law 1923 = .ok (.iaload, 1) := by decide +kernel
theorem dL_law_1924 : decode cL_law 1924 = .ok (.invokevirtual 254, 3) := by decide +kernel
theorem dL_law_1927 : decode cL_law 1927 = .ok (.istore 6, 2) := by decide +kernel
theorem dL_law_1929 : decode cL_law 1929 = .ok (.aload_n 2, 1) := by decide +kernel
theorem dL_law_1930 : decode cL_law 1930 = .ok (.invokevirtual 162, 3) := by decide +kernel
theorem dL_law_1933 : decode cL_law 1933 = .ok (.iload 5, 2) := by decide +kernel
theorem dL_law_1935 : decode cL_law 1935 = .ok (.if_icmp .eq 5, 3) := by decide +kernel
theorem dL_law_1938 : decode cL_law 1938 = .ok (.iconst 0, 1) := by decide +kernel
theorem dL_law_1939 : decode cL_law 1939 = .ok (.ireturn, 1) := by decide +kernel
theorem dL_law_1940 : decode cL_law 1940 = .ok (.iload 5, 2) := by decide +kernel
theorem dL_law_1942 : decode cL_law 1942 = .ok (.ifCond .ne 15, 3) := by decide +kernel
theorem dL_law_1945 : decode cL_law 1945 = .ok (.aload_n 3, 1) := by decide +kernel
theorem dL_law_1946 : decode cL_law 1946 = .ok (.iconst 0, 1) := by decide +kernel
theorem dL_law_1947 : decode cL_law 1947 = .ok (.laload, 1) := by decide +kernel
theorem dL_law_1948 : decode cL_law 1948 = .ok (.iload 6, 2) := by decide +kernel
theorem dL_law_1950 : decode cL_law 1950 = .ok (.i2l, 1) := by decide +kernel
theorem dL_law_1951 : decode cL_law 1951 = .ok (.lcmp, 1) := by decide +kernel
theorem dL_law_1952 : decode cL_law 1952 = .ok (.ifCond .eq 5, 3) := by decide +kernel
theorem dL_law_1955 : decode cL_law 1955 = .ok (.iconst 0, 1) := by decide +kernel
theorem dL_law_1956 : decode cL_law 1956 = .ok (.ireturn, 1) := by decide +kernel
theorem dL_law_1957 : decode cL_law 1957 = .ok (.goto 429, 3) := by decide +kernel
theorem dL_law_1960 : decode cL_law 1960 = .ok (.aload_n 1, 1) := by decide +kernel
theorem dL_law_1961 : decode cL_law 1961 = .ok (.aload_n 0, 1) := by decide +kernel
theorem dL_law_1962 : decode cL_law 1962 = .ok (.iload 4, 2) := by decide +kernel
theorem dL_law_1964 : decode cL_law 1964 = .ok (.iconst 1, 1) := by decide +kernel
theorem dL_law_1965 : decode cL_law 1965 = .ok (.iadd, 1) := by decide +kernel
theorem dL_law_1966 : decode cL_law 1966 = .ok (.iaload, 1) := by decide +kernel
theorem dL_law_1967 : decode cL_law 1967 = .ok (.aload_n 3, 1) := by decide +kernel
theorem dL_law_1968 : decode cL_law 1968 = .ok (.invokestatic 255, 3) := by decide +kernel
theorem dL_law_1971 : decode cL_law 1971 = .ok (.istore 5, 2) := by decide +kernel
theorem dL_law_1973 : decode cL_law 1973 = .ok (.aload_n 2, 1) := by decide +kernel
theorem dL_law_1974 : decode cL_law 1974 = .ok (.aload_n 0, 1) := by decide +kernel
theorem dL_law_1975 : decode cL_law 1975 = .ok (.iload 4, 2) := by decide +kernel
theorem dL_law_1977 : decode cL_law 1977 = .ok (.iconst 1, 1) := by decide +kernel
theorem dL_law_1978 : decode cL_law 1978 = .ok (.iadd, 1) := by decide +kernel
theorem dL_law_1979 : decode cL_law 1979 = .ok (.iaload, 1) := by decide +kernel
theorem dL_law_1980 : decode cL_law 1980 = .ok (.invokevirtual 257, 3) := by decide +kernel
theorem dL_law_1983 : decode cL_law 1983 = .ok (.istore 6, 2) := by decide +kernel
theorem dL_law_1985 : decode cL_law 1985 = .ok (.aload_n 2, 1) := by decide +kernel
theorem dL_law_1986 : decode cL_law 1986 = .ok (.invokevirtual 162, 3) := by decide +kernel
theorem dL_law_1989 : decode cL_law 1989 = .ok (.iload 5, 2) := by decide +kernel
theorem dL_law_1991 : decode cL_law 1991 = .ok (.if_icmp .eq 5, 3) := by decide +kernel
theorem dL_law_1994 : decode cL_law 1994 = .ok (.iconst 0, 1) := by decide +kernel
theorem dL_law_1995 : decode cL_law 1995 = .ok (.ireturn, 1) := by decide +kernel
theorem dL_law_1996 : decode cL_law 1996 = .ok (.iload 5, 2) := by decide +kernel
theorem dL_law_1998 : decode cL_law 1998 = .ok (.ifCond .ne 15, 3) := by decide +kernel
theorem dL_law_2001 : decode cL_law 2001 = .ok (.aload_n 3, 1) := by decide +kernel
theorem dL_law_2002 : decode cL_law 2002 = .ok (.iconst 0, 1) := by decide +kernel
theorem dL_law_2003 : decode cL_law 2003 = .ok (.laload, 1) := by decide +kernel
theorem dL_law_2004 : decode cL_law 2004 = .ok (.iload 6, 2) := by decide +kernel
theorem dL_law_2006 : decode cL_law 2006 = .ok (.i2l, 1) := by decide +kernel
theorem dL_law_2007 : decode cL_law 2007 = .ok (.lcmp, 1) := by decide +kernel
theorem dL_law_2008 : decode cL_law 2008 = .ok (.ifCond .eq 5, 3) := by decide +kernel
theorem dL_law_2011 : decode cL_law 2011 = .ok (.iconst 0, 1) := by decide +kernel
theorem dL_law_2012 : decode cL_law 2012 = .ok (.ireturn, 1) := by decide +kernel
theorem dL_law_2013 : decode cL_law 2013 = .ok (.goto 373, 3) := by decide +kernel
theorem dL_law_2016 : decode cL_law 2016 = .ok (.aload_n 1, 1) := by decide +kernel
theorem dL_law_2017 : decode cL_law 2017 = .ok (.aload_n 0, 1) := by decide +kernel
theorem dL_law_2018 : decode cL_law 2018 = .ok (.iload 4, 2) := by decide +kernel
theorem dL_law_2020 : decode cL_law 2020 = .ok (.iconst 1, 1) := by decide +kernel
theorem dL_law_2021 : decode cL_law 2021 = .ok (.iadd, 1) := by decide +kernel
theorem dL_law_2022 : decode cL_law 2022 = .ok (.iaload, 1) := by decide +kernel
theorem dL_law_2023 : decode cL_law 2023 = .ok (.aload_n 3, 1) := by decide +kernel
theorem dL_law_2024 : decode cL_law 2024 = .ok (.invokestatic 258, 3) := by decide +kernel
theorem dL_law_2027 : decode cL_law 2027 = .ok (.istore 5, 2) := by decide +kernel
theorem dL_law_2029 : decode cL_law 2029 = .ok (.aload_n 2, 1) := by decide +kernel
theorem dL_law_2030 : decode cL_law 2030 = .ok (.aload_n 0, 1) := by decide +kernel
theorem dL_law_2031 : decode cL_law 2031 = .ok (.iload 4, 2) := by decide +kernel
theorem dL_law_2033 : decode cL_law 2033 = .ok (.iconst 1, 1) := by decide +kernel
theorem dL_law_2034 : decode cL_law 2034 = .ok (.iadd, 1) := by decide +kernel
theorem dL_law_2035 : decode cL_law 2035 = .ok (.iaload, 1) := by decide +kernel
theorem dL_law_2036 : decode cL_law 2036 = .ok (.invokevirtual 260, 3) := by decide +kernel
theorem dL_law_2039 : decode cL_law 2039 = .ok (.istore 6, 2) := by decide +kernel
theorem dL_law_2041 : decode cL_law 2041 = .ok (.aload_n 2, 1) := by decide +kernel
theorem dL_law_2042 : decode cL_law 2042 = .ok (.invokevirtual 162, 3) := by decide +kernel
theorem dL_law_2045 : decode cL_law 2045 = .ok (.iload 5, 2) := by decide +kernel
theorem dL_law_2047 : decode cL_law 2047 = .ok (.if_icmp .eq 5, 3) := by decide +kernel
theorem dL_law_2050 : decode cL_law 2050 = .ok (.iconst 0, 1) := by decide +kernel
theorem dL_law_2051 : decode cL_law 2051 = .ok (.ireturn, 1) := by decide +kernel
theorem dL_law_2052 : decode cL_law 2052 = .ok (.iload 5, 2) := by decide +kernel
theorem dL_law_2054 : decode cL_law 2054 = .ok (.ifCond .ne 15, 3) := by decide +kernel
theorem dL_law_2057 : decode cL_law 2057 = .ok (.aload_n 3, 1) := by decide +kernel
theorem dL_law_2058 : decode cL_law 2058 = .ok (.iconst 0, 1) := by decide +kernel
theorem dL_law_2059 : decode cL_law 2059 = .ok (.laload, 1) := by decide +kernel
theorem dL_law_2060 : decode cL_law 2060 = .ok (.iload 6, 2) := by decide +kernel
theorem dL_law_2062 : decode cL_law 2062 = .ok (.i2l, 1) := by decide +kernel
theorem dL_law_2063 : decode cL_law 2063 = .ok (.lcmp, 1) := by decide +kernel
theorem dL_law_2064 : decode cL_law 2064 = .ok (.ifCond .eq 5, 3) := by decide +kernel
theorem dL_law_2067 : decode cL_law 2067 = .ok (.iconst 0, 1) := by decide +kernel
theorem dL_law_2068 : decode cL_law 2068 = .ok (.ireturn, 1) := by decide +kernel
theorem dL_law_2069 : decode cL_law 2069 = .ok (.goto 317, 3) := by decide +kernel
theorem dL_law_2072 : decode cL_law 2072 = .ok (.aload_n 1, 1) := by decide +kernel
theorem dL_law_2073 : decode cL_law 2073 = .ok (.invokevirtual 261, 3) := by decide +kernel
theorem dL_law_2076 : decode cL_law 2076 = .ok (.aload_n 2, 1) := by decide +kernel
theorem dL_law_2077 : decode cL_law 2077 = .ok (.invokevirtual 264, 3) := by decide +kernel
theorem dL_law_2080 : decode cL_law 2080 = .ok (.if_icmp .eq 306, 3) := by decide +kernel
theorem dL_law_2083 : decode cL_law 2083 = .ok (.iconst 0, 1) := by decide +kernel
theorem dL_law_2084 : decode cL_law 2084 = .ok (.ireturn, 1) := by decide +kernel
theorem dL_law_2085 : decode cL_law 2085 = .ok (.aload_n 1, 1) := by decide +kernel
theorem dL_law_2086 : decode cL_law 2086 = .ok (.invokevirtual 265, 3) := by decide +kernel
theorem dL_law_2089 : decode cL_law 2089 = .ok (.aload_n 2, 1) := by decide +kernel
theorem dL_law_2090 : decode cL_law 2090 = .ok (.invokevirtual 268, 3) := by decide +kernel
theorem dL_law_2093 : decode cL_law 2093 = .ok (.if_icmp .eq 293, 3) := by decide +kernel
theorem dL_law_2096 : decode cL_law 2096 = .ok (.iconst 0, 1) := by decide +kernel
theorem dL_law_2097 : decode cL_law 2097 = .ok (.ireturn, 1) := by decide +kernel
theorem dL_law_2098 : decode cL_law 2098 = .ok (.aload_n 1, 1) := by decide +kernel
theorem dL_law_2099 : decode cL_law 2099 = .ok (.aload_n 0, 1) := by decide +kernel
theorem dL_law_2100 : decode cL_law 2100 = .ok (.iload 4, 2) := by decide +kernel
theorem dL_law_2102 : decode cL_law 2102 = .ok (.iconst 1, 1) := by decide +kernel
theorem dL_law_2103 : decode cL_law 2103 = .ok (.iadd, 1) := by decide +kernel
theorem dL_law_2104 : decode cL_law 2104 = .ok (.iaload, 1) := by decide +kernel
theorem dL_law_2105 : decode cL_law 2105 = .ok (.aload_n 3, 1) := by decide +kernel
theorem dL_law_2106 : decode cL_law 2106 = .ok (.invokestatic 269, 3) := by decide +kernel
theorem dL_law_2109 : decode cL_law 2109 = .ok (.istore 5, 2) := by decide +kernel
theorem dL_law_2111 : decode cL_law 2111 = .ok (.aload_n 2, 1) := by decide +kernel
theorem dL_law_2112 : decode cL_law 2112 = .ok (.aload_n 0, 1) := by decide +kernel
theorem dL_law_2113 : decode cL_law 2113 = .ok (.iload 4, 2) := by decide +kernel
theorem dL_law_2115 : decode cL_law 2115 = .ok (.iconst 1, 1) := by decide +kernel
theorem dL_law_2116 : decode cL_law 2116 = .ok (.iadd, 1) := by decide +kernel
theorem dL_law_2117 : decode cL_law 2117 = .ok (.iaload, 1) := by decide +kernel
theorem dL_law_2118 : decode cL_law 2118 = .ok (.invokevirtual 271, 3) := by decide +kernel
theorem dL_law_2121 : decode cL_law 2121 = .ok (.istore 6, 2) := by decide +kernel
theorem dL_law_2123 : decode cL_law 2123 = .ok (.aload_n 2, 1) := by decide +kernel
theorem dL_law_2124 : decode cL_law 2124 = .ok (.invokevirtual 162, 3) := by decide +kernel
theorem dL_law_2127 : decode cL_law 2127 = .ok (.iload 5, 2) := by decide +kernel
theorem dL_law_2129 : decode cL_law 2129 = .ok (.if_icmp .eq 5, 3) := by decide +kernel
theorem dL_law_2132 : decode cL_law 2132 = .ok (.iconst 0, 1) := by decide +kernel
theorem dL_law_2133 : decode cL_law 2133 = .ok (.ireturn, 1) := by decide +kernel
theorem dL_law_2134 : decode cL_law 2134 = .ok (.iload 5, 2) := by decide +kernel
theorem dL_law_2136 : decode cL_law 2136 = .ok (.ifCond .ne 15, 3) := by decide +kernel
theorem dL_law_2139 : decode cL_law 2139 = .ok (.aload_n 3, 1) := by decide +kernel
theorem dL_law_2140 : decode cL_law 2140 = .ok (.iconst 0, 1) := by decide +kernel
theorem dL_law_2141 : decode cL_law 2141 = .ok (.laload, 1) := by decide +kernel
theorem dL_law_2142 : decode cL_law 2142 = .ok (.iload 6, 2) := by decide +kernel
theorem dL_law_2144 : decode cL_law 2144 = .ok (.i2l, 1) := by decide +kernel
theorem dL_law_2145 : decode cL_law 2145 = .ok (.lcmp, 1) := by decide +kernel
theorem dL_law_2146 : decode cL_law 2146 = .ok (.ifCond .eq 5, 3) := by decide +kernel
theorem dL_law_2149 : decode cL_law 2149 = .ok (.iconst 0, 1) := by decide +kernel
theorem dL_law_2150 : decode cL_law 2150 = .ok (.ireturn, 1) := by decide +kernel
theorem dL_law_2151 : decode cL_law 2151 = .ok (.goto 235, 3) := by decide +kernel
theorem dL_law_2154 : decode cL_law 2154 = .ok (.aload_n 1, 1) := by decide +kernel
theorem dL_law_2155 : decode cL_law 2155 = .ok (.invokevirtual 272, 3) := by decide +kernel
theorem dL_law_2158 : decode cL_law 2158 = .ok (.aload_n 2, 1) := by decide +kernel
theorem dL_law_2159 : decode cL_law 2159 = .ok (.invokevirtual 275, 3) := by decide +kernel
theorem dL_law_2162 : decode cL_law 2162 = .ok (.if_icmp .eq 224, 3) := by decide +kernel
theorem dL_law_2165 : decode cL_law 2165 = .ok (.iconst 0, 1) := by decide +kernel
theorem dL_law_2166 : decode cL_law 2166 = .ok (.ireturn, 1) := by decide +kernel
theorem dL_law_2167 : decode cL_law 2167 = .ok (.aload_n 1, 1) := by decide +kernel
theorem dL_law_2168 : decode cL_law 2168 = .ok (.aload_n 0, 1) := by decide +kernel
theorem dL_law_2169 : decode cL_law 2169 = .ok (.iload 4, 2) := by decide +kernel
theorem dL_law_2171 : decode cL_law 2171 = .ok (.iconst 1, 1) := by decide +kernel
theorem dL_law_2172 : decode cL_law 2172 = .ok (.iadd, 1) := by decide +kernel
theorem dL_law_2173 : decode cL_law 2173 = .ok (.iaload, 1) := by decide +kernel
theorem dL_law_2174 : decode cL_law 2174 = .ok (.aload_n 3, 1) := by decide +kernel
theorem dL_law_2175 : decode cL_law 2175 = .ok (.invokestatic 276, 3) := by decide +kernel
theorem dL_law_2178 : decode cL_law 2178 = .ok (.istore 5, 2) := by decide +kernel
theorem dL_law_2180 : decode cL_law 2180 = .ok (.aload_n 2, 1) := by decide +kernel
theorem dL_law_2181 : decode cL_law 2181 = .ok (.aload_n 0, 1) := by decide +kernel
theorem dL_law_2182 : decode cL_law 2182 = .ok (.iload 4, 2) := by decide +kernel
theorem dL_law_2184 : decode cL_law 2184 = .ok (.iconst 1, 1) := by decide +kernel
theorem dL_law_2185 : decode cL_law 2185 = .ok (.iadd, 1) := by decide +kernel
theorem dL_law_2186 : decode cL_law 2186 = .ok (.iaload, 1) := by decide +kernel
theorem dL_law_2187 : decode cL_law 2187 = .ok (.invokevirtual 278, 3) := by decide +kernel
theorem dL_law_2190 : decode cL_law 2190 = .ok (.istore 6, 2) := by decide +kernel
theorem dL_law_2192 : decode cL_law 2192 = .ok (.aload_n 2, 1) := by decide +kernel
theorem dL_law_2193 : decode cL_law 2193 = .ok (.invokevirtual 162, 3) := by decide +kernel
theorem dL_law_2196 : decode cL_law 2196 = .ok (.iload 5, 2) := by decide +kernel
theorem dL_law_2198 : decode cL_law 2198 = .ok (.if_icmp .eq 5, 3) := by decide +kernel
theorem dL_law_2201 : decode cL_law 2201 = .ok (.iconst 0, 1) := by decide +kernel
theorem dL_law_2202 : decode cL_law 2202 = .ok (.ireturn, 1) := by decide +kernel
theorem dL_law_2203 : decode cL_law 2203 = .ok (.iload 5, 2) := by decide +kernel
theorem dL_law_2205 : decode cL_law 2205 = .ok (.ifCond .ne 15, 3) := by decide +kernel
theorem dL_law_2208 : decode cL_law 2208 = .ok (.aload_n 3, 1) := by decide +kernel
theorem dL_law_2209 : decode cL_law 2209 = .ok (.iconst 0, 1) := by decide +kernel
theorem dL_law_2210 : decode cL_law 2210 = .ok (.laload, 1) := by decide +kernel
theorem dL_law_2211 : decode cL_law 2211 = .ok (.iload 6, 2) := by decide +kernel
theorem dL_law_2213 : decode cL_law 2213 = .ok (.i2l, 1) := by decide +kernel
theorem dL_law_2214 : decode cL_law 2214 = .ok (.lcmp, 1) := by decide +kernel
theorem dL_law_2215 : decode cL_law 2215 = .ok (.ifCond .eq 5, 3) := by decide +kernel
theorem dL_law_2218 : decode cL_law 2218 = .ok (.iconst 0, 1) := by decide +kernel
theorem dL_law_2219 : decode cL_law 2219 = .ok (.ireturn, 1) := by decide +kernel
theorem dL_law_2220 : decode cL_law 2220 = .ok (.goto 166, 3) := by decide +kernel
theorem dL_law_2223 : decode cL_law 2223 = .ok (.aload_n 1, 1) := by decide +kernel
theorem dL_law_2224 : decode cL_law 2224 = .ok (.invokevirtual 279, 3) := by decide +kernel
theorem dL_law_2227 : decode cL_law 2227 = .ok (.aload_n 2, 1) := by decide +kernel
theorem dL_law_2228 : decode cL_law 2228 = .ok (.invokevirtual 282, 3) := by decide +kernel
theorem dL_law_2231 : decode cL_law 2231 = .ok (.if_icmp .eq 155, 3) := by decide +kernel
theorem dL_law_2234 : decode cL_law 2234 = .ok (.iconst 0, 1) := by decide +kernel
theorem dL_law_2235 : decode cL_law 2235 = .ok (.ireturn, 1) := by decide +kernel
theorem dL_law_2236 : decode cL_law 2236 = .ok (.aload_n 1, 1) := by decide +kernel
theorem dL_law_2237 : decode cL_law 2237 = .ok (.invokevirtual 283, 3) := by decide +kernel
theorem dL_law_2240 : decode cL_law 2240 = .ok (.aload_n 2, 1) := by decide +kernel
theorem dL_law_2241 : decode cL_law 2241 = .ok (.invokevirtual 286, 3) := by decide +kernel
theorem dL_law_2244 : decode cL_law 2244 = .ok (.if_icmp .eq 142, 3) := by decide +kernel
theorem dL_law_2247 : decode cL_law 2247 = .ok (.iconst 0, 1) := by decide +kernel
theorem dL_law_2248 : decode cL_law 2248 = .ok (.ireturn, 1) := by decide +kernel
theorem dL_law_2249 : decode cL_law 2249 = .ok (.aload_n 1, 1) := by decide +kernel
theorem dL_law_2250 : decode cL_law 2250 = .ok (.aload_n 0, 1) := by decide +kernel
theorem dL_law_2251 : decode cL_law 2251 = .ok (.iload 4, 2) := by decide +kernel
theorem dL_law_2253 : decode cL_law 2253 = .ok (.iconst 1, 1) := by decide +kernel
theorem dL_law_2254 : decode cL_law 2254 = .ok (.iadd, 1) := by decide +kernel
theorem dL_law_2255 : decode cL_law 2255 = .ok (.iaload, 1) := by decide +kernel
theorem dL_law_2256 : decode cL_law 2256 = .ok (.aload_n 3, 1) := by decide +kernel
theorem dL_law_2257 : decode cL_law 2257 = .ok (.invokestatic 287, 3) := by decide +kernel
theorem dL_law_2260 : decode cL_law 2260 = .ok (.istore 5, 2) := by decide +kernel
theorem dL_law_2262 : decode cL_law 2262 = .ok (.aload_n 2, 1) := by decide +kernel
theorem dL_law_2263 : decode cL_law 2263 = .ok (.aload_n 0, 1) := by decide +kernel
theorem dL_law_2264 : decode cL_law 2264 = .ok (.iload 4, 2) := by decide +kernel
theorem dL_law_2266 : decode cL_law 2266 = .ok (.iconst 1, 1) := by decide +kernel
theorem dL_law_2267 : decode cL_law 2267 = .ok (.iadd, 1) := by decide +kernel
theorem dL_law_2268 : decode cL_law 2268 = .ok (.iaload, 1) := by decide +kernel
theorem dL_law_2269 : decode cL_law 2269 = .ok (.invokevirtual 289, 3) := by decide +kernel
theorem dL_law_2272 : decode cL_law 2272 = .ok (.istore 6, 2) := by decide +kernel
theorem dL_law_2274 : decode cL_law 2274 = .ok (.aload_n 2, 1) := by decide +kernel
theorem dL_law_2275 : decode cL_law 2275 = .ok (.invokevirtual 162, 3) := by decide +kernel
theorem dL_law_2278 : decode cL_law 2278 = .ok (.iload 5, 2) := by decide +kernel
theorem dL_law_2280 : decode cL_law 2280 = .ok (.if_icmp .eq 5, 3) := by decide +kernel
theorem dL_law_2283 : decode cL_law 2283 = .ok (.iconst 0, 1) := by decide +kernel
theorem dL_law_2284 : decode cL_law 2284 = .ok (.ireturn, 1) := by decide +kernel
theorem dL_law_2285 : decode cL_law 2285 = .ok (.iload 5, 2) := by decide +kernel
theorem dL_law_2287 : decode cL_law 2287 = .ok (.ifCond .ne 15, 3) := by decide +kernel
theorem dL_law_2290 : decode cL_law 2290 = .ok (.aload_n 3, 1) := by decide +kernel
theorem dL_law_2291 : decode cL_law 2291 = .ok (.iconst 0, 1) := by decide +kernel
theorem dL_law_2292 : decode cL_law 2292 = .ok (.laload, 1) := by decide +kernel
theorem dL_law_2293 : decode cL_law 2293 = .ok (.iload 6, 2) := by decide +kernel
theorem dL_law_2295 : decode cL_law 2295 = .ok (.i2l, 1) := by decide +kernel
theorem dL_law_2296 : decode cL_law 2296 = .ok (.lcmp, 1) := by decide +kernel
theorem dL_law_2297 : decode cL_law 2297 = .ok (.ifCond .eq 5, 3) := by decide +kernel
theorem dL_law_2300 : decode cL_law 2300 = .ok (.iconst 0, 1) := by decide +kernel
theorem dL_law_2301 : decode cL_law 2301 = .ok (.ireturn, 1) := by decide +kernel
theorem dL_law_2302 : decode cL_law 2302 = .ok (.goto 84, 3) := by decide +kernel
theorem dL_law_2305 : decode cL_law 2305 = .ok (.aload_n 1, 1) := by decide +kernel
theorem dL_law_2306 : decode cL_law 2306 = .ok (.aload_n 0, 1) := by decide +kernel
theorem dL_law_2307 : decode cL_law 2307 = .ok (.iload 4, 2) := by decide +kernel
theorem dL_law_2309 : decode cL_law 2309 = .ok (.iconst 1, 1) := by decide +kernel
theorem dL_law_2310 : decode cL_law 2310 = .ok (.iadd, 1) := by decide +kernel
theorem dL_law_2311 : decode cL_law 2311 = .ok (.iaload, 1) := by decide +kernel
theorem dL_law_2312 : decode cL_law 2312 = .ok (.aload_n 0, 1) := by decide +kernel
theorem dL_law_2313 : decode cL_law 2313 = .ok (.iload 4, 2) := by decide +kernel
theorem dL_law_2315 : decode cL_law 2315 = .ok (.iconst 2, 1) := by decide +kernel
theorem dL_law_2316 : decode cL_law 2316 = .ok (.iadd, 1) := by decide +kernel
theorem dL_law_2317 : decode cL_law 2317 = .ok (.iaload, 1) := by decide +kernel
theorem dL_law_2318 : decode cL_law 2318 = .ok (.aload_n 3, 1) := by decide +kernel
theorem dL_law_2319 : decode cL_law 2319 = .ok (.invokestatic 290, 3) := by decide +kernel
theorem dL_law_2322 : decode cL_law 2322 = .ok (.istore 5, 2) := by decide +kernel
theorem dL_law_2324 : decode cL_law 2324 = .ok (.aload_n 2, 1) := by decide +kernel
theorem dL_law_2325 : decode cL_law 2325 = .ok (.aload_n 0, 1) := by decide +kernel
theorem dL_law_2326 : decode cL_law 2326 = .ok (.iload 4, 2) := by decide +kernel
theorem dL_law_2328 : decode cL_law 2328 = .ok (.iconst 1, 1) := by decide +kernel
theorem dL_law_2329 : decode cL_law 2329 = .ok (.iadd, 1) := by decide +kernel
theorem dL_law_2330 : decode cL_law 2330 = .ok (.iaload, 1) := by decide +kernel
theorem dL_law_2331 : decode cL_law 2331 = .ok (.aload_n 0, 1) := by decide +kernel
theorem dL_law_2332 : decode cL_law 2332 = .ok (.iload 4, 2) := by decide +kernel
theorem dL_law_2334 : decode cL_law 2334 = .ok (.iconst 2, 1) := by decide +kernel
theorem dL_law_2335 : decode cL_law 2335 = .ok (.iadd, 1) := by decide +kernel
theorem dL_law_2336 : decode cL_law 2336 = .ok (.iaload, 1) := by decide +kernel
theorem dL_law_2337 : decode cL_law 2337 = .ok (.invokevirtual 292, 3) := by decide +kernel
theorem dL_law_2340 : decode cL_law 2340 = .ok (.istore 6, 2) := by decide +kernel
theorem dL_law_2342 : decode cL_law 2342 = .ok (.aload_n 2, 1) := by decide +kernel
theorem dL_law_2343 : decode cL_law 2343 = .ok (.invokevirtual 162, 3) := by decide +kernel
theorem dL_law_2346 : decode cL_law 2346 = .ok (.iload 5, 2) := by decide +kernel
theorem dL_law_2348 : decode cL_law 2348 = .ok (.if_icmp .eq 5, 3) := by decide +kernel
theorem dL_law_2351 : decode cL_law 2351 = .ok (.iconst 0, 1) := by decide +kernel
theorem dL_law_2352 : decode cL_law 2352 = .ok (.ireturn, 1) := by decide +kernel
theorem dL_law_2353 : decode cL_law 2353 = .ok (.iload 5, 2) := by decide +kernel
theorem dL_law_2355 : decode cL_law 2355 = .ok (.ifCond .ne 15, 3) := by decide +kernel
theorem dL_law_2358 : decode cL_law 2358 = .ok (.aload_n 3, 1) := by decide +kernel
theorem dL_law_2359 : decode cL_law 2359 = .ok (.iconst 0, 1) := by decide +kernel
theorem dL_law_2360 : decode cL_law 2360 = .ok (.laload, 1) := by decide +kernel
theorem dL_law_2361 : decode cL_law 2361 = .ok (.iload 6, 2) := by decide +kernel
theorem dL_law_2363 : decode cL_law 2363 = .ok (.i2l, 1) := by decide +kernel
theorem dL_law_2364 : decode cL_law 2364 = .ok (.lcmp, 1) := by decide +kernel
theorem dL_law_2365 : decode cL_law 2365 = .ok (.ifCond .eq 5, 3) := by decide +kernel
theorem dL_law_2368 : decode cL_law 2368 = .ok (.iconst 0, 1) := by decide +kernel
theorem dL_law_2369 : decode cL_law 2369 = .ok (.ireturn, 1) := by decide +kernel
theorem dL_law_2370 : decode cL_law 2370 = .ok (.goto 16, 3) := by decide +kernel
theorem dL_law_2373 : decode cL_law 2373 = .ok (.aload_n 1, 1) := by decide +kernel
theorem dL_law_2374 : decode cL_law 2374 = .ok (.invokevirtual 293, 3) := by decide +kernel
theorem dL_law_2377 : decode cL_law 2377 = .ok (.aload_n 2, 1) := by decide +kernel
theorem dL_law_2378 : decode cL_law 2378 = .ok (.invokevirtual 296, 3) := by decide +kernel
theorem dL_law_2381 : decode cL_law 2381 = .ok (.if_icmp .eq 5, 3) := by decide +kernel
theorem dL_law_2384 : decode cL_law 2384 = .ok (.iconst 0, 1) := by decide +kernel
theorem dL_law_2385 : decode cL_law 2385 = .ok (.ireturn, 1) := by decide +kernel
theorem dL_law_2386 : decode cL_law 2386 = .ok (.iinc 4 6, 3) := by decide +kernel
theorem dL_law_2389 : decode cL_law 2389 = .ok (.goto (-2366), 3) := by decide +kernel
theorem dL_law_2392 : decode cL_law 2392 = .ok (.iconst 1, 1) := by decide +kernel
theorem dL_law_2393 : decode cL_law 2393 = .ok (.ireturn, 1) := by decide +kernel
