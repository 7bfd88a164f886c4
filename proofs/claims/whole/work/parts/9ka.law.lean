/-! 9k: the law's cases -/
abbrev lvH (i : Int) : List AV := [aR qS, aR (8, 0, 0, 0), aR (9, 0, 0, 0), aR (10, 0, 1, 0), aI i, aX, aX, aX, aX]
def HDL (X : Cx) (K : Kx) (i : Int) (u : Nat) (Q : State → Prop) : Prop := ∀ (M' : Id4 → Int → Int) (b' : Bool) (u' : Nat), INV M' → u' ≤ u + 8 → AW X K 2535 (lvH i) [] (M', R0 b') u' Q
theorem lv_f {i : Int} {w5 w6 w7 w8 : AV} : ∀ (j : Nat) (v : AV), (lvH i)[j]? = some v → isX v = false → ([aR qS, aR (8, 0, 0, 0), aR (9, 0, 0, 0), aR (10, 0, 1, 0), aI i, w5, w6, w7, w8] : List AV)[j]? = some v
  | 0, _, h, _ => h
  | 1, _, h, _ => h
  | 2, _, h, _ => h
  | 3, _, h, _ => h
  | 4, _, h, _ => h
  | 5, v, h, hv => by cases h; cases hv
  | 6, v, h, hv => by cases h; cases hv
  | 7, v, h, hv => by cases h; cases hv
  | 8, v, h, hv => by cases h; cases hv
  | n + 9, v, h, _ => by cases h
theorem HDL.fin {X : Cx} {K : Kx} {i : Int} {u : Nat} {Q : State → Prop} (h : HDL X K i u Q) {M' : Id4 → Int → Int} {b' : Bool} {u' : Nat} {w5 w6 w7 w8 : AV} (hI : INV M') (hu : u' ≤ u + 8) : AW X K 2535 [aR qS, aR (8, 0, 0, 0), aR (9, 0, 0, 0), aR (10, 0, 1, 0), aI i, w5, w6, w7, w8] [] (M', R0 b') u' Q := aw_forget (lv' := lvH i) rfl lv_f (h M' b' u' hI hu)
theorem cmp_same {x y : Int} (h : x = y) : (if x < y then (-1 : Int) else if x = y then 0 else 1) = 0 := by
  subst h
  rw [if_neg (Int.lt_irrefl x), if_pos rfl]
theorem mh_L_129 : MLH RL 129 yL_load cL_load 4 (some .int) [(0, 9, 12, 13)] 3 := ⟨by decide +kernel, by decide, (gwI 698 (by decide +kernel) rfl), (gwI 699 (by decide +kernel) rfl), (gwI 112 (by decide +kernel) rfl), (gwI 700 (by decide +kernel) rfl)⟩
theorem mh_L_158 : MLH RL 158 yL_find cL_find 4 (some .int) [(0, 9, 12, 13)] 3 := ⟨by decide +kernel, by decide, (gwI 923 (by decide +kernel) rfl), (gwI 924 (by decide +kernel) rfl), (gwI 112 (by decide +kernel) rfl), (gwI 925 (by decide +kernel) rfl)⟩
theorem mh_L_161 : MLH RL 161 yL_time cL_time 4 (some .int) [(0, 9, 12, 21)] 3 := ⟨by decide +kernel, by decide, (gwI 931 (by decide +kernel) rfl), (gwI 932 (by decide +kernel) rfl), (gwI 112 (by decide +kernel) rfl), (gwI 933 (by decide +kernel) rfl)⟩
theorem mh_L_164 : MLH RL 164 yL_span cL_span 5 (some .int) [(0, 10, 13, 21), (0, 10, 17, 13)] 4 := ⟨by decide +kernel, by decide, (gwI 959 (by decide +kernel) rfl), (gwI 960 (by decide +kernel) rfl), (gwI 112 (by decide +kernel) rfl), (gwI 961 (by decide +kernel) rfl)⟩
theorem mh_L_168 : MLH RL 168 yL_duration cL_duration 4 (some .int) [(0, 9, 12, 21)] 3 := ⟨by decide +kernel, by decide, (gwI 972 (by decide +kernel) rfl), (gwI 973 (by decide +kernel) rfl), (gwI 112 (by decide +kernel) rfl), (gwI 974 (by decide +kernel) rfl)⟩
theorem mh_L_171 : MLH RL 171 yL_slack cL_slack 4 (some .int) [(0, 9, 12, 21)] 3 := ⟨by decide +kernel, by decide, (gwI 980 (by decide +kernel) rfl), (gwI 981 (by decide +kernel) rfl), (gwI 112 (by decide +kernel) rfl), (gwI 982 (by decide +kernel) rfl)⟩
theorem mh_L_174 : MLH RL 174 yL_isKept cL_isKept 4 (some .int) [(0, 16, 19, 21)] 3 := ⟨by decide +kernel, by decide, (gwI 987 (by decide +kernel) rfl), (gwI 988 (by decide +kernel) rfl), (gwI 112 (by decide +kernel) rfl), (gwI 989 (by decide +kernel) rfl)⟩
theorem mh_L_181 : MLH RL 181 yL_firstBroken cL_firstBroken 3 (some .int) [(0, 8, 11, 41)] 2 := ⟨by decide +kernel, by decide, (gwI 994 (by decide +kernel) rfl), (gwI 995 (by decide +kernel) rfl), (gwI 112 (by decide +kernel) rfl), (gwI 996 (by decide +kernel) rfl)⟩
theorem mh_L_194 : MLH RL 194 yL_allowed cL_allowed 6 (some .int) [(0, 12, 15, 21)] 5 := ⟨by decide +kernel, by decide, (gwI 1018 (by decide +kernel) rfl), (gwI 1019 (by decide +kernel) rfl), (gwI 112 (by decide +kernel) rfl), (gwI 1020 (by decide +kernel) rfl)⟩
theorem mh_L_198 : MLH RL 198 yL_isAllowed cL_isAllowed 6 (some .int) [(0, 19, 22, 21), (0, 19, 26, 13)] 5 := ⟨by decide +kernel, by decide, (gwI 1032 (by decide +kernel) rfl), (gwI 1033 (by decide +kernel) rfl), (gwI 112 (by decide +kernel) rfl), (gwI 1034 (by decide +kernel) rfl)⟩
theorem mh_L_211 : MLH RL 211 yL_bound cL_bound 5 (some .int) [(0, 10, 13, 21), (0, 10, 17, 41)] 4 := ⟨by decide +kernel, by decide, (gwI 1040 (by decide +kernel) rfl), (gwI 1041 (by decide +kernel) rfl), (gwI 112 (by decide +kernel) rfl), (gwI 1042 (by decide +kernel) rfl)⟩
theorem mh_L_219 : MLH RL 219 yL_cycleLength cL_cycleLength 4 (some .int) [(0, 9, 12, 21)] 3 := ⟨by decide +kernel, by decide, (gwI 1048 (by decide +kernel) rfl), (gwI 1049 (by decide +kernel) rfl), (gwI 112 (by decide +kernel) rfl), (gwI 1050 (by decide +kernel) rfl)⟩
theorem mh_L_222 : MLH RL 222 yL_cycleSpan cL_cycleSpan 5 (some .int) [(0, 10, 13, 21)] 4 := ⟨by decide +kernel, by decide, (gwI 1060 (by decide +kernel) rfl), (gwI 1061 (by decide +kernel) rfl), (gwI 112 (by decide +kernel) rfl), (gwI 1062 (by decide +kernel) rfl)⟩
theorem mh_L_225 : MLH RL 225 yL_isForward cL_isForward 5 (some .int) [(0, 17, 20, 21)] 4 := ⟨by decide +kernel, by decide, (gwI 1072 (by decide +kernel) rfl), (gwI 1073 (by decide +kernel) rfl), (gwI 112 (by decide +kernel) rfl), (gwI 1074 (by decide +kernel) rfl)⟩
theorem mh_L_228 : MLH RL 228 yL_turns cL_turns 5 (some .int) [(0, 10, 13, 21), (0, 10, 17, 13)] 4 := ⟨by decide +kernel, by decide, (gwI 1079 (by decide +kernel) rfl), (gwI 1080 (by decide +kernel) rfl), (gwI 112 (by decide +kernel) rfl), (gwI 1081 (by decide +kernel) rfl)⟩
theorem mh_L_231 : MLH RL 231 yL_firstImpossible cL_firstImpossible 3 (some .int) [(0, 8, 11, 41)] 2 := ⟨by decide +kernel, by decide, (gwI 1110 (by decide +kernel) rfl), (gwI 1111 (by decide +kernel) rfl), (gwI 112 (by decide +kernel) rfl), (gwI 1112 (by decide +kernel) rfl)⟩
theorem mh_L_238 : MLH RL 238 yL_leastCost cL_leastCost 3 (some .int) [(0, 8, 11, 41)] 2 := ⟨by decide +kernel, by decide, (gwI 1118 (by decide +kernel) rfl), (gwI 1119 (by decide +kernel) rfl), (gwI 112 (by decide +kernel) rfl), (gwI 1120 (by decide +kernel) rfl)⟩
theorem mh_L_241 : MLH RL 241 yL_costIf cL_costIf 5 (some .int) [(0, 10, 13, 21), (0, 10, 17, 13)] 4 := ⟨by decide +kernel, by decide, (gwI 1129 (by decide +kernel) rfl), (gwI 1130 (by decide +kernel) rfl), (gwI 112 (by decide +kernel) rfl), (gwI 1131 (by decide +kernel) rfl)⟩
theorem mh_L_244 : MLH RL 244 yL_canRaise cL_canRaise 4 (some .int) [(0, 9, 12, 21)] 3 := ⟨by decide +kernel, by decide, (gwI 1136 (by decide +kernel) rfl), (gwI 1137 (by decide +kernel) rfl), (gwI 112 (by decide +kernel) rfl), (gwI 1138 (by decide +kernel) rfl)⟩
theorem mh_L_247 : MLH RL 247 yL_isCritical cL_isCritical 4 (some .int) [(0, 16, 19, 21)] 3 := ⟨by decide +kernel, by decide, (gwI 1143 (by decide +kernel) rfl), (gwI 1144 (by decide +kernel) rfl), (gwI 112 (by decide +kernel) rfl), (gwI 1145 (by decide +kernel) rfl)⟩
theorem mh_L_250 : MLH RL 250 yL_share cL_share 5 (some .int) [(0, 10, 13, 21), (0, 10, 17, 13)] 4 := ⟨by decide +kernel, by decide, (gwI 1154 (by decide +kernel) rfl), (gwI 1155 (by decide +kernel) rfl), (gwI 112 (by decide +kernel) rfl), (gwI 1156 (by decide +kernel) rfl)⟩
theorem mh_L_253 : MLH RL 253 yL_move cL_move 5 (some .int) [(0, 10, 13, 21), (0, 10, 17, 13)] 4 := ⟨by decide +kernel, by decide, (gwI 1161 (by decide +kernel) rfl), (gwI 1162 (by decide +kernel) rfl), (gwI 112 (by decide +kernel) rfl), (gwI 1163 (by decide +kernel) rfl)⟩
theorem mh_L_260 : MLH RL 260 yL_setSpan cL_setSpan 6 (some .int) [(0, 12, 15, 21), (0, 12, 19, 13)] 5 := ⟨by decide +kernel, by decide, (gwI 1168 (by decide +kernel) rfl), (gwI 1169 (by decide +kernel) rfl), (gwI 112 (by decide +kernel) rfl), (gwI 1170 (by decide +kernel) rfl)⟩
theorem mh_L_263 : MLH RL 263 yL_setWeight cL_setWeight 5 (some .int) [(0, 10, 13, 21), (0, 10, 17, 13)] 4 := ⟨by decide +kernel, by decide, (gwI 1179 (by decide +kernel) rfl), (gwI 1180 (by decide +kernel) rfl), (gwI 112 (by decide +kernel) rfl), (gwI 1181 (by decide +kernel) rfl)⟩
theorem mh_L_266 : MLH RL 266 yL_addSpan cL_addSpan 8 (some .int) [(0, 16, 19, 21), (0, 16, 23, 13), (0, 16, 27, 100)] 7 := ⟨by decide +kernel, by decide, (gwI 1186 (by decide +kernel) rfl), (gwI 1187 (by decide +kernel) rfl), (gwI 112 (by decide +kernel) rfl), (gwI 1188 (by decide +kernel) rfl)⟩
theorem mh_L_270 : MLH RL 270 yL_removeSpan cL_removeSpan 4 (some .int) [(0, 9, 12, 21)] 3 := ⟨by decide +kernel, by decide, (gwI 1212 (by decide +kernel) rfl), (gwI 1213 (by decide +kernel) rfl), (gwI 112 (by decide +kernel) rfl), (gwI 1214 (by decide +kernel) rfl)⟩
theorem mh_L_273 : MLH RL 273 yL_setPeriod cL_setPeriod 4 (some .int) [(0, 9, 12, 13), (0, 9, 15, 100)] 3 := ⟨by decide +kernel, by decide, (gwI 1219 (by decide +kernel) rfl), (gwI 1220 (by decide +kernel) rfl), (gwI 112 (by decide +kernel) rfl), (gwI 1221 (by decide +kernel) rfl)⟩
theorem mh_L_276 : MLH RL 276 yL_solve cL_solve 3 (some .int) [(0, 8, 11, 41)] 2 := ⟨by decide +kernel, by decide, (gwI 1227 (by decide +kernel) rfl), (gwI 1228 (by decide +kernel) rfl), (gwI 112 (by decide +kernel) rfl), (gwI 1229 (by decide +kernel) rfl)⟩
theorem mh_L_279 : MLH RL 279 yL_cheapen cL_cheapen 3 (some .int) [(0, 8, 11, 41)] 2 := ⟨by decide +kernel, by decide, (gwI 1239 (by decide +kernel) rfl), (gwI 1240 (by decide +kernel) rfl), (gwI 112 (by decide +kernel) rfl), (gwI 1241 (by decide +kernel) rfl)⟩
theorem mh_L_294 : MLH RL 294 yL_writeCycle cL_writeCycle 4 (some .int) [(0, 9, 12, 21)] 3 := ⟨by decide +kernel, by decide, (gwI 1246 (by decide +kernel) rfl), (gwI 1247 (by decide +kernel) rfl), (gwI 112 (by decide +kernel) rfl), (gwI 1248 (by decide +kernel) rfl)⟩
theorem mh_L_297 : MLH RL 297 yL_written cL_written 4 (some .int) [(0, 9, 12, 21)] 3 := ⟨by decide +kernel, by decide, (gwI 1253 (by decide +kernel) rfl), (gwI 1254 (by decide +kernel) rfl), (gwI 112 (by decide +kernel) rfl), (gwI 1255 (by decide +kernel) rfl)⟩
theorem lc_0 {X : Cx} {K : Kx} {Ln : Nat} {xs : Nat → Int32} {U9 : Nat} (F : Fx X K cL_law RL (some .boolean) 60 U9 false) (hk : K.2.2.2.1 = 9) (hX : LX X K Ln xs) (hL : Ln ≤ 3072) (i : Int) (hi : 0 ≤ i ∧ i + 6 ≤ Ln) (M : Id4 → Int → Int) (b : Bool) (hI : INV M) (u : Nat) (hu : u + 8 ≤ U9) {Q : State → Prop} (head : HDL X K i u Q) : AW X K 248 (lvH i) [] (M, R0 b) u Q := by
  obtain ⟨st, h8, h9, hp⟩ := hI
  refine aw_aload1 (pc := 248) F dL_law_248 ?_
  refine aw_aload0 (pc := 249) F dL_law_249 ?_
  refine aw_iload4 (pc := 250) F dL_law_250 ?_
  refine aw_iconst (pc := 252) F dL_law_252 ?_
  refine aw_iadd (pc := 253) F dL_law_253 ?_
  refine aw_sld (pc := 254) F hX dL_law_254 (by omega) hL ?_
  refine aw_aload0 (pc := 255) F dL_law_255 ?_
  refine aw_iload4 (pc := 256) F dL_law_256 ?_
  refine aw_iconst (pc := 258) F dL_law_258 ?_
  refine aw_iadd (pc := 259) F dL_law_259 ?_
  refine aw_sld (pc := 260) F hX dL_law_260 (by omega) hL ?_
  refine aw_aload0 (pc := 261) F dL_law_261 ?_
  refine aw_iload4 (pc := 262) F dL_law_262 ?_
  refine aw_iconst (pc := 264) F dL_law_264 ?_
  refine aw_iadd (pc := 265) F dL_law_265 ?_
  refine aw_sld (pc := 266) F hX dL_law_266 (by omega) hL ?_
  refine aw_aload0 (pc := 267) F dL_law_267 ?_
  refine aw_iload4 (pc := 268) F dL_law_268 ?_
  refine aw_iconst (pc := 270) F dL_law_270 ?_
  refine aw_iadd (pc := 271) F dL_law_271 ?_
  refine aw_sld (pc := 272) F hX dL_law_272 (by omega) hL ?_
  refine aw_aload0 (pc := 273) F dL_law_273 ?_
  refine aw_iload4 (pc := 274) F dL_law_274 ?_
  refine aw_iconst (pc := 276) F dL_law_276 ?_
  refine aw_iadd (pc := 277) F dL_law_277 ?_
  refine aw_sld (pc := 278) F hX dL_law_278 (by omega) hL ?_
  obtain ⟨V, st', hp', c8, c9⟩ := op_feed M b st (sI xs (i + 1)) (sI xs (i + 2)) (sI xs (i + 3)) (sI xs (i + 4)) (sI xs (i + 5))  h8 hp
  refine aw_gcallVI (pc := 279) (as9 := [aI (sI xs (i + 1)), aI (sI xs (i + 2)), aI (sI xs (i + 3)), aI (sI xs (i + 4)), aI (sI xs (i + 5))]) F dL_law_279 ml_L_125 rfl (by first | decide | (simp only [inB, cnt, rcnt]; omega)) c8 (Nat.le_of_ble_eq_true rfl) (Nat.le_of_ble_eq_true rfl) (by omega) (fun v σ9 g9 => ?_)
  obtain ⟨M1, ge, i8, f9, hv⟩ := g9
  subst ge
  rw [hv]
  refine aw_aload2 (pc := 282) F dL_law_282 ?_
  refine aw_aload0 (pc := 283) F dL_law_283 ?_
  refine aw_iload4 (pc := 284) F dL_law_284 ?_
  refine aw_iconst (pc := 286) F dL_law_286 ?_
  refine aw_iadd (pc := 287) F dL_law_287 ?_
  refine aw_sld (pc := 288) F hX dL_law_288 (by omega) hL ?_
  refine aw_aload0 (pc := 289) F dL_law_289 ?_
  refine aw_iload4 (pc := 290) F dL_law_290 ?_
  refine aw_iconst (pc := 292) F dL_law_292 ?_
  refine aw_iadd (pc := 293) F dL_law_293 ?_
  refine aw_sld (pc := 294) F hX dL_law_294 (by omega) hL ?_
  refine aw_aload0 (pc := 295) F dL_law_295 ?_
  refine aw_iload4 (pc := 296) F dL_law_296 ?_
  refine aw_iconst (pc := 298) F dL_law_298 ?_
  refine aw_iadd (pc := 299) F dL_law_299 ?_
  refine aw_sld (pc := 300) F hX dL_law_300 (by omega) hL ?_
  refine aw_aload0 (pc := 301) F dL_law_301 ?_
  refine aw_iload4 (pc := 302) F dL_law_302 ?_
  refine aw_iconst (pc := 304) F dL_law_304 ?_
  refine aw_iadd (pc := 305) F dL_law_305 ?_
  refine aw_sld (pc := 306) F hX dL_law_306 (by omega) hL ?_
  refine aw_aload0 (pc := 307) F dL_law_307 ?_
  refine aw_iload4 (pc := 308) F dL_law_308 ?_
  refine aw_iconst (pc := 310) F dL_law_310 ?_
  refine aw_iadd (pc := 311) F dL_law_311 ?_
  refine aw_sld (pc := 312) F hX dL_law_312 (by omega) hL ?_
  refine aw_gcallVI (pc := 313) (as9 := [aI (sI xs (i + 1)), aI (sI xs (i + 2)), aI (sI xs (i + 3)), aI (sI xs (i + 4)), aI (sI xs (i + 5))]) F dL_law_313 ml_L_128 rfl (by first | decide | (simp only [inB, cnt, rcnt]; omega)) (c9 M1 b (h9.f9 f9)) (Nat.le_of_ble_eq_true rfl) (Nat.le_of_ble_eq_true rfl) (by omega) (fun v σ9 g9 => ?_)
  obtain ⟨M2, ge, i9, f8, -, hv2⟩ := g9
  subst ge
  rw [hv2 rfl]
  refine aw_icmp_same (tgt := 2535) (pc := 316) F dL_law_316 (by decide) ?_
  exact head.fin ⟨_, i8.f8 f8, i9, hp'⟩ (by omega)
theorem lc_1 {X : Cx} {K : Kx} {Ln : Nat} {xs : Nat → Int32} {U9 : Nat} (F : Fx X K cL_law RL (some .boolean) 60 U9 false) (hk : K.2.2.2.1 = 9) (hX : LX X K Ln xs) (hL : Ln ≤ 3072) (i : Int) (hi : 0 ≤ i ∧ i + 6 ≤ Ln) (M : Id4 → Int → Int) (b : Bool) (hI : INV M) (u : Nat) (hu : u + 8 ≤ U9) {Q : State → Prop} (head : HDL X K i u Q) : AW X K 321 (lvH i) [] (M, R0 b) u Q := by
  obtain ⟨st, h8, h9, hp⟩ := hI
  refine aw_aload1 (pc := 321) F dL_law_321 ?_
  refine aw_aload0 (pc := 322) F dL_law_322 ?_
  refine aw_iload4 (pc := 323) F dL_law_323 ?_
  refine aw_iconst (pc := 325) F dL_law_325 ?_
  refine aw_iadd (pc := 326) F dL_law_326 ?_
  refine aw_sld (pc := 327) F hX dL_law_327 (by omega) hL ?_
  refine aw_aload3 (pc := 328) F dL_law_328 ?_
  obtain ⟨U8, t, V, st', hU, htb, hp', cW, cR⟩ := op_load M b st (sI xs (i + 1)) sI_in h8 hp
  refine aw_hcallS (pc := 329) (as9 := [aR (8, 0, 0, 0), aI (sI xs (i + 1)), aR (10, 0, 1, 0)]) F dL_law_329 mh_L_129 cW (Nat.le_of_ble_eq_true rfl) (Nat.le_of_ble_eq_true rfl) (by omega) (fun r σ9 g9 => ?_)
  obtain ⟨M1, b1, ge, i8, f9, hr, ho⟩ := g9
  subst ge
  rw [hr]
  refine aw_istore5 (pc := 332) F dL_law_332 rfl hk.symm ?_
  refine aw_aload2 (pc := 334) F dL_law_334 ?_
  refine aw_aload0 (pc := 335) F dL_law_335 ?_
  refine aw_iload4 (pc := 336) F dL_law_336 ?_
  refine aw_iconst (pc := 338) F dL_law_338 ?_
  refine aw_iadd (pc := 339) F dL_law_339 ?_
  refine aw_sld (pc := 340) F hX dL_law_340 (by omega) hL ?_
  refine aw_gcallVI (pc := 341) (as9 := [aI (sI xs (i + 1))]) F dL_law_341 ml_L_134 rfl (by first | decide | (simp only [inB, cnt, rcnt]; omega)) (cR M1 b1 (h9.f9 f9)) (Nat.le_of_ble_eq_true rfl) (Nat.le_of_ble_eq_true rfl) (by omega) (fun v σ9 g9 => ?_)
  obtain ⟨M2, st2, ge, i9, hp2, tr, f8, ht, hv⟩ := g9
  subst ge
  refine aw_istore6 (pc := 344) F dL_law_344 rfl hk.symm ?_
  refine aw_aload2 (pc := 346) F dL_law_346 ?_
  refine aw_pcallV0 (pc := 347) F dL_law_347 ml_L_135 rfl (by first | decide | (simp only [inB, cnt, rcnt]; omega)) (ct9_thrown _ _) (Nat.le_of_ble_eq_true rfl) (Nat.le_of_ble_eq_true rfl) (by omega) ?_
  rw [ht]
  refine aw_iload5 (pc := 350) F dL_law_350 ?_
  refine aw_icmp_same (tgt := 357) (pc := 352) F dL_law_352 (by decide) ?_
  refine aw_iload5 (pc := 357) F dL_law_357 ?_
  refine aw_if_ne (tgt := 374) (pc := 359) F dL_law_359 (by decide) (by unfold inR; omega) (fun c5 => ?_) (fun c5 => ?_)
  · refine aw_goto (tgt := 2535) (pc := 374) F dL_law_374 (by decide) ?_
    exact head.fin ⟨_, tr _ (i8.f8 f8), i9, hp2⟩ (by omega)
  · refine aw_aload3 (pc := 362) F dL_law_362 ?_
    refine aw_iconst (pc := 363) F dL_law_363 ?_
    refine aw_lald (pc := 364) F dL_law_364 rfl (by first | decide | (simp only [inB, cnt, rcnt]; omega)) (by decide) ?_
    rw [show M2 (10, 0, 1, 0) 0 = nrm V from (congrFun (f8 (10, 0, 1, 0) (by decide)) 0).trans (ho c5)]
    refine aw_iload6 (pc := 365) F dL_law_365 ?_
    rw [hv c5]
    refine aw_nrm ?_
    refine aw_i2l (pc := 367) F dL_law_367 nrm_in ?_
    refine aw_lcmp (pc := 368) F (by first | exact nrm_in | (unfold inR; decide)) (by first | exact nrm_in | (unfold inR; decide)) dL_law_368 ?_
    rw [cmp_same (by rfl)]
    refine aw_if_eq (tgt := 374) (pc := 369) F dL_law_369 (by decide) inR0 (fun _ => ?_) (fun c7 => absurd rfl c7)
    refine aw_goto (tgt := 2535) (pc := 374) F dL_law_374 (by decide) ?_
    exact head.fin ⟨_, tr _ (i8.f8 f8), i9, hp2⟩ (by omega)
theorem lc_2 {X : Cx} {K : Kx} {Ln : Nat} {xs : Nat → Int32} {U9 : Nat} (F : Fx X K cL_law RL (some .boolean) 60 U9 false) (hk : K.2.2.2.1 = 9) (hX : LX X K Ln xs) (hL : Ln ≤ 3072) (i : Int) (hi : 0 ≤ i ∧ i + 6 ≤ Ln) (M : Id4 → Int → Int) (b : Bool) (hI : INV M) (u : Nat) (hu : u + 8 ≤ U9) {Q : State → Prop} (head : HDL X K i u Q) : AW X K 377 (lvH i) [] (M, R0 b) u Q := by
  obtain ⟨st, h8, h9, hp⟩ := hI
  refine aw_aload1 (pc := 377) F dL_law_377 ?_
  obtain ⟨V, st', hp', c8, c9⟩ := op_errorKind M b st   h8 hp
  refine aw_gcallVI (pc := 378) (as9 := []) F dL_law_378 ml_L_138 rfl (by first | decide | (simp only [inB, cnt, rcnt]; omega)) c8 (Nat.le_of_ble_eq_true rfl) (Nat.le_of_ble_eq_true rfl) (by omega) (fun v σ9 g9 => ?_)
  obtain ⟨M1, ge, i8, f9, hv⟩ := g9
  subst ge
  rw [hv]
  refine aw_aload2 (pc := 381) F dL_law_381 ?_
  refine aw_gcallVI (pc := 382) (as9 := []) F dL_law_382 ml_L_141 rfl (by first | decide | (simp only [inB, cnt, rcnt]; omega)) (c9 M1 b (h9.f9 f9)) (Nat.le_of_ble_eq_true rfl) (Nat.le_of_ble_eq_true rfl) (by omega) (fun v σ9 g9 => ?_)
  obtain ⟨M2, ge, i9, f8, -, hv2⟩ := g9
  subst ge
  rw [hv2 rfl]
  refine aw_icmp_same (tgt := 2535) (pc := 385) F dL_law_385 (by decide) ?_
  exact head.fin ⟨_, i8.f8 f8, i9, hp'⟩ (by omega)
theorem lc_3 {X : Cx} {K : Kx} {Ln : Nat} {xs : Nat → Int32} {U9 : Nat} (F : Fx X K cL_law RL (some .boolean) 60 U9 false) (hk : K.2.2.2.1 = 9) (hX : LX X K Ln xs) (hL : Ln ≤ 3072) (i : Int) (hi : 0 ≤ i ∧ i + 6 ≤ Ln) (M : Id4 → Int → Int) (b : Bool) (hI : INV M) (u : Nat) (hu : u + 8 ≤ U9) {Q : State → Prop} (head : HDL X K i u Q) : AW X K 390 (lvH i) [] (M, R0 b) u Q := by
  obtain ⟨st, h8, h9, hp⟩ := hI
  refine aw_aload1 (pc := 390) F dL_law_390 ?_
  obtain ⟨V, st', hp', c8, c9⟩ := op_errorPosition M b st   h8 hp
  refine aw_gcallVI (pc := 391) (as9 := []) F dL_law_391 ml_L_142 rfl (by first | decide | (simp only [inB, cnt, rcnt]; omega)) c8 (Nat.le_of_ble_eq_true rfl) (Nat.le_of_ble_eq_true rfl) (by omega) (fun v σ9 g9 => ?_)
  obtain ⟨M1, ge, i8, f9, hv⟩ := g9
  subst ge
  rw [hv]
  refine aw_aload2 (pc := 394) F dL_law_394 ?_
  refine aw_gcallVI (pc := 395) (as9 := []) F dL_law_395 ml_L_145 rfl (by first | decide | (simp only [inB, cnt, rcnt]; omega)) (c9 M1 b (h9.f9 f9)) (Nat.le_of_ble_eq_true rfl) (Nat.le_of_ble_eq_true rfl) (by omega) (fun v σ9 g9 => ?_)
  obtain ⟨M2, ge, i9, f8, -, hv2⟩ := g9
  subst ge
  rw [hv2 rfl]
  refine aw_icmp_same (tgt := 2535) (pc := 398) F dL_law_398 (by decide) ?_
  exact head.fin ⟨_, i8.f8 f8, i9, hp'⟩ (by omega)
theorem lc_4 {X : Cx} {K : Kx} {Ln : Nat} {xs : Nat → Int32} {U9 : Nat} (F : Fx X K cL_law RL (some .boolean) 60 U9 false) (hk : K.2.2.2.1 = 9) (hX : LX X K Ln xs) (hL : Ln ≤ 3072) (i : Int) (hi : 0 ≤ i ∧ i + 6 ≤ Ln) (M : Id4 → Int → Int) (b : Bool) (hI : INV M) (u : Nat) (hu : u + 8 ≤ U9) {Q : State → Prop} (head : HDL X K i u Q) : AW X K 403 (lvH i) [] (M, R0 b) u Q := by
  obtain ⟨st, h8, h9, hp⟩ := hI
  refine aw_aload1 (pc := 403) F dL_law_403 ?_
  obtain ⟨V, st', hp', c8, c9⟩ := op_period M b st   h8 hp
  refine aw_gcallVI (pc := 404) (as9 := []) F dL_law_404 ml_L_146 rfl (by first | decide | (simp only [inB, cnt, rcnt]; omega)) c8 (Nat.le_of_ble_eq_true rfl) (Nat.le_of_ble_eq_true rfl) (by omega) (fun v σ9 g9 => ?_)
  obtain ⟨M1, ge, i8, f9, hv⟩ := g9
  subst ge
  rw [hv]
  refine aw_aload2 (pc := 407) F dL_law_407 ?_
  refine aw_gcallVI (pc := 408) (as9 := []) F dL_law_408 ml_L_149 rfl (by first | decide | (simp only [inB, cnt, rcnt]; omega)) (c9 M1 b (h9.f9 f9)) (Nat.le_of_ble_eq_true rfl) (Nat.le_of_ble_eq_true rfl) (by omega) (fun v σ9 g9 => ?_)
  obtain ⟨M2, ge, i9, f8, -, hv2⟩ := g9
  subst ge
  rw [hv2 rfl]
  refine aw_icmp_same (tgt := 2535) (pc := 411) F dL_law_411 (by decide) ?_
  exact head.fin ⟨_, i8.f8 f8, i9, hp'⟩ (by omega)
theorem lc_5 {X : Cx} {K : Kx} {Ln : Nat} {xs : Nat → Int32} {U9 : Nat} (F : Fx X K cL_law RL (some .boolean) 60 U9 false) (hk : K.2.2.2.1 = 9) (hX : LX X K Ln xs) (hL : Ln ≤ 3072) (i : Int) (hi : 0 ≤ i ∧ i + 6 ≤ Ln) (M : Id4 → Int → Int) (b : Bool) (hI : INV M) (u : Nat) (hu : u + 8 ≤ U9) {Q : State → Prop} (head : HDL X K i u Q) : AW X K 416 (lvH i) [] (M, R0 b) u Q := by
  obtain ⟨st, h8, h9, hp⟩ := hI
  refine aw_aload1 (pc := 416) F dL_law_416 ?_
  obtain ⟨V, st', hp', c8, c9⟩ := op_events M b st   h8 hp
  refine aw_gcallVI (pc := 417) (as9 := []) F dL_law_417 ml_L_150 rfl (by first | decide | (simp only [inB, cnt, rcnt]; omega)) c8 (Nat.le_of_ble_eq_true rfl) (Nat.le_of_ble_eq_true rfl) (by omega) (fun v σ9 g9 => ?_)
  obtain ⟨M1, ge, i8, f9, hv⟩ := g9
  subst ge
  rw [hv]
  refine aw_aload2 (pc := 420) F dL_law_420 ?_
  refine aw_gcallVI (pc := 421) (as9 := []) F dL_law_421 ml_L_153 rfl (by first | decide | (simp only [inB, cnt, rcnt]; omega)) (c9 M1 b (h9.f9 f9)) (Nat.le_of_ble_eq_true rfl) (Nat.le_of_ble_eq_true rfl) (by omega) (fun v σ9 g9 => ?_)
  obtain ⟨M2, ge, i9, f8, -, hv2⟩ := g9
  subst ge
  rw [hv2 rfl]
  refine aw_icmp_same (tgt := 2535) (pc := 424) F dL_law_424 (by decide) ?_
  exact head.fin ⟨_, i8.f8 f8, i9, hp'⟩ (by omega)
theorem lc_6 {X : Cx} {K : Kx} {Ln : Nat} {xs : Nat → Int32} {U9 : Nat} (F : Fx X K cL_law RL (some .boolean) 60 U9 false) (hk : K.2.2.2.1 = 9) (hX : LX X K Ln xs) (hL : Ln ≤ 3072) (i : Int) (hi : 0 ≤ i ∧ i + 6 ≤ Ln) (M : Id4 → Int → Int) (b : Bool) (hI : INV M) (u : Nat) (hu : u + 8 ≤ U9) {Q : State → Prop} (head : HDL X K i u Q) : AW X K 429 (lvH i) [] (M, R0 b) u Q := by
  obtain ⟨st, h8, h9, hp⟩ := hI
  refine aw_aload1 (pc := 429) F dL_law_429 ?_
  obtain ⟨V, st', hp', c8, c9⟩ := op_spans M b st   h8 hp
  refine aw_gcallVI (pc := 430) (as9 := []) F dL_law_430 ml_L_154 rfl (by first | decide | (simp only [inB, cnt, rcnt]; omega)) c8 (Nat.le_of_ble_eq_true rfl) (Nat.le_of_ble_eq_true rfl) (by omega) (fun v σ9 g9 => ?_)
  obtain ⟨M1, ge, i8, f9, hv⟩ := g9
  subst ge
  rw [hv]
  refine aw_aload2 (pc := 433) F dL_law_433 ?_
  refine aw_gcallVI (pc := 434) (as9 := []) F dL_law_434 ml_L_157 rfl (by first | decide | (simp only [inB, cnt, rcnt]; omega)) (c9 M1 b (h9.f9 f9)) (Nat.le_of_ble_eq_true rfl) (Nat.le_of_ble_eq_true rfl) (by omega) (fun v σ9 g9 => ?_)
  obtain ⟨M2, ge, i9, f8, -, hv2⟩ := g9
  subst ge
  rw [hv2 rfl]
  refine aw_icmp_same (tgt := 2535) (pc := 437) F dL_law_437 (by decide) ?_
  exact head.fin ⟨_, i8.f8 f8, i9, hp'⟩ (by omega)
theorem lc_7 {X : Cx} {K : Kx} {Ln : Nat} {xs : Nat → Int32} {U9 : Nat} (F : Fx X K cL_law RL (some .boolean) 60 U9 false) (hk : K.2.2.2.1 = 9) (hX : LX X K Ln xs) (hL : Ln ≤ 3072) (i : Int) (hi : 0 ≤ i ∧ i + 6 ≤ Ln) (M : Id4 → Int → Int) (b : Bool) (hI : INV M) (u : Nat) (hu : u + 8 ≤ U9) {Q : State → Prop} (head : HDL X K i u Q) : AW X K 442 (lvH i) [] (M, R0 b) u Q := by
  obtain ⟨st, h8, h9, hp⟩ := hI
  refine aw_aload1 (pc := 442) F dL_law_442 ?_
  refine aw_aload0 (pc := 443) F dL_law_443 ?_
  refine aw_iload4 (pc := 444) F dL_law_444 ?_
  refine aw_iconst (pc := 446) F dL_law_446 ?_
  refine aw_iadd (pc := 447) F dL_law_447 ?_
  refine aw_sld (pc := 448) F hX dL_law_448 (by omega) hL ?_
  refine aw_aload3 (pc := 449) F dL_law_449 ?_
  obtain ⟨U8, t, V, st', hU, htb, hp', cW, cR⟩ := op_find M b st (sI xs (i + 1)) sI_in h8 hp
  refine aw_hcallS (pc := 450) (as9 := [aR (8, 0, 0, 0), aI (sI xs (i + 1)), aR (10, 0, 1, 0)]) F dL_law_450 mh_L_158 cW (Nat.le_of_ble_eq_true rfl) (Nat.le_of_ble_eq_true rfl) (by omega) (fun r σ9 g9 => ?_)
  obtain ⟨M1, b1, ge, i8, f9, hr, ho⟩ := g9
  subst ge
  rw [hr]
  refine aw_istore5 (pc := 453) F dL_law_453 rfl hk.symm ?_
  refine aw_aload2 (pc := 455) F dL_law_455 ?_
  refine aw_aload0 (pc := 456) F dL_law_456 ?_
  refine aw_iload4 (pc := 457) F dL_law_457 ?_
  refine aw_iconst (pc := 459) F dL_law_459 ?_
  refine aw_iadd (pc := 460) F dL_law_460 ?_
  refine aw_sld (pc := 461) F hX dL_law_461 (by omega) hL ?_
  refine aw_gcallVI (pc := 462) (as9 := [aI (sI xs (i + 1))]) F dL_law_462 ml_L_160 rfl (by first | decide | (simp only [inB, cnt, rcnt]; omega)) (cR M1 b1 (h9.f9 f9)) (Nat.le_of_ble_eq_true rfl) (Nat.le_of_ble_eq_true rfl) (by omega) (fun v σ9 g9 => ?_)
  obtain ⟨M2, ge, i9, f8, ht, hv⟩ := g9
  subst ge
  refine aw_istore6 (pc := 465) F dL_law_465 rfl hk.symm ?_
  refine aw_aload2 (pc := 467) F dL_law_467 ?_
  refine aw_pcallV0 (pc := 468) F dL_law_468 ml_L_135 rfl (by first | decide | (simp only [inB, cnt, rcnt]; omega)) (ct9_thrown _ _) (Nat.le_of_ble_eq_true rfl) (Nat.le_of_ble_eq_true rfl) (by omega) ?_
  rw [ht]
  refine aw_iload5 (pc := 471) F dL_law_471 ?_
  refine aw_icmp_same (tgt := 478) (pc := 473) F dL_law_473 (by decide) ?_
  refine aw_iload5 (pc := 478) F dL_law_478 ?_
  refine aw_if_ne (tgt := 495) (pc := 480) F dL_law_480 (by decide) (by unfold inR; omega) (fun c5 => ?_) (fun c5 => ?_)
  · refine aw_goto (tgt := 2535) (pc := 495) F dL_law_495 (by decide) ?_
    exact head.fin ⟨_, i8.f8 f8, i9, hp'⟩ (by omega)
  · refine aw_aload3 (pc := 483) F dL_law_483 ?_
    refine aw_iconst (pc := 484) F dL_law_484 ?_
    refine aw_lald (pc := 485) F dL_law_485 rfl (by first | decide | (simp only [inB, cnt, rcnt]; omega)) (by decide) ?_
    rw [show M2 (10, 0, 1, 0) 0 = nrm V from (congrFun (f8 (10, 0, 1, 0) (by decide)) 0).trans (ho c5)]
    refine aw_iload6 (pc := 486) F dL_law_486 ?_
    rw [hv c5]
    refine aw_nrm ?_
    refine aw_i2l (pc := 488) F dL_law_488 nrm_in ?_
    refine aw_lcmp (pc := 489) F (by first | exact nrm_in | (unfold inR; decide)) (by first | exact nrm_in | (unfold inR; decide)) dL_law_489 ?_
    rw [cmp_same (by rfl)]
    refine aw_if_eq (tgt := 495) (pc := 490) F dL_law_490 (by decide) inR0 (fun _ => ?_) (fun c7 => absurd rfl c7)
    refine aw_goto (tgt := 2535) (pc := 495) F dL_law_495 (by decide) ?_
    exact head.fin ⟨_, i8.f8 f8, i9, hp'⟩ (by omega)
theorem lc_8 {X : Cx} {K : Kx} {Ln : Nat} {xs : Nat → Int32} {U9 : Nat} (F : Fx X K cL_law RL (some .boolean) 60 U9 false) (hk : K.2.2.2.1 = 9) (hX : LX X K Ln xs) (hL : Ln ≤ 3072) (i : Int) (hi : 0 ≤ i ∧ i + 6 ≤ Ln) (M : Id4 → Int → Int) (b : Bool) (hI : INV M) (u : Nat) (hu : u + 8 ≤ U9) {Q : State → Prop} (head : HDL X K i u Q) : AW X K 498 (lvH i) [] (M, R0 b) u Q := by
  obtain ⟨st, h8, h9, hp⟩ := hI
  refine aw_aload1 (pc := 498) F dL_law_498 ?_
  refine aw_aload0 (pc := 499) F dL_law_499 ?_
  refine aw_iload4 (pc := 500) F dL_law_500 ?_
  refine aw_iconst (pc := 502) F dL_law_502 ?_
  refine aw_iadd (pc := 503) F dL_law_503 ?_
  refine aw_sld (pc := 504) F hX dL_law_504 (by omega) hL ?_
  refine aw_aload3 (pc := 505) F dL_law_505 ?_
  obtain ⟨U8, t, V, st', hU, htb, hp', cW, cR⟩ := op_time M b st (sI xs (i + 1)) sI_in h8 hp
  refine aw_hcallS (pc := 506) (as9 := [aR (8, 0, 0, 0), aI (sI xs (i + 1)), aR (10, 0, 1, 0)]) F dL_law_506 mh_L_161 cW (Nat.le_of_ble_eq_true rfl) (Nat.le_of_ble_eq_true rfl) (by omega) (fun r σ9 g9 => ?_)
  obtain ⟨M1, b1, ge, i8, f9, hr, ho⟩ := g9
  subst ge
  rw [hr]
  refine aw_istore5 (pc := 509) F dL_law_509 rfl hk.symm ?_
  refine aw_aload2 (pc := 511) F dL_law_511 ?_
  refine aw_aload0 (pc := 512) F dL_law_512 ?_
  refine aw_iload4 (pc := 513) F dL_law_513 ?_
  refine aw_iconst (pc := 515) F dL_law_515 ?_
  refine aw_iadd (pc := 516) F dL_law_516 ?_
  refine aw_sld (pc := 517) F hX dL_law_517 (by omega) hL ?_
  refine aw_gcallVI (pc := 518) (as9 := [aI (sI xs (i + 1))]) F dL_law_518 ml_L_163 rfl (by first | decide | (simp only [inB, cnt, rcnt]; omega)) (cR M1 b1 (h9.f9 f9)) (Nat.le_of_ble_eq_true rfl) (Nat.le_of_ble_eq_true rfl) (by omega) (fun v σ9 g9 => ?_)
  obtain ⟨M2, ge, i9, f8, ht, hv⟩ := g9
  subst ge
  refine aw_istore6 (pc := 521) F dL_law_521 rfl hk.symm ?_
  refine aw_aload2 (pc := 523) F dL_law_523 ?_
  refine aw_pcallV0 (pc := 524) F dL_law_524 ml_L_135 rfl (by first | decide | (simp only [inB, cnt, rcnt]; omega)) (ct9_thrown _ _) (Nat.le_of_ble_eq_true rfl) (Nat.le_of_ble_eq_true rfl) (by omega) ?_
  rw [ht]
  refine aw_iload5 (pc := 527) F dL_law_527 ?_
  refine aw_icmp_same (tgt := 534) (pc := 529) F dL_law_529 (by decide) ?_
  refine aw_iload5 (pc := 534) F dL_law_534 ?_
  refine aw_if_ne (tgt := 551) (pc := 536) F dL_law_536 (by decide) (by unfold inR; omega) (fun c5 => ?_) (fun c5 => ?_)
  · refine aw_goto (tgt := 2535) (pc := 551) F dL_law_551 (by decide) ?_
    exact head.fin ⟨_, i8.f8 f8, i9, hp'⟩ (by omega)
  · refine aw_aload3 (pc := 539) F dL_law_539 ?_
    refine aw_iconst (pc := 540) F dL_law_540 ?_
    refine aw_lald (pc := 541) F dL_law_541 rfl (by first | decide | (simp only [inB, cnt, rcnt]; omega)) (by decide) ?_
    rw [show M2 (10, 0, 1, 0) 0 = nrm V from (congrFun (f8 (10, 0, 1, 0) (by decide)) 0).trans (ho c5)]
    refine aw_iload6 (pc := 542) F dL_law_542 ?_
    rw [hv c5]
    refine aw_nrm ?_
    refine aw_i2l (pc := 544) F dL_law_544 nrm_in ?_
    refine aw_lcmp (pc := 545) F (by first | exact nrm_in | (unfold inR; decide)) (by first | exact nrm_in | (unfold inR; decide)) dL_law_545 ?_
    rw [cmp_same (by rfl)]
    refine aw_if_eq (tgt := 551) (pc := 546) F dL_law_546 (by decide) inR0 (fun _ => ?_) (fun c7 => absurd rfl c7)
    refine aw_goto (tgt := 2535) (pc := 551) F dL_law_551 (by decide) ?_
    exact head.fin ⟨_, i8.f8 f8, i9, hp'⟩ (by omega)
theorem lc_9 {X : Cx} {K : Kx} {Ln : Nat} {xs : Nat → Int32} {U9 : Nat} (F : Fx X K cL_law RL (some .boolean) 60 U9 false) (hk : K.2.2.2.1 = 9) (hX : LX X K Ln xs) (hL : Ln ≤ 3072) (i : Int) (hi : 0 ≤ i ∧ i + 6 ≤ Ln) (M : Id4 → Int → Int) (b : Bool) (hI : INV M) (u : Nat) (hu : u + 8 ≤ U9) {Q : State → Prop} (head : HDL X K i u Q) : AW X K 554 (lvH i) [] (M, R0 b) u Q := by
  obtain ⟨st, h8, h9, hp⟩ := hI
  refine aw_aload1 (pc := 554) F dL_law_554 ?_
  refine aw_aload0 (pc := 555) F dL_law_555 ?_
  refine aw_iload4 (pc := 556) F dL_law_556 ?_
  refine aw_iconst (pc := 558) F dL_law_558 ?_
  refine aw_iadd (pc := 559) F dL_law_559 ?_
  refine aw_sld (pc := 560) F hX dL_law_560 (by omega) hL ?_
  refine aw_aload0 (pc := 561) F dL_law_561 ?_
  refine aw_iload4 (pc := 562) F dL_law_562 ?_
  refine aw_iconst (pc := 564) F dL_law_564 ?_
  refine aw_iadd (pc := 565) F dL_law_565 ?_
  refine aw_sld (pc := 566) F hX dL_law_566 (by omega) hL ?_
  refine aw_aload3 (pc := 567) F dL_law_567 ?_
  obtain ⟨U8, t, V, st', hU, htb, hp', cW, cR⟩ := op_span M b st (sI xs (i + 1)) (sI xs (i + 2)) sI_in sI_in h8 hp
  refine aw_hcallS (pc := 568) (as9 := [aR (8, 0, 0, 0), aI (sI xs (i + 1)), aI (sI xs (i + 2)), aR (10, 0, 1, 0)]) F dL_law_568 mh_L_164 cW (Nat.le_of_ble_eq_true rfl) (Nat.le_of_ble_eq_true rfl) (by omega) (fun r σ9 g9 => ?_)
  obtain ⟨M1, b1, ge, i8, f9, hr, ho⟩ := g9
  subst ge
  rw [hr]
  refine aw_istore5 (pc := 571) F dL_law_571 rfl hk.symm ?_
  refine aw_aload2 (pc := 573) F dL_law_573 ?_
  refine aw_aload0 (pc := 574) F dL_law_574 ?_
  refine aw_iload4 (pc := 575) F dL_law_575 ?_
  refine aw_iconst (pc := 577) F dL_law_577 ?_
  refine aw_iadd (pc := 578) F dL_law_578 ?_
  refine aw_sld (pc := 579) F hX dL_law_579 (by omega) hL ?_
  refine aw_aload0 (pc := 580) F dL_law_580 ?_
  refine aw_iload4 (pc := 581) F dL_law_581 ?_
  refine aw_iconst (pc := 583) F dL_law_583 ?_
  refine aw_iadd (pc := 584) F dL_law_584 ?_
  refine aw_sld (pc := 585) F hX dL_law_585 (by omega) hL ?_
  refine aw_gcallVI (pc := 586) (as9 := [aI (sI xs (i + 1)), aI (sI xs (i + 2))]) F dL_law_586 ml_L_167 rfl (by first | decide | (simp only [inB, cnt, rcnt]; omega)) (cR M1 b1 (h9.f9 f9)) (Nat.le_of_ble_eq_true rfl) (Nat.le_of_ble_eq_true rfl) (by omega) (fun v σ9 g9 => ?_)
  obtain ⟨M2, ge, i9, f8, ht, hv⟩ := g9
  subst ge
  refine aw_istore6 (pc := 589) F dL_law_589 rfl hk.symm ?_
  refine aw_aload2 (pc := 591) F dL_law_591 ?_
  refine aw_pcallV0 (pc := 592) F dL_law_592 ml_L_135 rfl (by first | decide | (simp only [inB, cnt, rcnt]; omega)) (ct9_thrown _ _) (Nat.le_of_ble_eq_true rfl) (Nat.le_of_ble_eq_true rfl) (by omega) ?_
  rw [ht]
  refine aw_iload5 (pc := 595) F dL_law_595 ?_
  refine aw_icmp_same (tgt := 602) (pc := 597) F dL_law_597 (by decide) ?_
  refine aw_iload5 (pc := 602) F dL_law_602 ?_
  refine aw_if_ne (tgt := 619) (pc := 604) F dL_law_604 (by decide) (by unfold inR; omega) (fun c5 => ?_) (fun c5 => ?_)
  · refine aw_goto (tgt := 2535) (pc := 619) F dL_law_619 (by decide) ?_
    exact head.fin ⟨_, i8.f8 f8, i9, hp'⟩ (by omega)
  · refine aw_aload3 (pc := 607) F dL_law_607 ?_
    refine aw_iconst (pc := 608) F dL_law_608 ?_
    refine aw_lald (pc := 609) F dL_law_609 rfl (by first | decide | (simp only [inB, cnt, rcnt]; omega)) (by decide) ?_
    rw [show M2 (10, 0, 1, 0) 0 = nrm V from (congrFun (f8 (10, 0, 1, 0) (by decide)) 0).trans (ho c5)]
    refine aw_iload6 (pc := 610) F dL_law_610 ?_
    rw [hv c5]
    refine aw_nrm ?_
    refine aw_i2l (pc := 612) F dL_law_612 nrm_in ?_
    refine aw_lcmp (pc := 613) F (by first | exact nrm_in | (unfold inR; decide)) (by first | exact nrm_in | (unfold inR; decide)) dL_law_613 ?_
    rw [cmp_same (by rfl)]
    refine aw_if_eq (tgt := 619) (pc := 614) F dL_law_614 (by decide) inR0 (fun _ => ?_) (fun c7 => absurd rfl c7)
    refine aw_goto (tgt := 2535) (pc := 619) F dL_law_619 (by decide) ?_
    exact head.fin ⟨_, i8.f8 f8, i9, hp'⟩ (by omega)
theorem lc_10 {X : Cx} {K : Kx} {Ln : Nat} {xs : Nat → Int32} {U9 : Nat} (F : Fx X K cL_law RL (some .boolean) 60 U9 false) (hk : K.2.2.2.1 = 9) (hX : LX X K Ln xs) (hL : Ln ≤ 3072) (i : Int) (hi : 0 ≤ i ∧ i + 6 ≤ Ln) (M : Id4 → Int → Int) (b : Bool) (hI : INV M) (u : Nat) (hu : u + 8 ≤ U9) {Q : State → Prop} (head : HDL X K i u Q) : AW X K 622 (lvH i) [] (M, R0 b) u Q := by
  obtain ⟨st, h8, h9, hp⟩ := hI
  refine aw_aload1 (pc := 622) F dL_law_622 ?_
  refine aw_aload0 (pc := 623) F dL_law_623 ?_
  refine aw_iload4 (pc := 624) F dL_law_624 ?_
  refine aw_iconst (pc := 626) F dL_law_626 ?_
  refine aw_iadd (pc := 627) F dL_law_627 ?_
  refine aw_sld (pc := 628) F hX dL_law_628 (by omega) hL ?_
  refine aw_aload3 (pc := 629) F dL_law_629 ?_
  obtain ⟨U8, t, V, st', hU, htb, hp', cW, cR⟩ := op_duration M b st (sI xs (i + 1)) sI_in h8 hp
  refine aw_hcallS (pc := 630) (as9 := [aR (8, 0, 0, 0), aI (sI xs (i + 1)), aR (10, 0, 1, 0)]) F dL_law_630 mh_L_168 cW (Nat.le_of_ble_eq_true rfl) (Nat.le_of_ble_eq_true rfl) (by omega) (fun r σ9 g9 => ?_)
  obtain ⟨M1, b1, ge, i8, f9, hr, ho⟩ := g9
  subst ge
  rw [hr]
  refine aw_istore5 (pc := 633) F dL_law_633 rfl hk.symm ?_
  refine aw_aload2 (pc := 635) F dL_law_635 ?_
  refine aw_aload0 (pc := 636) F dL_law_636 ?_
  refine aw_iload4 (pc := 637) F dL_law_637 ?_
  refine aw_iconst (pc := 639) F dL_law_639 ?_
  refine aw_iadd (pc := 640) F dL_law_640 ?_
  refine aw_sld (pc := 641) F hX dL_law_641 (by omega) hL ?_
  refine aw_gcallVI (pc := 642) (as9 := [aI (sI xs (i + 1))]) F dL_law_642 ml_L_170 rfl (by first | decide | (simp only [inB, cnt, rcnt]; omega)) (cR M1 b1 (h9.f9 f9)) (Nat.le_of_ble_eq_true rfl) (Nat.le_of_ble_eq_true rfl) (by omega) (fun v σ9 g9 => ?_)
  obtain ⟨M2, ge, i9, f8, ht, hv⟩ := g9
  subst ge
  refine aw_istore6 (pc := 645) F dL_law_645 rfl hk.symm ?_
  refine aw_aload2 (pc := 647) F dL_law_647 ?_
  refine aw_pcallV0 (pc := 648) F dL_law_648 ml_L_135 rfl (by first | decide | (simp only [inB, cnt, rcnt]; omega)) (ct9_thrown _ _) (Nat.le_of_ble_eq_true rfl) (Nat.le_of_ble_eq_true rfl) (by omega) ?_
  rw [ht]
  refine aw_iload5 (pc := 651) F dL_law_651 ?_
  refine aw_icmp_same (tgt := 658) (pc := 653) F dL_law_653 (by decide) ?_
  refine aw_iload5 (pc := 658) F dL_law_658 ?_
  refine aw_if_ne (tgt := 675) (pc := 660) F dL_law_660 (by decide) (by unfold inR; omega) (fun c5 => ?_) (fun c5 => ?_)
  · refine aw_goto (tgt := 2535) (pc := 675) F dL_law_675 (by decide) ?_
    exact head.fin ⟨_, i8.f8 f8, i9, hp'⟩ (by omega)
  · refine aw_aload3 (pc := 663) F dL_law_663 ?_
    refine aw_iconst (pc := 664) F dL_law_664 ?_
    refine aw_lald (pc := 665) F dL_law_665 rfl (by first | decide | (simp only [inB, cnt, rcnt]; omega)) (by decide) ?_
    rw [show M2 (10, 0, 1, 0) 0 = nrm V from (congrFun (f8 (10, 0, 1, 0) (by decide)) 0).trans (ho c5)]
    refine aw_iload6 (pc := 666) F dL_law_666 ?_
    rw [hv c5]
    refine aw_nrm ?_
    refine aw_i2l (pc := 668) F dL_law_668 nrm_in ?_
    refine aw_lcmp (pc := 669) F (by first | exact nrm_in | (unfold inR; decide)) (by first | exact nrm_in | (unfold inR; decide)) dL_law_669 ?_
    rw [cmp_same (by rfl)]
    refine aw_if_eq (tgt := 675) (pc := 670) F dL_law_670 (by decide) inR0 (fun _ => ?_) (fun c7 => absurd rfl c7)
    refine aw_goto (tgt := 2535) (pc := 675) F dL_law_675 (by decide) ?_
    exact head.fin ⟨_, i8.f8 f8, i9, hp'⟩ (by omega)
theorem lc_11 {X : Cx} {K : Kx} {Ln : Nat} {xs : Nat → Int32} {U9 : Nat} (F : Fx X K cL_law RL (some .boolean) 60 U9 false) (hk : K.2.2.2.1 = 9) (hX : LX X K Ln xs) (hL : Ln ≤ 3072) (i : Int) (hi : 0 ≤ i ∧ i + 6 ≤ Ln) (M : Id4 → Int → Int) (b : Bool) (hI : INV M) (u : Nat) (hu : u + 8 ≤ U9) {Q : State → Prop} (head : HDL X K i u Q) : AW X K 678 (lvH i) [] (M, R0 b) u Q := by
  obtain ⟨st, h8, h9, hp⟩ := hI
  refine aw_aload1 (pc := 678) F dL_law_678 ?_
  refine aw_aload0 (pc := 679) F dL_law_679 ?_
  refine aw_iload4 (pc := 680) F dL_law_680 ?_
  refine aw_iconst (pc := 682) F dL_law_682 ?_
  refine aw_iadd (pc := 683) F dL_law_683 ?_
  refine aw_sld (pc := 684) F hX dL_law_684 (by omega) hL ?_
  refine aw_aload3 (pc := 685) F dL_law_685 ?_
  obtain ⟨U8, t, V, st', hU, htb, hp', cW, cR⟩ := op_slack M b st (sI xs (i + 1)) sI_in h8 hp
  refine aw_hcallS (pc := 686) (as9 := [aR (8, 0, 0, 0), aI (sI xs (i + 1)), aR (10, 0, 1, 0)]) F dL_law_686 mh_L_171 cW (Nat.le_of_ble_eq_true rfl) (Nat.le_of_ble_eq_true rfl) (by omega) (fun r σ9 g9 => ?_)
  obtain ⟨M1, b1, ge, i8, f9, hr, ho⟩ := g9
  subst ge
  rw [hr]
  refine aw_istore5 (pc := 689) F dL_law_689 rfl hk.symm ?_
  refine aw_aload2 (pc := 691) F dL_law_691 ?_
  refine aw_aload0 (pc := 692) F dL_law_692 ?_
  refine aw_iload4 (pc := 693) F dL_law_693 ?_
  refine aw_iconst (pc := 695) F dL_law_695 ?_
  refine aw_iadd (pc := 696) F dL_law_696 ?_
  refine aw_sld (pc := 697) F hX dL_law_697 (by omega) hL ?_
  refine aw_gcallVI (pc := 698) (as9 := [aI (sI xs (i + 1))]) F dL_law_698 ml_L_173 rfl (by first | decide | (simp only [inB, cnt, rcnt]; omega)) (cR M1 b1 (h9.f9 f9)) (Nat.le_of_ble_eq_true rfl) (Nat.le_of_ble_eq_true rfl) (by omega) (fun v σ9 g9 => ?_)
  obtain ⟨M2, ge, i9, f8, ht, hv⟩ := g9
  subst ge
  refine aw_istore6 (pc := 701) F dL_law_701 rfl hk.symm ?_
  refine aw_aload2 (pc := 703) F dL_law_703 ?_
  refine aw_pcallV0 (pc := 704) F dL_law_704 ml_L_135 rfl (by first | decide | (simp only [inB, cnt, rcnt]; omega)) (ct9_thrown _ _) (Nat.le_of_ble_eq_true rfl) (Nat.le_of_ble_eq_true rfl) (by omega) ?_
  rw [ht]
  refine aw_iload5 (pc := 707) F dL_law_707 ?_
  refine aw_icmp_same (tgt := 714) (pc := 709) F dL_law_709 (by decide) ?_
  refine aw_iload5 (pc := 714) F dL_law_714 ?_
  refine aw_if_ne (tgt := 731) (pc := 716) F dL_law_716 (by decide) (by unfold inR; omega) (fun c5 => ?_) (fun c5 => ?_)
  · refine aw_goto (tgt := 2535) (pc := 731) F dL_law_731 (by decide) ?_
    exact head.fin ⟨_, i8.f8 f8, i9, hp'⟩ (by omega)
  · refine aw_aload3 (pc := 719) F dL_law_719 ?_
    refine aw_iconst (pc := 720) F dL_law_720 ?_
    refine aw_lald (pc := 721) F dL_law_721 rfl (by first | decide | (simp only [inB, cnt, rcnt]; omega)) (by decide) ?_
    rw [show M2 (10, 0, 1, 0) 0 = nrm V from (congrFun (f8 (10, 0, 1, 0) (by decide)) 0).trans (ho c5)]
    refine aw_iload6 (pc := 722) F dL_law_722 ?_
    rw [hv c5]
    refine aw_nrm ?_
    refine aw_i2l (pc := 724) F dL_law_724 nrm_in ?_
    refine aw_lcmp (pc := 725) F (by first | exact nrm_in | (unfold inR; decide)) (by first | exact nrm_in | (unfold inR; decide)) dL_law_725 ?_
    rw [cmp_same (by rfl)]
    refine aw_if_eq (tgt := 731) (pc := 726) F dL_law_726 (by decide) inR0 (fun _ => ?_) (fun c7 => absurd rfl c7)
    refine aw_goto (tgt := 2535) (pc := 731) F dL_law_731 (by decide) ?_
    exact head.fin ⟨_, i8.f8 f8, i9, hp'⟩ (by omega)
