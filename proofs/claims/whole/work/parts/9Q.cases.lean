theorem kcL_79 : Cond.constantLong RL 79 4294967295 ∈ wsL_law := List.mem_append_left _ (List.mem_append_left _ (List.mem_append_left _ (List.mem_append_left _ (List.mem_append_left _ (List.mem_append_left _ (List.mem_append_left _ (List.mem_append_left _ (List.mem_of_getElem? (i := 6) rfl))))))))
set_option maxHeartbeats 4000000 in
set_option maxRecDepth 100000 in
theorem K_law_0 {E : zE} {w : zP} {l : Launch} {b0 L : Nat} {xs : Nat → Int32} (hw : zOK w) (hC : yC E w l b0 L xs) {Ω : Mem} (i : Nat) (hi : i + 6 ≤ L) (hL : L ≤ 3072) (a : As) (hC0 : RC Ω a) (hM : RM Ω a) (K : ∀ (Ω1 : Mem) (a1 : As), RC Ω1 a1 → RM Ω1 a1 → Y E Ω1 972 [some (.ref b0), some (.ref (wa w 0)), some (.ref (wa w 49)), some (.int (zI (i : Int)))] []) : Y E Ω 152 [some (.ref b0), some (.ref (wa w 0)), some (.ref (wa w 49)), some (.int (zI (i : Int)))] [] := by
  refine y_aload_n (pc := 152) hC (i := 1) dL_law_152 rfl rfl ?_
  refine y_aload_n (pc := 153) hC (i := 0) dL_law_153 rfl rfl ?_
  refine y_iload_n (pc := 154) hC (i := 3) dL_law_154 rfl rfl ?_
  refine y_iconst (pc := 155) hC dL_law_155 ?_
  refine y_iadd (pc := 156) hC dL_law_156 ?_
  refine y_sld (pc := 157) hC (i + 1) (by omega) (by omega) hL dL_law_157 ?_
  refine y_aload_n (pc := 158) hC (i := 0) dL_law_158 rfl rfl ?_
  refine y_iload_n (pc := 159) hC (i := 3) dL_law_159 rfl rfl ?_
  refine y_iconst (pc := 160) hC dL_law_160 ?_
  refine y_iadd (pc := 161) hC dL_law_161 ?_
  refine y_sld (pc := 162) hC (i + 2) (by omega) (by omega) hL dL_law_162 ?_
  refine y_callV (n := 2) (T := TX4) (N := 7) (ci := 4) (pc := 163) hC (c_X4_picture l w hw _ a hC0 _ _ (zb_toInt _) (zb_toInt _)) gL_law_X4_picture rfl (by decide +kernel) (Nat.le_of_ble_eq_true rfl) (Nat.le_of_ble_eq_true rfl) rfl (by decide) (fun _ => rfl) rfl rfl (Nat.le_of_ble_eq_true rfl) dL_law_163 (yi_k fun r0 Ω0 h0 => ?_)
  obtain ⟨t1, hC1, hf1⟩ := h0
  have hM0 := hM.frC hf1
  refine y_aload_n (pc := 166) hC (i := 2) dL_law_166 rfl rfl ?_
  refine y_aload_n (pc := 167) hC (i := 0) dL_law_167 rfl rfl ?_
  refine y_iload_n (pc := 168) hC (i := 3) dL_law_168 rfl rfl ?_
  refine y_iconst (pc := 169) hC dL_law_169 ?_
  refine y_iadd (pc := 170) hC dL_law_170 ?_
  refine y_sld (pc := 171) hC (i + 1) (by omega) (by omega) hL dL_law_171 ?_
  refine y_aload_n (pc := 172) hC (i := 0) dL_law_172 rfl rfl ?_
  refine y_iload_n (pc := 173) hC (i := 3) dL_law_173 rfl rfl ?_
  refine y_iconst (pc := 174) hC dL_law_174 ?_
  refine y_iadd (pc := 175) hC dL_law_175 ?_
  refine y_sld (pc := 176) hC (i + 2) (by omega) (by omega) hL dL_law_176 ?_
  refine y_callV (n := 2) (T := TX5) (N := 15) (ci := 5) (pc := 177) hC (c_X5_picture l w hw _ a hM0 _ _ (zb_toInt _) (zb_toInt _)) gL_law_X5_picture rfl (by decide +kernel) (Nat.le_of_ble_eq_true rfl) (Nat.le_of_ble_eq_true rfl) rfl (by decide) (fun _ => rfl) rfl rfl (Nat.le_of_ble_eq_true rfl) dL_law_177 (yi_k fun r1 Ω1 h1 => ?_)
  obtain ⟨t2, hM2, hf2⟩ := h1
  have hC2 := hC1.frG hf2
  rw [t1, t2]
  refine y_same (pc := 180) hC 972 dL_law_180 rfl ?_
  exact K _ _ hC2 hM2
set_option maxHeartbeats 4000000 in
set_option maxRecDepth 100000 in
theorem K_law_1 {E : zE} {w : zP} {l : Launch} {b0 L : Nat} {xs : Nat → Int32} (hw : zOK w) (hC : yC E w l b0 L xs) {Ω : Mem} (i : Nat) (hi : i + 6 ≤ L) (hL : L ≤ 3072) (a : As) (hC0 : RC Ω a) (hM : RM Ω a) (K : ∀ (Ω1 : Mem) (a1 : As), RC Ω1 a1 → RM Ω1 a1 → Y E Ω1 972 [some (.ref b0), some (.ref (wa w 0)), some (.ref (wa w 49)), some (.int (zI (i : Int)))] []) : Y E Ω 185 [some (.ref b0), some (.ref (wa w 0)), some (.ref (wa w 49)), some (.int (zI (i : Int)))] [] := by
  refine y_aload_n (pc := 185) hC (i := 1) dL_law_185 rfl rfl ?_
  refine y_aload_n (pc := 186) hC (i := 0) dL_law_186 rfl rfl ?_
  refine y_iload_n (pc := 187) hC (i := 3) dL_law_187 rfl rfl ?_
  refine y_iconst (pc := 188) hC dL_law_188 ?_
  refine y_iadd (pc := 189) hC dL_law_189 ?_
  refine y_sld (pc := 190) hC (i + 1) (by omega) (by omega) hL dL_law_190 ?_
  refine y_aload_n (pc := 191) hC (i := 0) dL_law_191 rfl rfl ?_
  refine y_iload_n (pc := 192) hC (i := 3) dL_law_192 rfl rfl ?_
  refine y_iconst (pc := 193) hC dL_law_193 ?_
  refine y_iadd (pc := 194) hC dL_law_194 ?_
  refine y_sld (pc := 195) hC (i + 2) (by omega) (by omega) hL dL_law_195 ?_
  refine y_aload_n (pc := 196) hC (i := 0) dL_law_196 rfl rfl ?_
  refine y_iload_n (pc := 197) hC (i := 3) dL_law_197 rfl rfl ?_
  refine y_iconst (pc := 198) hC dL_law_198 ?_
  refine y_iadd (pc := 199) hC dL_law_199 ?_
  refine y_sld (pc := 200) hC (i + 3) (by omega) (by omega) hL dL_law_200 ?_
  refine y_callV (n := 3) (T := TX4) (N := 7) (ci := 4) (pc := 201) hC (c_X4_shade l w hw _ a hC0 _ _ _ (zb_toInt _) (zb_toInt _) (zb_toInt _)) gL_law_X4_shade rfl (by decide +kernel) (Nat.le_of_ble_eq_true rfl) (Nat.le_of_ble_eq_true rfl) rfl (by decide) (fun _ => rfl) rfl rfl (Nat.le_of_ble_eq_true rfl) dL_law_201 (yi_k fun r0 Ω0 h0 => ?_)
  obtain ⟨t1, hC1, hf1⟩ := h0
  have hM0 := hM.frC hf1
  refine y_aload_n (pc := 204) hC (i := 2) dL_law_204 rfl rfl ?_
  refine y_aload_n (pc := 205) hC (i := 0) dL_law_205 rfl rfl ?_
  refine y_iload_n (pc := 206) hC (i := 3) dL_law_206 rfl rfl ?_
  refine y_iconst (pc := 207) hC dL_law_207 ?_
  refine y_iadd (pc := 208) hC dL_law_208 ?_
  refine y_sld (pc := 209) hC (i + 1) (by omega) (by omega) hL dL_law_209 ?_
  refine y_aload_n (pc := 210) hC (i := 0) dL_law_210 rfl rfl ?_
  refine y_iload_n (pc := 211) hC (i := 3) dL_law_211 rfl rfl ?_
  refine y_iconst (pc := 212) hC dL_law_212 ?_
  refine y_iadd (pc := 213) hC dL_law_213 ?_
  refine y_sld (pc := 214) hC (i + 2) (by omega) (by omega) hL dL_law_214 ?_
  refine y_aload_n (pc := 215) hC (i := 0) dL_law_215 rfl rfl ?_
  refine y_iload_n (pc := 216) hC (i := 3) dL_law_216 rfl rfl ?_
  refine y_iconst (pc := 217) hC dL_law_217 ?_
  refine y_iadd (pc := 218) hC dL_law_218 ?_
  refine y_sld (pc := 219) hC (i + 3) (by omega) (by omega) hL dL_law_219 ?_
  refine y_callV (n := 3) (T := TX5) (N := 15) (ci := 5) (pc := 220) hC (c_X5_shade l w hw _ a hM0 _ _ _ (zb_toInt _) (zb_toInt _) (zb_toInt _)) gL_law_X5_shade rfl (by decide +kernel) (Nat.le_of_ble_eq_true rfl) (Nat.le_of_ble_eq_true rfl) rfl (by decide) (fun _ => rfl) rfl rfl (Nat.le_of_ble_eq_true rfl) dL_law_220 (yi_k fun r1 Ω1 h1 => ?_)
  obtain ⟨t2, hM2, hf2⟩ := h1
  have hC2 := hC1.frG hf2
  rw [t1, t2]
  refine y_same (pc := 223) hC 972 dL_law_223 rfl ?_
  exact K _ _ hC2 hM2
set_option maxHeartbeats 4000000 in
set_option maxRecDepth 100000 in
theorem K_law_2 {E : zE} {w : zP} {l : Launch} {b0 L : Nat} {xs : Nat → Int32} (hw : zOK w) (hC : yC E w l b0 L xs) {Ω : Mem} (i : Nat) (hi : i + 6 ≤ L) (hL : L ≤ 3072) (a : As) (hC0 : RC Ω a) (hM : RM Ω a) (K : ∀ (Ω1 : Mem) (a1 : As), RC Ω1 a1 → RM Ω1 a1 → Y E Ω1 972 [some (.ref b0), some (.ref (wa w 0)), some (.ref (wa w 49)), some (.int (zI (i : Int)))] []) : Y E Ω 228 [some (.ref b0), some (.ref (wa w 0)), some (.ref (wa w 49)), some (.int (zI (i : Int)))] [] := by
  refine y_aload_n (pc := 228) hC (i := 1) dL_law_228 rfl rfl ?_
  refine y_aload_n (pc := 229) hC (i := 0) dL_law_229 rfl rfl ?_
  refine y_iload_n (pc := 230) hC (i := 3) dL_law_230 rfl rfl ?_
  refine y_iconst (pc := 231) hC dL_law_231 ?_
  refine y_iadd (pc := 232) hC dL_law_232 ?_
  refine y_sld (pc := 233) hC (i + 1) (by omega) (by omega) hL dL_law_233 ?_
  refine y_aload_n (pc := 234) hC (i := 0) dL_law_234 rfl rfl ?_
  refine y_iload_n (pc := 235) hC (i := 3) dL_law_235 rfl rfl ?_
  refine y_iconst (pc := 236) hC dL_law_236 ?_
  refine y_iadd (pc := 237) hC dL_law_237 ?_
  refine y_sld (pc := 238) hC (i + 2) (by omega) (by omega) hL dL_law_238 ?_
  refine y_callV (n := 2) (T := TX4) (N := 7) (ci := 4) (pc := 239) hC (c_X4_draws l w hw _ a hC0 _ _ (zb_toInt _) (zb_toInt _)) gL_law_X4_draws rfl (by decide +kernel) (Nat.le_of_ble_eq_true rfl) (Nat.le_of_ble_eq_true rfl) rfl (by decide) (fun _ => rfl) rfl rfl (Nat.le_of_ble_eq_true rfl) dL_law_239 (yi_k fun r0 Ω0 h0 => ?_)
  obtain ⟨t1, hC1, hf1⟩ := h0
  have hM0 := hM.frC hf1
  refine y_aload_n (pc := 242) hC (i := 2) dL_law_242 rfl rfl ?_
  refine y_aload_n (pc := 243) hC (i := 0) dL_law_243 rfl rfl ?_
  refine y_iload_n (pc := 244) hC (i := 3) dL_law_244 rfl rfl ?_
  refine y_iconst (pc := 245) hC dL_law_245 ?_
  refine y_iadd (pc := 246) hC dL_law_246 ?_
  refine y_sld (pc := 247) hC (i + 1) (by omega) (by omega) hL dL_law_247 ?_
  refine y_aload_n (pc := 248) hC (i := 0) dL_law_248 rfl rfl ?_
  refine y_iload_n (pc := 249) hC (i := 3) dL_law_249 rfl rfl ?_
  refine y_iconst (pc := 250) hC dL_law_250 ?_
  refine y_iadd (pc := 251) hC dL_law_251 ?_
  refine y_sld (pc := 252) hC (i + 2) (by omega) (by omega) hL dL_law_252 ?_
  refine y_callV (n := 2) (T := TX5) (N := 15) (ci := 5) (pc := 253) hC (c_X5_draws l w hw _ a hM0 _ _ (zb_toInt _) (zb_toInt _)) gL_law_X5_draws rfl (by decide +kernel) (Nat.le_of_ble_eq_true rfl) (Nat.le_of_ble_eq_true rfl) rfl (by decide) (fun _ => rfl) rfl rfl (Nat.le_of_ble_eq_true rfl) dL_law_253 (yi_k fun r1 Ω1 h1 => ?_)
  obtain ⟨t2, hM2, hf2⟩ := h1
  have hC2 := hC1.frG hf2
  rw [t1, t2]
  refine y_same (pc := 256) hC 972 dL_law_256 rfl ?_
  exact K _ _ hC2 hM2
set_option maxHeartbeats 4000000 in
set_option maxRecDepth 100000 in
theorem K_law_3 {E : zE} {w : zP} {l : Launch} {b0 L : Nat} {xs : Nat → Int32} (hw : zOK w) (hC : yC E w l b0 L xs) {Ω : Mem} (i : Nat) (hi : i + 6 ≤ L) (hL : L ≤ 3072) (a : As) (hC0 : RC Ω a) (hM : RM Ω a) (K : ∀ (Ω1 : Mem) (a1 : As), RC Ω1 a1 → RM Ω1 a1 → Y E Ω1 972 [some (.ref b0), some (.ref (wa w 0)), some (.ref (wa w 49)), some (.int (zI (i : Int)))] []) : Y E Ω 261 [some (.ref b0), some (.ref (wa w 0)), some (.ref (wa w 49)), some (.int (zI (i : Int)))] [] := by
  refine y_aload_n (pc := 261) hC (i := 1) dL_law_261 rfl rfl ?_
  refine y_aload_n (pc := 262) hC (i := 0) dL_law_262 rfl rfl ?_
  refine y_iload_n (pc := 263) hC (i := 3) dL_law_263 rfl rfl ?_
  refine y_iconst (pc := 264) hC dL_law_264 ?_
  refine y_iadd (pc := 265) hC dL_law_265 ?_
  refine y_sld (pc := 266) hC (i + 1) (by omega) (by omega) hL dL_law_266 ?_
  refine y_aload_n (pc := 267) hC (i := 0) dL_law_267 rfl rfl ?_
  refine y_iload_n (pc := 268) hC (i := 3) dL_law_268 rfl rfl ?_
  refine y_iconst (pc := 269) hC dL_law_269 ?_
  refine y_iadd (pc := 270) hC dL_law_270 ?_
  refine y_sld (pc := 271) hC (i + 2) (by omega) (by omega) hL dL_law_271 ?_
  refine y_aload_n (pc := 272) hC (i := 0) dL_law_272 rfl rfl ?_
  refine y_iload_n (pc := 273) hC (i := 3) dL_law_273 rfl rfl ?_
  refine y_iconst (pc := 274) hC dL_law_274 ?_
  refine y_iadd (pc := 275) hC dL_law_275 ?_
  refine y_sld (pc := 276) hC (i + 3) (by omega) (by omega) hL dL_law_276 ?_
  refine y_aload_n (pc := 277) hC (i := 0) dL_law_277 rfl rfl ?_
  refine y_iload_n (pc := 278) hC (i := 3) dL_law_278 rfl rfl ?_
  refine y_iconst (pc := 279) hC dL_law_279 ?_
  refine y_iadd (pc := 280) hC dL_law_280 ?_
  refine y_sld (pc := 281) hC (i + 4) (by omega) (by omega) hL dL_law_281 ?_
  refine y_callV (n := 4) (T := TX4) (N := 7) (ci := 4) (pc := 282) hC (c_X4_blot l w hw _ a hC0 _ _ _ _ (zb_toInt _) (zb_toInt _) (zb_toInt _) (zb_toInt _)) gL_law_X4_blot rfl (by decide +kernel) (Nat.le_of_ble_eq_true rfl) (Nat.le_of_ble_eq_true rfl) rfl (by decide) (fun _ => rfl) rfl rfl (Nat.le_of_ble_eq_true rfl) dL_law_282 (yi_k fun r0 Ω0 h0 => ?_)
  obtain ⟨t1, hC1, hf1⟩ := h0
  have hM0 := hM.frC hf1
  refine y_aload_n (pc := 285) hC (i := 2) dL_law_285 rfl rfl ?_
  refine y_aload_n (pc := 286) hC (i := 0) dL_law_286 rfl rfl ?_
  refine y_iload_n (pc := 287) hC (i := 3) dL_law_287 rfl rfl ?_
  refine y_iconst (pc := 288) hC dL_law_288 ?_
  refine y_iadd (pc := 289) hC dL_law_289 ?_
  refine y_sld (pc := 290) hC (i + 1) (by omega) (by omega) hL dL_law_290 ?_
  refine y_aload_n (pc := 291) hC (i := 0) dL_law_291 rfl rfl ?_
  refine y_iload_n (pc := 292) hC (i := 3) dL_law_292 rfl rfl ?_
  refine y_iconst (pc := 293) hC dL_law_293 ?_
  refine y_iadd (pc := 294) hC dL_law_294 ?_
  refine y_sld (pc := 295) hC (i + 2) (by omega) (by omega) hL dL_law_295 ?_
  refine y_aload_n (pc := 296) hC (i := 0) dL_law_296 rfl rfl ?_
  refine y_iload_n (pc := 297) hC (i := 3) dL_law_297 rfl rfl ?_
  refine y_iconst (pc := 298) hC dL_law_298 ?_
  refine y_iadd (pc := 299) hC dL_law_299 ?_
  refine y_sld (pc := 300) hC (i + 3) (by omega) (by omega) hL dL_law_300 ?_
  refine y_aload_n (pc := 301) hC (i := 0) dL_law_301 rfl rfl ?_
  refine y_iload_n (pc := 302) hC (i := 3) dL_law_302 rfl rfl ?_
  refine y_iconst (pc := 303) hC dL_law_303 ?_
  refine y_iadd (pc := 304) hC dL_law_304 ?_
  refine y_sld (pc := 305) hC (i + 4) (by omega) (by omega) hL dL_law_305 ?_
  refine y_callV (n := 4) (T := TX5) (N := 15) (ci := 5) (pc := 306) hC (c_X5_blot l w hw _ a hM0 _ _ _ _ (zb_toInt _) (zb_toInt _) (zb_toInt _) (zb_toInt _)) gL_law_X5_blot rfl (by decide +kernel) (Nat.le_of_ble_eq_true rfl) (Nat.le_of_ble_eq_true rfl) rfl (by decide) (fun _ => rfl) rfl rfl (Nat.le_of_ble_eq_true rfl) dL_law_306 (yi_k fun r1 Ω1 h1 => ?_)
  obtain ⟨t2, hM2, hf2⟩ := h1
  have hC2 := hC1.frG hf2
  rw [t1, t2]
  refine y_same (pc := 309) hC 972 dL_law_309 rfl ?_
  exact K _ _ hC2 hM2
set_option maxHeartbeats 4000000 in
set_option maxRecDepth 100000 in
theorem K_law_4 {E : zE} {w : zP} {l : Launch} {b0 L : Nat} {xs : Nat → Int32} (hw : zOK w) (hC : yC E w l b0 L xs) {Ω : Mem} (i : Nat) (hi : i + 6 ≤ L) (hL : L ≤ 3072) (a : As) (hC0 : RC Ω a) (hM : RM Ω a) (K : ∀ (Ω1 : Mem) (a1 : As), RC Ω1 a1 → RM Ω1 a1 → Y E Ω1 972 [some (.ref b0), some (.ref (wa w 0)), some (.ref (wa w 49)), some (.int (zI (i : Int)))] []) : Y E Ω 314 [some (.ref b0), some (.ref (wa w 0)), some (.ref (wa w 49)), some (.int (zI (i : Int)))] [] := by
  refine y_aload_n (pc := 314) hC (i := 1) dL_law_314 rfl rfl ?_
  refine y_aload_n (pc := 315) hC (i := 0) dL_law_315 rfl rfl ?_
  refine y_iload_n (pc := 316) hC (i := 3) dL_law_316 rfl rfl ?_
  refine y_iconst (pc := 317) hC dL_law_317 ?_
  refine y_iadd (pc := 318) hC dL_law_318 ?_
  refine y_sld (pc := 319) hC (i + 1) (by omega) (by omega) hL dL_law_319 ?_
  refine y_aload_n (pc := 320) hC (i := 0) dL_law_320 rfl rfl ?_
  refine y_iload_n (pc := 321) hC (i := 3) dL_law_321 rfl rfl ?_
  refine y_iconst (pc := 322) hC dL_law_322 ?_
  refine y_iadd (pc := 323) hC dL_law_323 ?_
  refine y_sld (pc := 324) hC (i + 2) (by omega) (by omega) hL dL_law_324 ?_
  refine y_aload_n (pc := 325) hC (i := 0) dL_law_325 rfl rfl ?_
  refine y_iload_n (pc := 326) hC (i := 3) dL_law_326 rfl rfl ?_
  refine y_iconst (pc := 327) hC dL_law_327 ?_
  refine y_iadd (pc := 328) hC dL_law_328 ?_
  refine y_sld (pc := 329) hC (i + 3) (by omega) (by omega) hL dL_law_329 ?_
  refine y_callV (n := 3) (T := TX4) (N := 7) (ci := 4) (pc := 330) hC (c_X4_mark l w hw _ a hC0 _ _ _ (zb_toInt _) (zb_toInt _) (zb_toInt _)) gL_law_X4_mark rfl (by decide +kernel) (Nat.le_of_ble_eq_true rfl) (Nat.le_of_ble_eq_true rfl) rfl (by decide) (fun _ => rfl) rfl rfl (Nat.le_of_ble_eq_true rfl) dL_law_330 (yi_k fun r0 Ω0 h0 => ?_)
  obtain ⟨t1, hC1, hf1⟩ := h0
  have hM0 := hM.frC hf1
  refine y_aload_n (pc := 333) hC (i := 2) dL_law_333 rfl rfl ?_
  refine y_aload_n (pc := 334) hC (i := 0) dL_law_334 rfl rfl ?_
  refine y_iload_n (pc := 335) hC (i := 3) dL_law_335 rfl rfl ?_
  refine y_iconst (pc := 336) hC dL_law_336 ?_
  refine y_iadd (pc := 337) hC dL_law_337 ?_
  refine y_sld (pc := 338) hC (i + 1) (by omega) (by omega) hL dL_law_338 ?_
  refine y_aload_n (pc := 339) hC (i := 0) dL_law_339 rfl rfl ?_
  refine y_iload_n (pc := 340) hC (i := 3) dL_law_340 rfl rfl ?_
  refine y_iconst (pc := 341) hC dL_law_341 ?_
  refine y_iadd (pc := 342) hC dL_law_342 ?_
  refine y_sld (pc := 343) hC (i + 2) (by omega) (by omega) hL dL_law_343 ?_
  refine y_aload_n (pc := 344) hC (i := 0) dL_law_344 rfl rfl ?_
  refine y_iload_n (pc := 345) hC (i := 3) dL_law_345 rfl rfl ?_
  refine y_iconst (pc := 346) hC dL_law_346 ?_
  refine y_iadd (pc := 347) hC dL_law_347 ?_
  refine y_sld (pc := 348) hC (i + 3) (by omega) (by omega) hL dL_law_348 ?_
  refine y_callV (n := 3) (T := TX5) (N := 15) (ci := 5) (pc := 349) hC (c_X5_mark l w hw _ a hM0 _ _ _ (zb_toInt _) (zb_toInt _) (zb_toInt _)) gL_law_X5_mark rfl (by decide +kernel) (Nat.le_of_ble_eq_true rfl) (Nat.le_of_ble_eq_true rfl) rfl (by decide) (fun _ => rfl) rfl rfl (Nat.le_of_ble_eq_true rfl) dL_law_349 (yi_k fun r1 Ω1 h1 => ?_)
  obtain ⟨t2, hM2, hf2⟩ := h1
  have hC2 := hC1.frG hf2
  rw [t1, t2]
  refine y_same (pc := 352) hC 972 dL_law_352 rfl ?_
  exact K _ _ hC2 hM2
set_option maxHeartbeats 4000000 in
set_option maxRecDepth 100000 in
theorem K_law_5 {E : zE} {w : zP} {l : Launch} {b0 L : Nat} {xs : Nat → Int32} (hw : zOK w) (hC : yC E w l b0 L xs) {Ω : Mem} (i : Nat) (hi : i + 6 ≤ L) (hL : L ≤ 3072) (a : As) (hC0 : RC Ω a) (hM : RM Ω a) (K : ∀ (Ω1 : Mem) (a1 : As), RC Ω1 a1 → RM Ω1 a1 → Y E Ω1 972 [some (.ref b0), some (.ref (wa w 0)), some (.ref (wa w 49)), some (.int (zI (i : Int)))] []) : Y E Ω 357 [some (.ref b0), some (.ref (wa w 0)), some (.ref (wa w 49)), some (.int (zI (i : Int)))] [] := by
  refine y_aload_n (pc := 357) hC (i := 1) dL_law_357 rfl rfl ?_
  refine y_aload_n (pc := 358) hC (i := 0) dL_law_358 rfl rfl ?_
  refine y_iload_n (pc := 359) hC (i := 3) dL_law_359 rfl rfl ?_
  refine y_iconst (pc := 360) hC dL_law_360 ?_
  refine y_iadd (pc := 361) hC dL_law_361 ?_
  refine y_sld (pc := 362) hC (i + 1) (by omega) (by omega) hL dL_law_362 ?_
  refine y_aload_n (pc := 363) hC (i := 0) dL_law_363 rfl rfl ?_
  refine y_iload_n (pc := 364) hC (i := 3) dL_law_364 rfl rfl ?_
  refine y_iconst (pc := 365) hC dL_law_365 ?_
  refine y_iadd (pc := 366) hC dL_law_366 ?_
  refine y_sld (pc := 367) hC (i + 2) (by omega) (by omega) hL dL_law_367 ?_
  refine y_aload_n (pc := 368) hC (i := 0) dL_law_368 rfl rfl ?_
  refine y_iload_n (pc := 369) hC (i := 3) dL_law_369 rfl rfl ?_
  refine y_iconst (pc := 370) hC dL_law_370 ?_
  refine y_iadd (pc := 371) hC dL_law_371 ?_
  refine y_sld (pc := 372) hC (i + 3) (by omega) (by omega) hL dL_law_372 ?_
  refine y_aload_n (pc := 373) hC (i := 0) dL_law_373 rfl rfl ?_
  refine y_iload_n (pc := 374) hC (i := 3) dL_law_374 rfl rfl ?_
  refine y_iconst (pc := 375) hC dL_law_375 ?_
  refine y_iadd (pc := 376) hC dL_law_376 ?_
  refine y_sld (pc := 377) hC (i + 4) (by omega) (by omega) hL dL_law_377 ?_
  refine y_aload_n (pc := 378) hC (i := 0) dL_law_378 rfl rfl ?_
  refine y_iload_n (pc := 379) hC (i := 3) dL_law_379 rfl rfl ?_
  refine y_iconst (pc := 380) hC dL_law_380 ?_
  refine y_iadd (pc := 381) hC dL_law_381 ?_
  refine y_sld (pc := 382) hC (i + 5) (by omega) (by omega) hL dL_law_382 ?_
  refine y_callV (n := 5) (T := TX4) (N := 7) (ci := 4) (pc := 383) hC (c_X4_stroke l w hw _ a hC0 _ _ _ _ _ (zb_toInt _) (zb_toInt _) (zb_toInt _) (zb_toInt _) (zb_toInt _)) gL_law_X4_stroke rfl (by decide +kernel) (Nat.le_of_ble_eq_true rfl) (Nat.le_of_ble_eq_true rfl) rfl (by decide) (fun _ => rfl) rfl rfl (Nat.le_of_ble_eq_true rfl) dL_law_383 (yi_k fun r0 Ω0 h0 => ?_)
  obtain ⟨t1, hC1, hf1⟩ := h0
  have hM0 := hM.frC hf1
  refine y_aload_n (pc := 386) hC (i := 2) dL_law_386 rfl rfl ?_
  refine y_aload_n (pc := 387) hC (i := 0) dL_law_387 rfl rfl ?_
  refine y_iload_n (pc := 388) hC (i := 3) dL_law_388 rfl rfl ?_
  refine y_iconst (pc := 389) hC dL_law_389 ?_
  refine y_iadd (pc := 390) hC dL_law_390 ?_
  refine y_sld (pc := 391) hC (i + 1) (by omega) (by omega) hL dL_law_391 ?_
  refine y_aload_n (pc := 392) hC (i := 0) dL_law_392 rfl rfl ?_
  refine y_iload_n (pc := 393) hC (i := 3) dL_law_393 rfl rfl ?_
  refine y_iconst (pc := 394) hC dL_law_394 ?_
  refine y_iadd (pc := 395) hC dL_law_395 ?_
  refine y_sld (pc := 396) hC (i + 2) (by omega) (by omega) hL dL_law_396 ?_
  refine y_aload_n (pc := 397) hC (i := 0) dL_law_397 rfl rfl ?_
  refine y_iload_n (pc := 398) hC (i := 3) dL_law_398 rfl rfl ?_
  refine y_iconst (pc := 399) hC dL_law_399 ?_
  refine y_iadd (pc := 400) hC dL_law_400 ?_
  refine y_sld (pc := 401) hC (i + 3) (by omega) (by omega) hL dL_law_401 ?_
  refine y_aload_n (pc := 402) hC (i := 0) dL_law_402 rfl rfl ?_
  refine y_iload_n (pc := 403) hC (i := 3) dL_law_403 rfl rfl ?_
  refine y_iconst (pc := 404) hC dL_law_404 ?_
  refine y_iadd (pc := 405) hC dL_law_405 ?_
  refine y_sld (pc := 406) hC (i + 4) (by omega) (by omega) hL dL_law_406 ?_
  refine y_aload_n (pc := 407) hC (i := 0) dL_law_407 rfl rfl ?_
  refine y_iload_n (pc := 408) hC (i := 3) dL_law_408 rfl rfl ?_
  refine y_iconst (pc := 409) hC dL_law_409 ?_
  refine y_iadd (pc := 410) hC dL_law_410 ?_
  refine y_sld (pc := 411) hC (i + 5) (by omega) (by omega) hL dL_law_411 ?_
  refine y_callV (n := 5) (T := TX5) (N := 15) (ci := 5) (pc := 412) hC (c_X5_stroke l w hw _ a hM0 _ _ _ _ _ (zb_toInt _) (zb_toInt _) (zb_toInt _) (zb_toInt _) (zb_toInt _)) gL_law_X5_stroke rfl (by decide +kernel) (Nat.le_of_ble_eq_true rfl) (Nat.le_of_ble_eq_true rfl) rfl (by decide) (fun _ => rfl) rfl rfl (Nat.le_of_ble_eq_true rfl) dL_law_412 (yi_k fun r1 Ω1 h1 => ?_)
  obtain ⟨t2, hM2, hf2⟩ := h1
  have hC2 := hC1.frG hf2
  rw [t1, t2]
  refine y_same (pc := 415) hC 972 dL_law_415 rfl ?_
  exact K _ _ hC2 hM2
set_option maxHeartbeats 4000000 in
set_option maxRecDepth 100000 in
theorem K_law_6 {E : zE} {w : zP} {l : Launch} {b0 L : Nat} {xs : Nat → Int32} (hw : zOK w) (hC : yC E w l b0 L xs) {Ω : Mem} (i : Nat) (hi : i + 6 ≤ L) (hL : L ≤ 3072) (a : As) (hC0 : RC Ω a) (hM : RM Ω a) (K : ∀ (Ω1 : Mem) (a1 : As), RC Ω1 a1 → RM Ω1 a1 → Y E Ω1 972 [some (.ref b0), some (.ref (wa w 0)), some (.ref (wa w 49)), some (.int (zI (i : Int)))] []) : Y E Ω 420 [some (.ref b0), some (.ref (wa w 0)), some (.ref (wa w 49)), some (.int (zI (i : Int)))] [] := by
  refine y_aload_n (pc := 420) hC (i := 1) dL_law_420 rfl rfl ?_
  refine y_aload_n (pc := 421) hC (i := 0) dL_law_421 rfl rfl ?_
  refine y_iload_n (pc := 422) hC (i := 3) dL_law_422 rfl rfl ?_
  refine y_iconst (pc := 423) hC dL_law_423 ?_
  refine y_iadd (pc := 424) hC dL_law_424 ?_
  refine y_sld (pc := 425) hC (i + 1) (by omega) (by omega) hL dL_law_425 ?_
  refine y_aload_n (pc := 426) hC (i := 0) dL_law_426 rfl rfl ?_
  refine y_iload_n (pc := 427) hC (i := 3) dL_law_427 rfl rfl ?_
  refine y_iconst (pc := 428) hC dL_law_428 ?_
  refine y_iadd (pc := 429) hC dL_law_429 ?_
  refine y_sld (pc := 430) hC (i + 2) (by omega) (by omega) hL dL_law_430 ?_
  refine y_callV (n := 2) (T := TX4) (N := 7) (ci := 4) (pc := 431) hC (c_X4_sets l w hw _ a hC0 _ _ (zb_toInt _) (zb_toInt _)) gL_law_X4_sets rfl (by decide +kernel) (Nat.le_of_ble_eq_true rfl) (Nat.le_of_ble_eq_true rfl) rfl (by decide) (fun _ => rfl) rfl rfl (Nat.le_of_ble_eq_true rfl) dL_law_431 (yi_k fun r0 Ω0 h0 => ?_)
  obtain ⟨t1, hC1, hf1⟩ := h0
  have hM0 := hM.frC hf1
  refine y_aload_n (pc := 434) hC (i := 2) dL_law_434 rfl rfl ?_
  refine y_aload_n (pc := 435) hC (i := 0) dL_law_435 rfl rfl ?_
  refine y_iload_n (pc := 436) hC (i := 3) dL_law_436 rfl rfl ?_
  refine y_iconst (pc := 437) hC dL_law_437 ?_
  refine y_iadd (pc := 438) hC dL_law_438 ?_
  refine y_sld (pc := 439) hC (i + 1) (by omega) (by omega) hL dL_law_439 ?_
  refine y_aload_n (pc := 440) hC (i := 0) dL_law_440 rfl rfl ?_
  refine y_iload_n (pc := 441) hC (i := 3) dL_law_441 rfl rfl ?_
  refine y_iconst (pc := 442) hC dL_law_442 ?_
  refine y_iadd (pc := 443) hC dL_law_443 ?_
  refine y_sld (pc := 444) hC (i + 2) (by omega) (by omega) hL dL_law_444 ?_
  refine y_callV (n := 2) (T := TX5) (N := 15) (ci := 5) (pc := 445) hC (c_X5_sets l w hw _ a hM0 _ _ (zb_toInt _) (zb_toInt _)) gL_law_X5_sets rfl (by decide +kernel) (Nat.le_of_ble_eq_true rfl) (Nat.le_of_ble_eq_true rfl) rfl (by decide) (fun _ => rfl) rfl rfl (Nat.le_of_ble_eq_true rfl) dL_law_445 (yi_k fun r1 Ω1 h1 => ?_)
  obtain ⟨t2, hM2, hf2⟩ := h1
  have hC2 := hC1.frG hf2
  rw [t1, t2]
  refine y_same (pc := 448) hC 972 dL_law_448 rfl ?_
  exact K _ _ hC2 hM2
set_option maxHeartbeats 4000000 in
set_option maxRecDepth 100000 in
theorem K_law_7 {E : zE} {w : zP} {l : Launch} {b0 L : Nat} {xs : Nat → Int32} (hw : zOK w) (hC : yC E w l b0 L xs) {Ω : Mem} (i : Nat) (hi : i + 6 ≤ L) (hL : L ≤ 3072) (a : As) (hC0 : RC Ω a) (hM : RM Ω a) (K : ∀ (Ω1 : Mem) (a1 : As), RC Ω1 a1 → RM Ω1 a1 → Y E Ω1 972 [some (.ref b0), some (.ref (wa w 0)), some (.ref (wa w 49)), some (.int (zI (i : Int)))] []) : Y E Ω 453 [some (.ref b0), some (.ref (wa w 0)), some (.ref (wa w 49)), some (.int (zI (i : Int)))] [] := by
  refine y_aload_n (pc := 453) hC (i := 1) dL_law_453 rfl rfl ?_
  refine y_aload_n (pc := 454) hC (i := 0) dL_law_454 rfl rfl ?_
  refine y_iload_n (pc := 455) hC (i := 3) dL_law_455 rfl rfl ?_
  refine y_iconst (pc := 456) hC dL_law_456 ?_
  refine y_iadd (pc := 457) hC dL_law_457 ?_
  refine y_sld (pc := 458) hC (i + 1) (by omega) (by omega) hL dL_law_458 ?_
  refine y_aload_n (pc := 459) hC (i := 0) dL_law_459 rfl rfl ?_
  refine y_iload_n (pc := 460) hC (i := 3) dL_law_460 rfl rfl ?_
  refine y_iconst (pc := 461) hC dL_law_461 ?_
  refine y_iadd (pc := 462) hC dL_law_462 ?_
  refine y_sld (pc := 463) hC (i + 2) (by omega) (by omega) hL dL_law_463 ?_
  refine y_aload_n (pc := 464) hC (i := 0) dL_law_464 rfl rfl ?_
  refine y_iload_n (pc := 465) hC (i := 3) dL_law_465 rfl rfl ?_
  refine y_iconst (pc := 466) hC dL_law_466 ?_
  refine y_iadd (pc := 467) hC dL_law_467 ?_
  refine y_sld (pc := 468) hC (i + 3) (by omega) (by omega) hL dL_law_468 ?_
  refine y_callV (n := 3) (T := TX4) (N := 7) (ci := 4) (pc := 469) hC (c_X4_dot l w hw _ a hC0 _ _ _ (zb_toInt _) (zb_toInt _) (zb_toInt _)) gL_law_X4_dot rfl (by decide +kernel) (Nat.le_of_ble_eq_true rfl) (Nat.le_of_ble_eq_true rfl) rfl (by decide) (fun _ => rfl) rfl rfl (Nat.le_of_ble_eq_true rfl) dL_law_469 (yi_k fun r0 Ω0 h0 => ?_)
  obtain ⟨t1, hC1, hf1⟩ := h0
  have hM0 := hM.frC hf1
  refine y_aload_n (pc := 472) hC (i := 2) dL_law_472 rfl rfl ?_
  refine y_aload_n (pc := 473) hC (i := 0) dL_law_473 rfl rfl ?_
  refine y_iload_n (pc := 474) hC (i := 3) dL_law_474 rfl rfl ?_
  refine y_iconst (pc := 475) hC dL_law_475 ?_
  refine y_iadd (pc := 476) hC dL_law_476 ?_
  refine y_sld (pc := 477) hC (i + 1) (by omega) (by omega) hL dL_law_477 ?_
  refine y_aload_n (pc := 478) hC (i := 0) dL_law_478 rfl rfl ?_
  refine y_iload_n (pc := 479) hC (i := 3) dL_law_479 rfl rfl ?_
  refine y_iconst (pc := 480) hC dL_law_480 ?_
  refine y_iadd (pc := 481) hC dL_law_481 ?_
  refine y_sld (pc := 482) hC (i + 2) (by omega) (by omega) hL dL_law_482 ?_
  refine y_aload_n (pc := 483) hC (i := 0) dL_law_483 rfl rfl ?_
  refine y_iload_n (pc := 484) hC (i := 3) dL_law_484 rfl rfl ?_
  refine y_iconst (pc := 485) hC dL_law_485 ?_
  refine y_iadd (pc := 486) hC dL_law_486 ?_
  refine y_sld (pc := 487) hC (i + 3) (by omega) (by omega) hL dL_law_487 ?_
  refine y_callV (n := 3) (T := TX5) (N := 15) (ci := 5) (pc := 488) hC (c_X5_dot l w hw _ a hM0 _ _ _ (zb_toInt _) (zb_toInt _) (zb_toInt _)) gL_law_X5_dot rfl (by decide +kernel) (Nat.le_of_ble_eq_true rfl) (Nat.le_of_ble_eq_true rfl) rfl (by decide) (fun _ => rfl) rfl rfl (Nat.le_of_ble_eq_true rfl) dL_law_488 (yi_k fun r1 Ω1 h1 => ?_)
  obtain ⟨t2, hM2, hf2⟩ := h1
  have hC2 := hC1.frG hf2
  rw [t1, t2]
  refine y_same (pc := 491) hC 972 dL_law_491 rfl ?_
  exact K _ _ hC2 hM2
set_option maxHeartbeats 4000000 in
set_option maxRecDepth 100000 in
theorem K_law_8 {E : zE} {w : zP} {l : Launch} {b0 L : Nat} {xs : Nat → Int32} (hw : zOK w) (hC : yC E w l b0 L xs) {Ω : Mem} (i : Nat) (hi : i + 6 ≤ L) (hL : L ≤ 3072) (a : As) (hC0 : RC Ω a) (hM : RM Ω a) (K : ∀ (Ω1 : Mem) (a1 : As), RC Ω1 a1 → RM Ω1 a1 → Y E Ω1 972 [some (.ref b0), some (.ref (wa w 0)), some (.ref (wa w 49)), some (.int (zI (i : Int)))] []) : Y E Ω 496 [some (.ref b0), some (.ref (wa w 0)), some (.ref (wa w 49)), some (.int (zI (i : Int)))] [] := by
  refine y_aload_n (pc := 496) hC (i := 1) dL_law_496 rfl rfl ?_
  refine y_aload_n (pc := 497) hC (i := 0) dL_law_497 rfl rfl ?_
  refine y_iload_n (pc := 498) hC (i := 3) dL_law_498 rfl rfl ?_
  refine y_iconst (pc := 499) hC dL_law_499 ?_
  refine y_iadd (pc := 500) hC dL_law_500 ?_
  refine y_sld (pc := 501) hC (i + 1) (by omega) (by omega) hL dL_law_501 ?_
  refine y_aload_n (pc := 502) hC (i := 0) dL_law_502 rfl rfl ?_
  refine y_iload_n (pc := 503) hC (i := 3) dL_law_503 rfl rfl ?_
  refine y_iconst (pc := 504) hC dL_law_504 ?_
  refine y_iadd (pc := 505) hC dL_law_505 ?_
  refine y_sld (pc := 506) hC (i + 2) (by omega) (by omega) hL dL_law_506 ?_
  refine y_aload_n (pc := 507) hC (i := 0) dL_law_507 rfl rfl ?_
  refine y_iload_n (pc := 508) hC (i := 3) dL_law_508 rfl rfl ?_
  refine y_iconst (pc := 509) hC dL_law_509 ?_
  refine y_iadd (pc := 510) hC dL_law_510 ?_
  refine y_sld (pc := 511) hC (i + 3) (by omega) (by omega) hL dL_law_511 ?_
  refine y_callV (n := 3) (T := TX4) (N := 7) (ci := 4) (pc := 512) hC (c_X4_link l w hw _ a hC0 _ _ _ (zb_toInt _) (zb_toInt _) (zb_toInt _)) gL_law_X4_link rfl (by decide +kernel) (Nat.le_of_ble_eq_true rfl) (Nat.le_of_ble_eq_true rfl) rfl (by decide) (fun _ => rfl) rfl rfl (Nat.le_of_ble_eq_true rfl) dL_law_512 (yi_k fun r0 Ω0 h0 => ?_)
  obtain ⟨t1, hC1, hf1⟩ := h0
  have hM0 := hM.frC hf1
  refine y_aload_n (pc := 515) hC (i := 2) dL_law_515 rfl rfl ?_
  refine y_aload_n (pc := 516) hC (i := 0) dL_law_516 rfl rfl ?_
  refine y_iload_n (pc := 517) hC (i := 3) dL_law_517 rfl rfl ?_
  refine y_iconst (pc := 518) hC dL_law_518 ?_
  refine y_iadd (pc := 519) hC dL_law_519 ?_
  refine y_sld (pc := 520) hC (i + 1) (by omega) (by omega) hL dL_law_520 ?_
  refine y_aload_n (pc := 521) hC (i := 0) dL_law_521 rfl rfl ?_
  refine y_iload_n (pc := 522) hC (i := 3) dL_law_522 rfl rfl ?_
  refine y_iconst (pc := 523) hC dL_law_523 ?_
  refine y_iadd (pc := 524) hC dL_law_524 ?_
  refine y_sld (pc := 525) hC (i + 2) (by omega) (by omega) hL dL_law_525 ?_
  refine y_aload_n (pc := 526) hC (i := 0) dL_law_526 rfl rfl ?_
  refine y_iload_n (pc := 527) hC (i := 3) dL_law_527 rfl rfl ?_
  refine y_iconst (pc := 528) hC dL_law_528 ?_
  refine y_iadd (pc := 529) hC dL_law_529 ?_
  refine y_sld (pc := 530) hC (i + 3) (by omega) (by omega) hL dL_law_530 ?_
  refine y_callV (n := 3) (T := TX5) (N := 15) (ci := 5) (pc := 531) hC (c_X5_link l w hw _ a hM0 _ _ _ (zb_toInt _) (zb_toInt _) (zb_toInt _)) gL_law_X5_link rfl (by decide +kernel) (Nat.le_of_ble_eq_true rfl) (Nat.le_of_ble_eq_true rfl) rfl (by decide) (fun _ => rfl) rfl rfl (Nat.le_of_ble_eq_true rfl) dL_law_531 (yi_k fun r1 Ω1 h1 => ?_)
  obtain ⟨t2, hM2, hf2⟩ := h1
  have hC2 := hC1.frG hf2
  rw [t1, t2]
  refine y_same (pc := 534) hC 972 dL_law_534 rfl ?_
  exact K _ _ hC2 hM2
set_option maxHeartbeats 4000000 in
set_option maxRecDepth 100000 in
theorem K_law_9 {E : zE} {w : zP} {l : Launch} {b0 L : Nat} {xs : Nat → Int32} (hw : zOK w) (hC : yC E w l b0 L xs) {Ω : Mem} (i : Nat) (hi : i + 6 ≤ L) (hL : L ≤ 3072) (a : As) (hC0 : RC Ω a) (hM : RM Ω a) (K : ∀ (Ω1 : Mem) (a1 : As), RC Ω1 a1 → RM Ω1 a1 → Y E Ω1 972 [some (.ref b0), some (.ref (wa w 0)), some (.ref (wa w 49)), some (.int (zI (i : Int)))] []) : Y E Ω 539 [some (.ref b0), some (.ref (wa w 0)), some (.ref (wa w 49)), some (.int (zI (i : Int)))] [] := by
  refine y_aload_n (pc := 539) hC (i := 1) dL_law_539 rfl rfl ?_
  refine y_callV (n := 0) (T := TX4) (N := 7) (ci := 4) (pc := 540) hC (c_X4_cost l w hw _ a hC0  ) gL_law_X4_cost rfl (by decide +kernel) (Nat.le_of_ble_eq_true rfl) (Nat.le_of_ble_eq_true rfl) rfl (by decide) (fun _ => rfl) rfl rfl (Nat.le_of_ble_eq_true rfl) dL_law_540 (yi_k fun r0 Ω0 h0 => ?_)
  obtain ⟨t1, hC1, hf1⟩ := h0
  have hM0 := hM.frC hf1
  refine y_aload_n (pc := 543) hC (i := 2) dL_law_543 rfl rfl ?_
  refine y_callV (n := 0) (T := TX5) (N := 15) (ci := 5) (pc := 544) hC (c_X5_cost l w hw _ a hM0  ) gL_law_X5_cost rfl (by decide +kernel) (Nat.le_of_ble_eq_true rfl) (Nat.le_of_ble_eq_true rfl) rfl (by decide) (fun _ => rfl) rfl rfl (Nat.le_of_ble_eq_true rfl) dL_law_544 (yi_k fun r1 Ω1 h1 => ?_)
  obtain ⟨t2, hM2, hf2⟩ := h1
  have hC2 := hC1.frG hf2
  rw [t1, t2]
  refine y_same (pc := 547) hC 972 dL_law_547 rfl ?_
  exact K _ _ hC2 hM2
set_option maxHeartbeats 4000000 in
set_option maxRecDepth 100000 in
theorem K_law_10 {E : zE} {w : zP} {l : Launch} {b0 L : Nat} {xs : Nat → Int32} (hw : zOK w) (hC : yC E w l b0 L xs) {Ω : Mem} (i : Nat) (hi : i + 6 ≤ L) (hL : L ≤ 3072) (a : As) (hC0 : RC Ω a) (hM : RM Ω a) (K : ∀ (Ω1 : Mem) (a1 : As), RC Ω1 a1 → RM Ω1 a1 → Y E Ω1 972 [some (.ref b0), some (.ref (wa w 0)), some (.ref (wa w 49)), some (.int (zI (i : Int)))] []) : Y E Ω 552 [some (.ref b0), some (.ref (wa w 0)), some (.ref (wa w 49)), some (.int (zI (i : Int)))] [] := by
  refine y_aload_n (pc := 552) hC (i := 1) dL_law_552 rfl rfl ?_
  refine y_aload_n (pc := 553) hC (i := 0) dL_law_553 rfl rfl ?_
  refine y_iload_n (pc := 554) hC (i := 3) dL_law_554 rfl rfl ?_
  refine y_iconst (pc := 555) hC dL_law_555 ?_
  refine y_iadd (pc := 556) hC dL_law_556 ?_
  refine y_sld (pc := 557) hC (i + 1) (by omega) (by omega) hL dL_law_557 ?_
  refine y_callV (n := 1) (T := TX4) (N := 7) (ci := 4) (pc := 558) hC (c_X4_side l w hw _ a hC0 _ (zb_toInt _)) gL_law_X4_side rfl (by decide +kernel) (Nat.le_of_ble_eq_true rfl) (Nat.le_of_ble_eq_true rfl) rfl (by decide) (fun _ => rfl) rfl rfl (Nat.le_of_ble_eq_true rfl) dL_law_558 (yl_k fun r0 Ω0 h0 => ?_)
  obtain ⟨t1, hC1, hf1⟩ := h0
  have hM0 := hM.frC hf1
  refine y_aload_n (pc := 561) hC (i := 2) dL_law_561 rfl rfl ?_
  refine y_aload_n (pc := 562) hC (i := 0) dL_law_562 rfl rfl ?_
  refine y_iload_n (pc := 563) hC (i := 3) dL_law_563 rfl rfl ?_
  refine y_iconst (pc := 564) hC dL_law_564 ?_
  refine y_iadd (pc := 565) hC dL_law_565 ?_
  refine y_sld (pc := 566) hC (i + 1) (by omega) (by omega) hL dL_law_566 ?_
  refine y_callV (n := 1) (T := TX5) (N := 15) (ci := 5) (pc := 567) hC (c_X5_side l w hw _ a hM0 _ (zb_toInt _)) gL_law_X5_side rfl (by decide +kernel) (Nat.le_of_ble_eq_true rfl) (Nat.le_of_ble_eq_true rfl) rfl (by decide) (fun _ => rfl) rfl rfl (Nat.le_of_ble_eq_true rfl) dL_law_567 (yl_k fun r1 Ω1 h1 => ?_)
  obtain ⟨t2, hM2, hf2⟩ := h1
  have hC2 := hC1.frG hf2
  rw [t1, t2]
  refine y_lcmp (pc := 570) hC dL_law_570 ?_
  refine y_if_eq (pc := 571) hC 972 (zcmp_zb _ _) dL_law_571 rfl (fun _ => ?_) (fun h => absurd (zcmp_self _) h)
  exact K _ _ hC2 hM2
set_option maxHeartbeats 4000000 in
set_option maxRecDepth 100000 in
theorem K_law_11 {E : zE} {w : zP} {l : Launch} {b0 L : Nat} {xs : Nat → Int32} (hw : zOK w) (hC : yC E w l b0 L xs) {Ω : Mem} (i : Nat) (hi : i + 6 ≤ L) (hL : L ≤ 3072) (a : As) (hC0 : RC Ω a) (hM : RM Ω a) (K : ∀ (Ω1 : Mem) (a1 : As), RC Ω1 a1 → RM Ω1 a1 → Y E Ω1 972 [some (.ref b0), some (.ref (wa w 0)), some (.ref (wa w 49)), some (.int (zI (i : Int)))] []) : Y E Ω 576 [some (.ref b0), some (.ref (wa w 0)), some (.ref (wa w 49)), some (.int (zI (i : Int)))] [] := by
  refine y_aload_n (pc := 576) hC (i := 1) dL_law_576 rfl rfl ?_
  refine y_aload_n (pc := 577) hC (i := 0) dL_law_577 rfl rfl ?_
  refine y_iload_n (pc := 578) hC (i := 3) dL_law_578 rfl rfl ?_
  refine y_iconst (pc := 579) hC dL_law_579 ?_
  refine y_iadd (pc := 580) hC dL_law_580 ?_
  refine y_sld (pc := 581) hC (i + 1) (by omega) (by omega) hL dL_law_581 ?_
  refine y_aload_n (pc := 582) hC (i := 0) dL_law_582 rfl rfl ?_
  refine y_iload_n (pc := 583) hC (i := 3) dL_law_583 rfl rfl ?_
  refine y_iconst (pc := 584) hC dL_law_584 ?_
  refine y_iadd (pc := 585) hC dL_law_585 ?_
  refine y_sld (pc := 586) hC (i + 2) (by omega) (by omega) hL dL_law_586 ?_
  refine y_callV (n := 2) (T := TX4) (N := 7) (ci := 4) (pc := 587) hC (c_X4_sure l w hw _ a hC0 _ _ (zb_toInt _) (zb_toInt _)) gL_law_X4_sure rfl (by decide +kernel) (Nat.le_of_ble_eq_true rfl) (Nat.le_of_ble_eq_true rfl) rfl (by decide) (fun _ => rfl) rfl rfl (Nat.le_of_ble_eq_true rfl) dL_law_587 (yi_k fun r0 Ω0 h0 => ?_)
  obtain ⟨t1, hC1, hf1⟩ := h0
  have hM0 := hM.frC hf1
  refine y_aload_n (pc := 590) hC (i := 2) dL_law_590 rfl rfl ?_
  refine y_aload_n (pc := 591) hC (i := 0) dL_law_591 rfl rfl ?_
  refine y_iload_n (pc := 592) hC (i := 3) dL_law_592 rfl rfl ?_
  refine y_iconst (pc := 593) hC dL_law_593 ?_
  refine y_iadd (pc := 594) hC dL_law_594 ?_
  refine y_sld (pc := 595) hC (i + 1) (by omega) (by omega) hL dL_law_595 ?_
  refine y_aload_n (pc := 596) hC (i := 0) dL_law_596 rfl rfl ?_
  refine y_iload_n (pc := 597) hC (i := 3) dL_law_597 rfl rfl ?_
  refine y_iconst (pc := 598) hC dL_law_598 ?_
  refine y_iadd (pc := 599) hC dL_law_599 ?_
  refine y_sld (pc := 600) hC (i + 2) (by omega) (by omega) hL dL_law_600 ?_
  refine y_callV (n := 2) (T := TX5) (N := 15) (ci := 5) (pc := 601) hC (c_X5_sure l w hw _ a hM0 _ _ (zb_toInt _) (zb_toInt _)) gL_law_X5_sure rfl (by decide +kernel) (Nat.le_of_ble_eq_true rfl) (Nat.le_of_ble_eq_true rfl) rfl (by decide) (fun _ => rfl) rfl rfl (Nat.le_of_ble_eq_true rfl) dL_law_601 (yi_k fun r1 Ω1 h1 => ?_)
  obtain ⟨t2, hM2, hf2⟩ := h1
  have hC2 := hC1.frG hf2
  rw [t1, t2]
  refine y_same (pc := 604) hC 972 dL_law_604 rfl ?_
  exact K _ _ hC2 hM2
set_option maxHeartbeats 4000000 in
set_option maxRecDepth 100000 in
theorem K_law_12 {E : zE} {w : zP} {l : Launch} {b0 L : Nat} {xs : Nat → Int32} (hw : zOK w) (hC : yC E w l b0 L xs) {Ω : Mem} (i : Nat) (hi : i + 6 ≤ L) (hL : L ≤ 3072) (a : As) (hC0 : RC Ω a) (hM : RM Ω a) (K : ∀ (Ω1 : Mem) (a1 : As), RC Ω1 a1 → RM Ω1 a1 → Y E Ω1 972 [some (.ref b0), some (.ref (wa w 0)), some (.ref (wa w 49)), some (.int (zI (i : Int)))] []) : Y E Ω 609 [some (.ref b0), some (.ref (wa w 0)), some (.ref (wa w 49)), some (.int (zI (i : Int)))] [] := by
  refine y_aload_n (pc := 609) hC (i := 1) dL_law_609 rfl rfl ?_
  refine y_aload_n (pc := 610) hC (i := 0) dL_law_610 rfl rfl ?_
  refine y_iload_n (pc := 611) hC (i := 3) dL_law_611 rfl rfl ?_
  refine y_iconst (pc := 612) hC dL_law_612 ?_
  refine y_iadd (pc := 613) hC dL_law_613 ?_
  refine y_sld (pc := 614) hC (i + 1) (by omega) (by omega) hL dL_law_614 ?_
  refine y_aload_n (pc := 615) hC (i := 0) dL_law_615 rfl rfl ?_
  refine y_iload_n (pc := 616) hC (i := 3) dL_law_616 rfl rfl ?_
  refine y_iconst (pc := 617) hC dL_law_617 ?_
  refine y_iadd (pc := 618) hC dL_law_618 ?_
  refine y_sld (pc := 619) hC (i + 2) (by omega) (by omega) hL dL_law_619 ?_
  refine y_aload_n (pc := 620) hC (i := 0) dL_law_620 rfl rfl ?_
  refine y_iload_n (pc := 621) hC (i := 3) dL_law_621 rfl rfl ?_
  refine y_iconst (pc := 622) hC dL_law_622 ?_
  refine y_iadd (pc := 623) hC dL_law_623 ?_
  refine y_sld (pc := 624) hC (i + 3) (by omega) (by omega) hL dL_law_624 ?_
  refine y_callV (n := 3) (T := TX4) (N := 7) (ci := 4) (pc := 625) hC (c_X4_were l w hw _ a hC0 _ _ _ (zb_toInt _) (zb_toInt _) (zb_toInt _)) gL_law_X4_were rfl (by decide +kernel) (Nat.le_of_ble_eq_true rfl) (Nat.le_of_ble_eq_true rfl) rfl (by decide) (fun _ => rfl) rfl rfl (Nat.le_of_ble_eq_true rfl) dL_law_625 (yi_k fun r0 Ω0 h0 => ?_)
  obtain ⟨t1, hC1, hf1⟩ := h0
  have hM0 := hM.frC hf1
  refine y_aload_n (pc := 628) hC (i := 2) dL_law_628 rfl rfl ?_
  refine y_aload_n (pc := 629) hC (i := 0) dL_law_629 rfl rfl ?_
  refine y_iload_n (pc := 630) hC (i := 3) dL_law_630 rfl rfl ?_
  refine y_iconst (pc := 631) hC dL_law_631 ?_
  refine y_iadd (pc := 632) hC dL_law_632 ?_
  refine y_sld (pc := 633) hC (i + 1) (by omega) (by omega) hL dL_law_633 ?_
  refine y_aload_n (pc := 634) hC (i := 0) dL_law_634 rfl rfl ?_
  refine y_iload_n (pc := 635) hC (i := 3) dL_law_635 rfl rfl ?_
  refine y_iconst (pc := 636) hC dL_law_636 ?_
  refine y_iadd (pc := 637) hC dL_law_637 ?_
  refine y_sld (pc := 638) hC (i + 2) (by omega) (by omega) hL dL_law_638 ?_
  refine y_aload_n (pc := 639) hC (i := 0) dL_law_639 rfl rfl ?_
  refine y_iload_n (pc := 640) hC (i := 3) dL_law_640 rfl rfl ?_
  refine y_iconst (pc := 641) hC dL_law_641 ?_
  refine y_iadd (pc := 642) hC dL_law_642 ?_
  refine y_sld (pc := 643) hC (i + 3) (by omega) (by omega) hL dL_law_643 ?_
  refine y_callV (n := 3) (T := TX5) (N := 15) (ci := 5) (pc := 644) hC (c_X5_were l w hw _ a hM0 _ _ _ (zb_toInt _) (zb_toInt _) (zb_toInt _)) gL_law_X5_were rfl (by decide +kernel) (Nat.le_of_ble_eq_true rfl) (Nat.le_of_ble_eq_true rfl) rfl (by decide) (fun _ => rfl) rfl rfl (Nat.le_of_ble_eq_true rfl) dL_law_644 (yi_k fun r1 Ω1 h1 => ?_)
  obtain ⟨t2, hM2, hf2⟩ := h1
  have hC2 := hC1.frG hf2
  rw [t1, t2]
  refine y_same (pc := 647) hC 972 dL_law_647 rfl ?_
  exact K _ _ hC2 hM2
set_option maxHeartbeats 4000000 in
set_option maxRecDepth 100000 in
theorem K_law_13 {E : zE} {w : zP} {l : Launch} {b0 L : Nat} {xs : Nat → Int32} (hw : zOK w) (hC : yC E w l b0 L xs) {Ω : Mem} (i : Nat) (hi : i + 6 ≤ L) (hL : L ≤ 3072) (a : As) (hC0 : RC Ω a) (hM : RM Ω a) (K : ∀ (Ω1 : Mem) (a1 : As), RC Ω1 a1 → RM Ω1 a1 → Y E Ω1 972 [some (.ref b0), some (.ref (wa w 0)), some (.ref (wa w 49)), some (.int (zI (i : Int)))] []) : Y E Ω 652 [some (.ref b0), some (.ref (wa w 0)), some (.ref (wa w 49)), some (.int (zI (i : Int)))] [] := by
  refine y_aload_n (pc := 652) hC (i := 1) dL_law_652 rfl rfl ?_
  refine y_aload_n (pc := 653) hC (i := 0) dL_law_653 rfl rfl ?_
  refine y_iload_n (pc := 654) hC (i := 3) dL_law_654 rfl rfl ?_
  refine y_iconst (pc := 655) hC dL_law_655 ?_
  refine y_iadd (pc := 656) hC dL_law_656 ?_
  refine y_sld (pc := 657) hC (i + 1) (by omega) (by omega) hL dL_law_657 ?_
  refine y_aload_n (pc := 658) hC (i := 0) dL_law_658 rfl rfl ?_
  refine y_iload_n (pc := 659) hC (i := 3) dL_law_659 rfl rfl ?_
  refine y_iconst (pc := 660) hC dL_law_660 ?_
  refine y_iadd (pc := 661) hC dL_law_661 ?_
  refine y_sld (pc := 662) hC (i + 2) (by omega) (by omega) hL dL_law_662 ?_
  refine y_aload_n (pc := 663) hC (i := 0) dL_law_663 rfl rfl ?_
  refine y_iload_n (pc := 664) hC (i := 3) dL_law_664 rfl rfl ?_
  refine y_iconst (pc := 665) hC dL_law_665 ?_
  refine y_iadd (pc := 666) hC dL_law_666 ?_
  refine y_sld (pc := 667) hC (i + 3) (by omega) (by omega) hL dL_law_667 ?_
  refine y_aload_n (pc := 668) hC (i := 0) dL_law_668 rfl rfl ?_
  refine y_iload_n (pc := 669) hC (i := 3) dL_law_669 rfl rfl ?_
  refine y_iconst (pc := 670) hC dL_law_670 ?_
  refine y_iadd (pc := 671) hC dL_law_671 ?_
  refine y_sld (pc := 672) hC (i + 4) (by omega) (by omega) hL dL_law_672 ?_
  refine y_callV (n := 4) (T := TX4) (N := 7) (ci := 4) (pc := 673) hC (c_X4_strain l w hw _ a hC0 _ _ _ _ (zb_toInt _) (zb_toInt _) (zb_toInt _) (zb_toInt _)) gL_law_X4_strain rfl (by decide +kernel) (Nat.le_of_ble_eq_true rfl) (Nat.le_of_ble_eq_true rfl) rfl (by decide) (fun _ => rfl) rfl rfl (Nat.le_of_ble_eq_true rfl) dL_law_673 (yi_k fun r0 Ω0 h0 => ?_)
  obtain ⟨t1, hC1, hf1⟩ := h0
  have hM0 := hM.frC hf1
  refine y_aload_n (pc := 676) hC (i := 2) dL_law_676 rfl rfl ?_
  refine y_aload_n (pc := 677) hC (i := 0) dL_law_677 rfl rfl ?_
  refine y_iload_n (pc := 678) hC (i := 3) dL_law_678 rfl rfl ?_
  refine y_iconst (pc := 679) hC dL_law_679 ?_
  refine y_iadd (pc := 680) hC dL_law_680 ?_
  refine y_sld (pc := 681) hC (i + 1) (by omega) (by omega) hL dL_law_681 ?_
  refine y_aload_n (pc := 682) hC (i := 0) dL_law_682 rfl rfl ?_
  refine y_iload_n (pc := 683) hC (i := 3) dL_law_683 rfl rfl ?_
  refine y_iconst (pc := 684) hC dL_law_684 ?_
  refine y_iadd (pc := 685) hC dL_law_685 ?_
  refine y_sld (pc := 686) hC (i + 2) (by omega) (by omega) hL dL_law_686 ?_
  refine y_aload_n (pc := 687) hC (i := 0) dL_law_687 rfl rfl ?_
  refine y_iload_n (pc := 688) hC (i := 3) dL_law_688 rfl rfl ?_
  refine y_iconst (pc := 689) hC dL_law_689 ?_
  refine y_iadd (pc := 690) hC dL_law_690 ?_
  refine y_sld (pc := 691) hC (i + 3) (by omega) (by omega) hL dL_law_691 ?_
  refine y_aload_n (pc := 692) hC (i := 0) dL_law_692 rfl rfl ?_
  refine y_iload_n (pc := 693) hC (i := 3) dL_law_693 rfl rfl ?_
  refine y_iconst (pc := 694) hC dL_law_694 ?_
  refine y_iadd (pc := 695) hC dL_law_695 ?_
  refine y_sld (pc := 696) hC (i + 4) (by omega) (by omega) hL dL_law_696 ?_
  refine y_callV (n := 4) (T := TX5) (N := 15) (ci := 5) (pc := 697) hC (c_X5_strain l w hw _ a hM0 _ _ _ _ (zb_toInt _) (zb_toInt _) (zb_toInt _) (zb_toInt _)) gL_law_X5_strain rfl (by decide +kernel) (Nat.le_of_ble_eq_true rfl) (Nat.le_of_ble_eq_true rfl) rfl (by decide) (fun _ => rfl) rfl rfl (Nat.le_of_ble_eq_true rfl) dL_law_697 (yi_k fun r1 Ω1 h1 => ?_)
  obtain ⟨t2, hM2, hf2⟩ := h1
  have hC2 := hC1.frG hf2
  rw [t1, t2]
  refine y_same (pc := 700) hC 972 dL_law_700 rfl ?_
  exact K _ _ hC2 hM2
set_option maxHeartbeats 4000000 in
set_option maxRecDepth 100000 in
theorem K_law_14 {E : zE} {w : zP} {l : Launch} {b0 L : Nat} {xs : Nat → Int32} (hw : zOK w) (hC : yC E w l b0 L xs) {Ω : Mem} (i : Nat) (hi : i + 6 ≤ L) (hL : L ≤ 3072) (a : As) (hC0 : RC Ω a) (hM : RM Ω a) (K : ∀ (Ω1 : Mem) (a1 : As), RC Ω1 a1 → RM Ω1 a1 → Y E Ω1 972 [some (.ref b0), some (.ref (wa w 0)), some (.ref (wa w 49)), some (.int (zI (i : Int)))] []) : Y E Ω 705 [some (.ref b0), some (.ref (wa w 0)), some (.ref (wa w 49)), some (.int (zI (i : Int)))] [] := by
  refine y_aload_n (pc := 705) hC (i := 1) dL_law_705 rfl rfl ?_
  refine y_aload_n (pc := 706) hC (i := 0) dL_law_706 rfl rfl ?_
  refine y_iload_n (pc := 707) hC (i := 3) dL_law_707 rfl rfl ?_
  refine y_iconst (pc := 708) hC dL_law_708 ?_
  refine y_iadd (pc := 709) hC dL_law_709 ?_
  refine y_sld (pc := 710) hC (i + 1) (by omega) (by omega) hL dL_law_710 ?_
  refine y_aload_n (pc := 711) hC (i := 0) dL_law_711 rfl rfl ?_
  refine y_iload_n (pc := 712) hC (i := 3) dL_law_712 rfl rfl ?_
  refine y_iconst (pc := 713) hC dL_law_713 ?_
  refine y_iadd (pc := 714) hC dL_law_714 ?_
  refine y_sld (pc := 715) hC (i + 2) (by omega) (by omega) hL dL_law_715 ?_
  refine y_aload_n (pc := 716) hC (i := 0) dL_law_716 rfl rfl ?_
  refine y_iload_n (pc := 717) hC (i := 3) dL_law_717 rfl rfl ?_
  refine y_iconst (pc := 718) hC dL_law_718 ?_
  refine y_iadd (pc := 719) hC dL_law_719 ?_
  refine y_sld (pc := 720) hC (i + 3) (by omega) (by omega) hL dL_law_720 ?_
  refine y_callV (n := 3) (T := TX4) (N := 7) (ci := 4) (pc := 721) hC (c_X4_tight l w hw _ a hC0 _ _ _ (zb_toInt _) (zb_toInt _) (zb_toInt _)) gL_law_X4_tight rfl (by decide +kernel) (Nat.le_of_ble_eq_true rfl) (Nat.le_of_ble_eq_true rfl) rfl (by decide) (fun _ => rfl) rfl rfl (Nat.le_of_ble_eq_true rfl) dL_law_721 (yi_k fun r0 Ω0 h0 => ?_)
  obtain ⟨t1, hC1, hf1⟩ := h0
  have hM0 := hM.frC hf1
  refine y_aload_n (pc := 724) hC (i := 2) dL_law_724 rfl rfl ?_
  refine y_aload_n (pc := 725) hC (i := 0) dL_law_725 rfl rfl ?_
  refine y_iload_n (pc := 726) hC (i := 3) dL_law_726 rfl rfl ?_
  refine y_iconst (pc := 727) hC dL_law_727 ?_
  refine y_iadd (pc := 728) hC dL_law_728 ?_
  refine y_sld (pc := 729) hC (i + 1) (by omega) (by omega) hL dL_law_729 ?_
  refine y_aload_n (pc := 730) hC (i := 0) dL_law_730 rfl rfl ?_
  refine y_iload_n (pc := 731) hC (i := 3) dL_law_731 rfl rfl ?_
  refine y_iconst (pc := 732) hC dL_law_732 ?_
  refine y_iadd (pc := 733) hC dL_law_733 ?_
  refine y_sld (pc := 734) hC (i + 2) (by omega) (by omega) hL dL_law_734 ?_
  refine y_aload_n (pc := 735) hC (i := 0) dL_law_735 rfl rfl ?_
  refine y_iload_n (pc := 736) hC (i := 3) dL_law_736 rfl rfl ?_
  refine y_iconst (pc := 737) hC dL_law_737 ?_
  refine y_iadd (pc := 738) hC dL_law_738 ?_
  refine y_sld (pc := 739) hC (i + 3) (by omega) (by omega) hL dL_law_739 ?_
  refine y_callV (n := 3) (T := TX5) (N := 15) (ci := 5) (pc := 740) hC (c_X5_tight l w hw _ a hM0 _ _ _ (zb_toInt _) (zb_toInt _) (zb_toInt _)) gL_law_X5_tight rfl (by decide +kernel) (Nat.le_of_ble_eq_true rfl) (Nat.le_of_ble_eq_true rfl) rfl (by decide) (fun _ => rfl) rfl rfl (Nat.le_of_ble_eq_true rfl) dL_law_740 (yi_k fun r1 Ω1 h1 => ?_)
  obtain ⟨t2, hM2, hf2⟩ := h1
  have hC2 := hC1.frG hf2
  rw [t1, t2]
  refine y_same (pc := 743) hC 972 dL_law_743 rfl ?_
  exact K _ _ hC2 hM2
set_option maxHeartbeats 4000000 in
set_option maxRecDepth 100000 in
theorem K_law_15 {E : zE} {w : zP} {l : Launch} {b0 L : Nat} {xs : Nat → Int32} (hw : zOK w) (hC : yC E w l b0 L xs) {Ω : Mem} (i : Nat) (hi : i + 6 ≤ L) (hL : L ≤ 3072) (a : As) (hC0 : RC Ω a) (hM : RM Ω a) (K : ∀ (Ω1 : Mem) (a1 : As), RC Ω1 a1 → RM Ω1 a1 → Y E Ω1 972 [some (.ref b0), some (.ref (wa w 0)), some (.ref (wa w 49)), some (.int (zI (i : Int)))] []) : Y E Ω 748 [some (.ref b0), some (.ref (wa w 0)), some (.ref (wa w 49)), some (.int (zI (i : Int)))] [] := by
  refine y_aload_n (pc := 748) hC (i := 1) dL_law_748 rfl rfl ?_
  refine y_aload_n (pc := 749) hC (i := 0) dL_law_749 rfl rfl ?_
  refine y_iload_n (pc := 750) hC (i := 3) dL_law_750 rfl rfl ?_
  refine y_iconst (pc := 751) hC dL_law_751 ?_
  refine y_iadd (pc := 752) hC dL_law_752 ?_
  refine y_sld (pc := 753) hC (i + 1) (by omega) (by omega) hL dL_law_753 ?_
  refine y_i2l (pc := 754) hC rfl dL_law_754 ?_
  refine y_bipush (pc := 755) hC dL_law_755 rfl ?_
  refine y_lshl (pc := 757) hC rfl dL_law_757 ?_
  refine y_aload_n (pc := 758) hC (i := 0) dL_law_758 rfl rfl ?_
  refine y_iload_n (pc := 759) hC (i := 3) dL_law_759 rfl rfl ?_
  refine y_iconst (pc := 760) hC dL_law_760 ?_
  refine y_iadd (pc := 761) hC dL_law_761 ?_
  refine y_sld (pc := 762) hC (i + 2) (by omega) (by omega) hL dL_law_762 ?_
  refine y_i2l (pc := 763) hC rfl dL_law_763 ?_
  refine y_ldc2 (pc := 764) hC (v := 4294967295) kcL_79 dL_law_764 ?_
  refine y_land (pc := 767) hC dL_law_767 ?_
  refine y_lor (pc := 768) hC dL_law_768 ?_
  refine y_callV (n := 1) (T := TX4) (N := 7) (ci := 4) (pc := 769) hC (c_X4_costs l w hw _ a hC0 _ ) gL_law_X4_costs rfl (by decide +kernel) (Nat.le_of_ble_eq_true rfl) (Nat.le_of_ble_eq_true rfl) rfl (by decide) (fun _ => rfl) rfl rfl (Nat.le_of_ble_eq_true rfl) dL_law_769 (yi_k fun r0 Ω0 h0 => ?_)
  obtain ⟨t1, hC1, hf1⟩ := h0
  have hM0 := hM.frC hf1
  refine y_aload_n (pc := 772) hC (i := 2) dL_law_772 rfl rfl ?_
  refine y_aload_n (pc := 773) hC (i := 0) dL_law_773 rfl rfl ?_
  refine y_iload_n (pc := 774) hC (i := 3) dL_law_774 rfl rfl ?_
  refine y_iconst (pc := 775) hC dL_law_775 ?_
  refine y_iadd (pc := 776) hC dL_law_776 ?_
  refine y_sld (pc := 777) hC (i + 1) (by omega) (by omega) hL dL_law_777 ?_
  refine y_i2l (pc := 778) hC rfl dL_law_778 ?_
  refine y_bipush (pc := 779) hC dL_law_779 rfl ?_
  refine y_lshl (pc := 781) hC rfl dL_law_781 ?_
  refine y_aload_n (pc := 782) hC (i := 0) dL_law_782 rfl rfl ?_
  refine y_iload_n (pc := 783) hC (i := 3) dL_law_783 rfl rfl ?_
  refine y_iconst (pc := 784) hC dL_law_784 ?_
  refine y_iadd (pc := 785) hC dL_law_785 ?_
  refine y_sld (pc := 786) hC (i + 2) (by omega) (by omega) hL dL_law_786 ?_
  refine y_i2l (pc := 787) hC rfl dL_law_787 ?_
  refine y_ldc2 (pc := 788) hC (v := 4294967295) kcL_79 dL_law_788 ?_
  refine y_land (pc := 791) hC dL_law_791 ?_
  refine y_lor (pc := 792) hC dL_law_792 ?_
  refine y_callV (n := 1) (T := TX5) (N := 15) (ci := 5) (pc := 793) hC (c_X5_costs l w hw _ a hM0 _ ) gL_law_X5_costs rfl (by decide +kernel) (Nat.le_of_ble_eq_true rfl) (Nat.le_of_ble_eq_true rfl) rfl (by decide) (fun _ => rfl) rfl rfl (Nat.le_of_ble_eq_true rfl) dL_law_793 (yi_k fun r1 Ω1 h1 => ?_)
  obtain ⟨t2, hM2, hf2⟩ := h1
  have hC2 := hC1.frG hf2
  rw [t1, t2]
  refine y_same (pc := 796) hC 972 dL_law_796 rfl ?_
  exact K _ _ hC2 hM2
set_option maxHeartbeats 4000000 in
set_option maxRecDepth 100000 in
theorem K_law_16 {E : zE} {w : zP} {l : Launch} {b0 L : Nat} {xs : Nat → Int32} (hw : zOK w) (hC : yC E w l b0 L xs) {Ω : Mem} (i : Nat) (hi : i + 6 ≤ L) (hL : L ≤ 3072) (a : As) (hC0 : RC Ω a) (hM : RM Ω a) (K : ∀ (Ω1 : Mem) (a1 : As), RC Ω1 a1 → RM Ω1 a1 → Y E Ω1 972 [some (.ref b0), some (.ref (wa w 0)), some (.ref (wa w 49)), some (.int (zI (i : Int)))] []) : Y E Ω 801 [some (.ref b0), some (.ref (wa w 0)), some (.ref (wa w 49)), some (.int (zI (i : Int)))] [] := by
  refine y_aload_n (pc := 801) hC (i := 1) dL_law_801 rfl rfl ?_
  refine y_aload_n (pc := 802) hC (i := 0) dL_law_802 rfl rfl ?_
  refine y_iload_n (pc := 803) hC (i := 3) dL_law_803 rfl rfl ?_
  refine y_iconst (pc := 804) hC dL_law_804 ?_
  refine y_iadd (pc := 805) hC dL_law_805 ?_
  refine y_sld (pc := 806) hC (i + 1) (by omega) (by omega) hL dL_law_806 ?_
  refine y_callV (n := 1) (T := TX4) (N := 7) (ci := 4) (pc := 807) hC (c_X4_shape l w hw _ a hC0 _ (zb_toInt _)) gL_law_X4_shape rfl (by decide +kernel) (Nat.le_of_ble_eq_true rfl) (Nat.le_of_ble_eq_true rfl) rfl (by decide) (fun _ => rfl) rfl rfl (Nat.le_of_ble_eq_true rfl) dL_law_807 (yi_k fun r0 Ω0 h0 => ?_)
  obtain ⟨t1, hC1, hf1⟩ := h0
  have hM0 := hM.frC hf1
  refine y_aload_n (pc := 810) hC (i := 2) dL_law_810 rfl rfl ?_
  refine y_aload_n (pc := 811) hC (i := 0) dL_law_811 rfl rfl ?_
  refine y_iload_n (pc := 812) hC (i := 3) dL_law_812 rfl rfl ?_
  refine y_iconst (pc := 813) hC dL_law_813 ?_
  refine y_iadd (pc := 814) hC dL_law_814 ?_
  refine y_sld (pc := 815) hC (i + 1) (by omega) (by omega) hL dL_law_815 ?_
  refine y_callV (n := 1) (T := TX5) (N := 15) (ci := 5) (pc := 816) hC (c_X5_shape l w hw _ a hM0 _ (zb_toInt _)) gL_law_X5_shape rfl (by decide +kernel) (Nat.le_of_ble_eq_true rfl) (Nat.le_of_ble_eq_true rfl) rfl (by decide) (fun _ => rfl) rfl rfl (Nat.le_of_ble_eq_true rfl) dL_law_816 (yi_k fun r1 Ω1 h1 => ?_)
  obtain ⟨t2, hM2, hf2⟩ := h1
  have hC2 := hC1.frG hf2
  rw [t1, t2]
  refine y_same (pc := 819) hC 972 dL_law_819 rfl ?_
  exact K _ _ hC2 hM2
set_option maxHeartbeats 4000000 in
set_option maxRecDepth 100000 in
theorem K_law_17 {E : zE} {w : zP} {l : Launch} {b0 L : Nat} {xs : Nat → Int32} (hw : zOK w) (hC : yC E w l b0 L xs) {Ω : Mem} (i : Nat) (hi : i + 6 ≤ L) (hL : L ≤ 3072) (a : As) (hC0 : RC Ω a) (hM : RM Ω a) (K : ∀ (Ω1 : Mem) (a1 : As), RC Ω1 a1 → RM Ω1 a1 → Y E Ω1 972 [some (.ref b0), some (.ref (wa w 0)), some (.ref (wa w 49)), some (.int (zI (i : Int)))] []) : Y E Ω 824 [some (.ref b0), some (.ref (wa w 0)), some (.ref (wa w 49)), some (.int (zI (i : Int)))] [] := by
  refine y_aload_n (pc := 824) hC (i := 1) dL_law_824 rfl rfl ?_
  refine y_aload_n (pc := 825) hC (i := 0) dL_law_825 rfl rfl ?_
  refine y_iload_n (pc := 826) hC (i := 3) dL_law_826 rfl rfl ?_
  refine y_iconst (pc := 827) hC dL_law_827 ?_
  refine y_iadd (pc := 828) hC dL_law_828 ?_
  refine y_sld (pc := 829) hC (i + 1) (by omega) (by omega) hL dL_law_829 ?_
  refine y_callV (n := 1) (T := TX4) (N := 7) (ci := 4) (pc := 830) hC (c_X4_learns l w hw _ a hC0 _ (zb_toInt _)) gL_law_X4_learns rfl (by decide +kernel) (Nat.le_of_ble_eq_true rfl) (Nat.le_of_ble_eq_true rfl) rfl (by decide) (fun _ => rfl) rfl rfl (Nat.le_of_ble_eq_true rfl) dL_law_830 (yi_k fun r0 Ω0 h0 => ?_)
  obtain ⟨t1, hC1, hf1⟩ := h0
  have hM0 := hM.frC hf1
  refine y_aload_n (pc := 833) hC (i := 2) dL_law_833 rfl rfl ?_
  refine y_aload_n (pc := 834) hC (i := 0) dL_law_834 rfl rfl ?_
  refine y_iload_n (pc := 835) hC (i := 3) dL_law_835 rfl rfl ?_
  refine y_iconst (pc := 836) hC dL_law_836 ?_
  refine y_iadd (pc := 837) hC dL_law_837 ?_
  refine y_sld (pc := 838) hC (i + 1) (by omega) (by omega) hL dL_law_838 ?_
  refine y_callV (n := 1) (T := TX5) (N := 15) (ci := 5) (pc := 839) hC (c_X5_learns l w hw _ a hM0 _ (zb_toInt _)) gL_law_X5_learns rfl (by decide +kernel) (Nat.le_of_ble_eq_true rfl) (Nat.le_of_ble_eq_true rfl) rfl (by decide) (fun _ => rfl) rfl rfl (Nat.le_of_ble_eq_true rfl) dL_law_839 (yi_k fun r1 Ω1 h1 => ?_)
  obtain ⟨t2, hM2, hf2⟩ := h1
  have hC2 := hC1.frG hf2
  rw [t1, t2]
  refine y_same (pc := 842) hC 972 dL_law_842 rfl ?_
  exact K _ _ hC2 hM2
set_option maxHeartbeats 4000000 in
set_option maxRecDepth 100000 in
theorem K_law_18 {E : zE} {w : zP} {l : Launch} {b0 L : Nat} {xs : Nat → Int32} (hw : zOK w) (hC : yC E w l b0 L xs) {Ω : Mem} (i : Nat) (hi : i + 6 ≤ L) (hL : L ≤ 3072) (a : As) (hC0 : RC Ω a) (hM : RM Ω a) (K : ∀ (Ω1 : Mem) (a1 : As), RC Ω1 a1 → RM Ω1 a1 → Y E Ω1 972 [some (.ref b0), some (.ref (wa w 0)), some (.ref (wa w 49)), some (.int (zI (i : Int)))] []) : Y E Ω 847 [some (.ref b0), some (.ref (wa w 0)), some (.ref (wa w 49)), some (.int (zI (i : Int)))] [] := by
  refine y_aload_n (pc := 847) hC (i := 1) dL_law_847 rfl rfl ?_
  refine y_callV (n := 0) (T := TX4) (N := 7) (ci := 4) (pc := 848) hC (c_X4_keeps l w hw _ a hC0  ) gL_law_X4_keeps rfl (by decide +kernel) (Nat.le_of_ble_eq_true rfl) (Nat.le_of_ble_eq_true rfl) rfl (by decide) (fun _ => rfl) rfl rfl (Nat.le_of_ble_eq_true rfl) dL_law_848 (yi_k fun r0 Ω0 h0 => ?_)
  obtain ⟨t1, hC1, hf1⟩ := h0
  have hM0 := hM.frC hf1
  refine y_aload_n (pc := 851) hC (i := 2) dL_law_851 rfl rfl ?_
  refine y_callV (n := 0) (T := TX5) (N := 15) (ci := 5) (pc := 852) hC (c_X5_keeps l w hw _ a hM0  ) gL_law_X5_keeps rfl (by decide +kernel) (Nat.le_of_ble_eq_true rfl) (Nat.le_of_ble_eq_true rfl) rfl (by decide) (fun _ => rfl) rfl rfl (Nat.le_of_ble_eq_true rfl) dL_law_852 (yi_k fun r1 Ω1 h1 => ?_)
  obtain ⟨t2, hM2, hf2⟩ := h1
  have hC2 := hC1.frG hf2
  rw [t1, t2]
  refine y_same (pc := 855) hC 972 dL_law_855 rfl ?_
  exact K _ _ hC2 hM2
set_option maxHeartbeats 4000000 in
set_option maxRecDepth 100000 in
theorem K_law_19 {E : zE} {w : zP} {l : Launch} {b0 L : Nat} {xs : Nat → Int32} (hw : zOK w) (hC : yC E w l b0 L xs) {Ω : Mem} (i : Nat) (hi : i + 6 ≤ L) (hL : L ≤ 3072) (a : As) (hC0 : RC Ω a) (hM : RM Ω a) (K : ∀ (Ω1 : Mem) (a1 : As), RC Ω1 a1 → RM Ω1 a1 → Y E Ω1 972 [some (.ref b0), some (.ref (wa w 0)), some (.ref (wa w 49)), some (.int (zI (i : Int)))] []) : Y E Ω 860 [some (.ref b0), some (.ref (wa w 0)), some (.ref (wa w 49)), some (.int (zI (i : Int)))] [] := by
  refine y_aload_n (pc := 860) hC (i := 1) dL_law_860 rfl rfl ?_
  refine y_callV (n := 0) (T := TX4) (N := 7) (ci := 4) (pc := 861) hC (c_X4_turns l w hw _ a hC0  ) gL_law_X4_turns rfl (by decide +kernel) (Nat.le_of_ble_eq_true rfl) (Nat.le_of_ble_eq_true rfl) rfl (by decide) (fun _ => rfl) rfl rfl (Nat.le_of_ble_eq_true rfl) dL_law_861 (yi_k fun r0 Ω0 h0 => ?_)
  obtain ⟨t1, hC1, hf1⟩ := h0
  have hM0 := hM.frC hf1
  refine y_aload_n (pc := 864) hC (i := 2) dL_law_864 rfl rfl ?_
  refine y_callV (n := 0) (T := TX5) (N := 15) (ci := 5) (pc := 865) hC (c_X5_turns l w hw _ a hM0  ) gL_law_X5_turns rfl (by decide +kernel) (Nat.le_of_ble_eq_true rfl) (Nat.le_of_ble_eq_true rfl) rfl (by decide) (fun _ => rfl) rfl rfl (Nat.le_of_ble_eq_true rfl) dL_law_865 (yi_k fun r1 Ω1 h1 => ?_)
  obtain ⟨t2, hM2, hf2⟩ := h1
  have hC2 := hC1.frG hf2
  rw [t1, t2]
  refine y_same (pc := 868) hC 972 dL_law_868 rfl ?_
  exact K _ _ hC2 hM2
set_option maxHeartbeats 4000000 in
set_option maxRecDepth 100000 in
theorem K_law_20 {E : zE} {w : zP} {l : Launch} {b0 L : Nat} {xs : Nat → Int32} (hw : zOK w) (hC : yC E w l b0 L xs) {Ω : Mem} (i : Nat) (hi : i + 6 ≤ L) (hL : L ≤ 3072) (a : As) (hC0 : RC Ω a) (hM : RM Ω a) (K : ∀ (Ω1 : Mem) (a1 : As), RC Ω1 a1 → RM Ω1 a1 → Y E Ω1 972 [some (.ref b0), some (.ref (wa w 0)), some (.ref (wa w 49)), some (.int (zI (i : Int)))] []) : Y E Ω 873 [some (.ref b0), some (.ref (wa w 0)), some (.ref (wa w 49)), some (.int (zI (i : Int)))] [] := by
  refine y_aload_n (pc := 873) hC (i := 1) dL_law_873 rfl rfl ?_
  refine y_aload_n (pc := 874) hC (i := 0) dL_law_874 rfl rfl ?_
  refine y_iload_n (pc := 875) hC (i := 3) dL_law_875 rfl rfl ?_
  refine y_iconst (pc := 876) hC dL_law_876 ?_
  refine y_iadd (pc := 877) hC dL_law_877 ?_
  refine y_sld (pc := 878) hC (i + 1) (by omega) (by omega) hL dL_law_878 ?_
  refine y_callV (n := 1) (T := TX4) (N := 7) (ci := 4) (pc := 879) hC (c_X4_type l w hw _ a hC0 _ (zb_toInt _)) gL_law_X4_type rfl (by decide +kernel) (Nat.le_of_ble_eq_true rfl) (Nat.le_of_ble_eq_true rfl) rfl (by decide) (fun _ => rfl) rfl rfl (Nat.le_of_ble_eq_true rfl) dL_law_879 (yi_k fun r0 Ω0 h0 => ?_)
  obtain ⟨t1, hC1, hf1⟩ := h0
  have hM0 := hM.frC hf1
  refine y_aload_n (pc := 882) hC (i := 2) dL_law_882 rfl rfl ?_
  refine y_aload_n (pc := 883) hC (i := 0) dL_law_883 rfl rfl ?_
  refine y_iload_n (pc := 884) hC (i := 3) dL_law_884 rfl rfl ?_
  refine y_iconst (pc := 885) hC dL_law_885 ?_
  refine y_iadd (pc := 886) hC dL_law_886 ?_
  refine y_sld (pc := 887) hC (i + 1) (by omega) (by omega) hL dL_law_887 ?_
  refine y_callV (n := 1) (T := TX5) (N := 15) (ci := 5) (pc := 888) hC (c_X5_type l w hw _ a hM0 _ (zb_toInt _)) gL_law_X5_type rfl (by decide +kernel) (Nat.le_of_ble_eq_true rfl) (Nat.le_of_ble_eq_true rfl) rfl (by decide) (fun _ => rfl) rfl rfl (Nat.le_of_ble_eq_true rfl) dL_law_888 (yi_k fun r1 Ω1 h1 => ?_)
  obtain ⟨t2, hM2, hf2⟩ := h1
  have hC2 := hC1.frG hf2
  rw [t1, t2]
  refine y_same (pc := 891) hC 972 dL_law_891 rfl ?_
  exact K _ _ hC2 hM2
set_option maxHeartbeats 4000000 in
set_option maxRecDepth 100000 in
theorem K_law_21 {E : zE} {w : zP} {l : Launch} {b0 L : Nat} {xs : Nat → Int32} (hw : zOK w) (hC : yC E w l b0 L xs) {Ω : Mem} (i : Nat) (hi : i + 6 ≤ L) (hL : L ≤ 3072) (a : As) (hC0 : RC Ω a) (hM : RM Ω a) (K : ∀ (Ω1 : Mem) (a1 : As), RC Ω1 a1 → RM Ω1 a1 → Y E Ω1 972 [some (.ref b0), some (.ref (wa w 0)), some (.ref (wa w 49)), some (.int (zI (i : Int)))] []) : Y E Ω 896 [some (.ref b0), some (.ref (wa w 0)), some (.ref (wa w 49)), some (.int (zI (i : Int)))] [] := by
  refine y_aload_n (pc := 896) hC (i := 1) dL_law_896 rfl rfl ?_
  refine y_callV (n := 0) (T := TX4) (N := 7) (ci := 4) (pc := 897) hC (c_X4_clear l w hw _ a hC0  ) gL_law_X4_clear rfl (by decide +kernel) (Nat.le_of_ble_eq_true rfl) (Nat.le_of_ble_eq_true rfl) rfl (by decide) (fun _ => rfl) rfl rfl (Nat.le_of_ble_eq_true rfl) dL_law_897 (yi_k fun r0 Ω0 h0 => ?_)
  obtain ⟨t1, hC1, hf1⟩ := h0
  have hM0 := hM.frC hf1
  refine y_aload_n (pc := 900) hC (i := 2) dL_law_900 rfl rfl ?_
  refine y_callV (n := 0) (T := TX5) (N := 15) (ci := 5) (pc := 901) hC (c_X5_clear l w hw _ a hM0  ) gL_law_X5_clear rfl (by decide +kernel) (Nat.le_of_ble_eq_true rfl) (Nat.le_of_ble_eq_true rfl) rfl (by decide) (fun _ => rfl) rfl rfl (Nat.le_of_ble_eq_true rfl) dL_law_901 (yi_k fun r1 Ω1 h1 => ?_)
  obtain ⟨t2, hM2, hf2⟩ := h1
  have hC2 := hC1.frG hf2
  rw [t1, t2]
  refine y_same (pc := 904) hC 972 dL_law_904 rfl ?_
  exact K _ _ hC2 hM2
set_option maxHeartbeats 4000000 in
set_option maxRecDepth 100000 in
theorem K_law_22 {E : zE} {w : zP} {l : Launch} {b0 L : Nat} {xs : Nat → Int32} (hw : zOK w) (hC : yC E w l b0 L xs) {Ω : Mem} (i : Nat) (hi : i + 6 ≤ L) (hL : L ≤ 3072) (a : As) (hC0 : RC Ω a) (hM : RM Ω a) (K : ∀ (Ω1 : Mem) (a1 : As), RC Ω1 a1 → RM Ω1 a1 → Y E Ω1 972 [some (.ref b0), some (.ref (wa w 0)), some (.ref (wa w 49)), some (.int (zI (i : Int)))] []) : Y E Ω 909 [some (.ref b0), some (.ref (wa w 0)), some (.ref (wa w 49)), some (.int (zI (i : Int)))] [] := by
  refine y_aload_n (pc := 909) hC (i := 1) dL_law_909 rfl rfl ?_
  refine y_callV (n := 0) (T := TX4) (N := 7) (ci := 4) (pc := 910) hC (c_X4_does l w hw _ a hC0  ) gL_law_X4_does rfl (by decide +kernel) (Nat.le_of_ble_eq_true rfl) (Nat.le_of_ble_eq_true rfl) rfl (by decide) (fun _ => rfl) rfl rfl (Nat.le_of_ble_eq_true rfl) dL_law_910 (yi_k fun r0 Ω0 h0 => ?_)
  obtain ⟨t1, hC1, hf1⟩ := h0
  have hM0 := hM.frC hf1
  refine y_aload_n (pc := 913) hC (i := 2) dL_law_913 rfl rfl ?_
  refine y_callV (n := 0) (T := TX5) (N := 15) (ci := 5) (pc := 914) hC (c_X5_does l w hw _ a hM0  ) gL_law_X5_does rfl (by decide +kernel) (Nat.le_of_ble_eq_true rfl) (Nat.le_of_ble_eq_true rfl) rfl (by decide) (fun _ => rfl) rfl rfl (Nat.le_of_ble_eq_true rfl) dL_law_914 (yi_k fun r1 Ω1 h1 => ?_)
  obtain ⟨t2, hM2, hf2⟩ := h1
  have hC2 := hC1.frG hf2
  rw [t1, t2]
  refine y_same (pc := 917) hC 972 dL_law_917 rfl ?_
  exact K _ _ hC2 hM2
set_option maxHeartbeats 4000000 in
set_option maxRecDepth 100000 in
theorem K_law_23 {E : zE} {w : zP} {l : Launch} {b0 L : Nat} {xs : Nat → Int32} (hw : zOK w) (hC : yC E w l b0 L xs) {Ω : Mem} (i : Nat) (hi : i + 6 ≤ L) (hL : L ≤ 3072) (a : As) (hC0 : RC Ω a) (hM : RM Ω a) (K : ∀ (Ω1 : Mem) (a1 : As), RC Ω1 a1 → RM Ω1 a1 → Y E Ω1 972 [some (.ref b0), some (.ref (wa w 0)), some (.ref (wa w 49)), some (.int (zI (i : Int)))] []) : Y E Ω 922 [some (.ref b0), some (.ref (wa w 0)), some (.ref (wa w 49)), some (.int (zI (i : Int)))] [] := by
  refine y_aload_n (pc := 922) hC (i := 1) dL_law_922 rfl rfl ?_
  refine y_callV (n := 0) (T := TX4) (N := 7) (ci := 4) (pc := 923) hC (c_X4_back l w hw _ a hC0  ) gL_law_X4_back rfl (by decide +kernel) (Nat.le_of_ble_eq_true rfl) (Nat.le_of_ble_eq_true rfl) rfl (by decide) (fun _ => rfl) rfl rfl (Nat.le_of_ble_eq_true rfl) dL_law_923 (yi_k fun r0 Ω0 h0 => ?_)
  obtain ⟨t1, hC1, hf1⟩ := h0
  have hM0 := hM.frC hf1
  refine y_aload_n (pc := 926) hC (i := 2) dL_law_926 rfl rfl ?_
  refine y_callV (n := 0) (T := TX5) (N := 15) (ci := 5) (pc := 927) hC (c_X5_back l w hw _ a hM0  ) gL_law_X5_back rfl (by decide +kernel) (Nat.le_of_ble_eq_true rfl) (Nat.le_of_ble_eq_true rfl) rfl (by decide) (fun _ => rfl) rfl rfl (Nat.le_of_ble_eq_true rfl) dL_law_927 (yi_k fun r1 Ω1 h1 => ?_)
  obtain ⟨t2, hM2, hf2⟩ := h1
  have hC2 := hC1.frG hf2
  rw [t1, t2]
  refine y_same (pc := 930) hC 972 dL_law_930 rfl ?_
  exact K _ _ hC2 hM2
set_option maxHeartbeats 4000000 in
set_option maxRecDepth 100000 in
theorem K_law_24 {E : zE} {w : zP} {l : Launch} {b0 L : Nat} {xs : Nat → Int32} (hw : zOK w) (hC : yC E w l b0 L xs) {Ω : Mem} (i : Nat) (hi : i + 6 ≤ L) (hL : L ≤ 3072) (a : As) (hC0 : RC Ω a) (hM : RM Ω a) (K : ∀ (Ω1 : Mem) (a1 : As), RC Ω1 a1 → RM Ω1 a1 → Y E Ω1 972 [some (.ref b0), some (.ref (wa w 0)), some (.ref (wa w 49)), some (.int (zI (i : Int)))] []) : Y E Ω 935 [some (.ref b0), some (.ref (wa w 0)), some (.ref (wa w 49)), some (.int (zI (i : Int)))] [] := by
  refine y_aload_n (pc := 935) hC (i := 1) dL_law_935 rfl rfl ?_
  refine y_aload_n (pc := 936) hC (i := 0) dL_law_936 rfl rfl ?_
  refine y_iload_n (pc := 937) hC (i := 3) dL_law_937 rfl rfl ?_
  refine y_iconst (pc := 938) hC dL_law_938 ?_
  refine y_iadd (pc := 939) hC dL_law_939 ?_
  refine y_sld (pc := 940) hC (i + 1) (by omega) (by omega) hL dL_law_940 ?_
  refine y_callV (n := 1) (T := TX4) (N := 7) (ci := 4) (pc := 941) hC (c_X4_told l w hw _ a hC0 _ (zb_toInt _)) gL_law_X4_told rfl (by decide +kernel) (Nat.le_of_ble_eq_true rfl) (Nat.le_of_ble_eq_true rfl) rfl (by decide) (fun _ => rfl) rfl rfl (Nat.le_of_ble_eq_true rfl) dL_law_941 (yi_k fun r0 Ω0 h0 => ?_)
  obtain ⟨t1, hC1, hf1⟩ := h0
  have hM0 := hM.frC hf1
  refine y_aload_n (pc := 944) hC (i := 2) dL_law_944 rfl rfl ?_
  refine y_aload_n (pc := 945) hC (i := 0) dL_law_945 rfl rfl ?_
  refine y_iload_n (pc := 946) hC (i := 3) dL_law_946 rfl rfl ?_
  refine y_iconst (pc := 947) hC dL_law_947 ?_
  refine y_iadd (pc := 948) hC dL_law_948 ?_
  refine y_sld (pc := 949) hC (i + 1) (by omega) (by omega) hL dL_law_949 ?_
  refine y_callV (n := 1) (T := TX5) (N := 15) (ci := 5) (pc := 950) hC (c_X5_told l w hw _ a hM0 _ (zb_toInt _)) gL_law_X5_told rfl (by decide +kernel) (Nat.le_of_ble_eq_true rfl) (Nat.le_of_ble_eq_true rfl) rfl (by decide) (fun _ => rfl) rfl rfl (Nat.le_of_ble_eq_true rfl) dL_law_950 (yi_k fun r1 Ω1 h1 => ?_)
  obtain ⟨t2, hM2, hf2⟩ := h1
  have hC2 := hC1.frG hf2
  rw [t1, t2]
  refine y_same (pc := 953) hC 972 dL_law_953 rfl ?_
  exact K _ _ hC2 hM2
set_option maxHeartbeats 4000000 in
set_option maxRecDepth 100000 in
theorem K_law_25 {E : zE} {w : zP} {l : Launch} {b0 L : Nat} {xs : Nat → Int32} (hw : zOK w) (hC : yC E w l b0 L xs) {Ω : Mem} (i : Nat) (hi : i + 6 ≤ L) (hL : L ≤ 3072) (a : As) (hC0 : RC Ω a) (hM : RM Ω a) (K : ∀ (Ω1 : Mem) (a1 : As), RC Ω1 a1 → RM Ω1 a1 → Y E Ω1 972 [some (.ref b0), some (.ref (wa w 0)), some (.ref (wa w 49)), some (.int (zI (i : Int)))] []) : Y E Ω 958 [some (.ref b0), some (.ref (wa w 0)), some (.ref (wa w 49)), some (.int (zI (i : Int)))] [] := by
  refine y_aload_n (pc := 958) hC (i := 1) dL_law_958 rfl rfl ?_
  refine y_callV (n := 0) (T := TX4) (N := 7) (ci := 4) (pc := 959) hC (c_X4_digest l w hw _ a hC0  ) gL_law_X4_digest rfl (by decide +kernel) (Nat.le_of_ble_eq_true rfl) (Nat.le_of_ble_eq_true rfl) rfl (by decide) (fun _ => rfl) rfl rfl (Nat.le_of_ble_eq_true rfl) dL_law_959 (yl_k fun r0 Ω0 h0 => ?_)
  obtain ⟨t1, hC1, hf1⟩ := h0
  have hM0 := hM.frC hf1
  refine y_aload_n (pc := 962) hC (i := 2) dL_law_962 rfl rfl ?_
  refine y_callV (n := 0) (T := TX5) (N := 15) (ci := 5) (pc := 963) hC (c_X5_digest l w hw _ a hM0  ) gL_law_X5_digest rfl (by decide +kernel) (Nat.le_of_ble_eq_true rfl) (Nat.le_of_ble_eq_true rfl) rfl (by decide) (fun _ => rfl) rfl rfl (Nat.le_of_ble_eq_true rfl) dL_law_963 (yl_k fun r1 Ω1 h1 => ?_)
  obtain ⟨t2, hM2, hf2⟩ := h1
  have hC2 := hC1.frG hf2
  rw [t1, t2]
  refine y_lcmp (pc := 966) hC dL_law_966 ?_
  refine y_if_eq (pc := 967) hC 972 (zcmp_zb _ _) dL_law_967 rfl (fun _ => ?_) (fun h => absurd (zcmp_self _) h)
  exact K _ _ hC2 hM2
