/-! ===== the law's loop, case by case ===== -/
/-- how the loop goes on behind a case -/
def lk_C (X : gx_T) (d i : Nat) : Prop := ∀ mc wc G', gi_J mc wc G' → aw_W X mt_Law (d + 60) 923 [(0, some (av_r (some 998))), (1, some (av_r (some 0))), (2, some (av_r (some 60))), (3, some (av_i (i : Int)))] [] G' ((30 - mc) + (40 - wc)) (3 * (30 - mc) + 10 * (40 - wc)) (fun r _ => r = some (av_i 1))
/-- an int compared with itself -/
theorem ar_same {X : gx_T} {M : mt_T} {d pc : Nat} {L : List (Nat × Option av_T)} {st : List av_T} {G : mm_T} {k n : Nat} {Q : Option av_T → mm_T → Prop} {y : Int} {off : Int} (tgt : Nat) (hd : decode M.2.1 pc = .ok (.if_icmp .eq off, 3)) (ht : (pc : Int) + off = (tgt : Int)) (kk : aw_W X M d tgt L st G k n Q) : aw_W X M d pc L (av_i y :: av_i y :: st) G k n Q := by
  have e0 : Int32.ofInt y = Int32.ofInt (Int32.ofInt y).toInt := (Int32.ofInt_toInt _).symm
  intro g p e R s m args below meth c H locs cells slots am am0 ls mc ms QQ hC hR hx hL hs hl h1 h2 h3 h4 hQ
  have h9 := ar_icmp_eq (x := (Int32.ofInt y).toInt) (y := (Int32.ofInt y).toInt) tgt hd ht (ib_in _) (ib_in _) (fun _ => kk) (fun h => absurd rfl h) g p e R s m args below meth c H locs cells slots am am0 ls mc ms QQ hC hR hx hL (ok_i (ok_i (ok_t (ok_t hs)))) hl h1 h2 h3 h4 hQ
  show W _ _ _ _ _ _ _ _ _ _ _ _ _ _ _ (F0 m pc ls (.int (Int32.ofInt y) :: .int (Int32.ofInt y) :: st.map (av_t am)))
  rw [e0]
  exact h9
theorem lc_air (X : gx_T) (d : Nat) {G : mm_T} {mc wc i : Nat} (hi : i + 9 ≤ X.1) (hX : X.1 ≤ 4608) (hJ : gi_J mc wc G) (kk : lk_C X d i) : aw_W X mt_Law (d + 60) 144 [(0, some (av_r (some 998))), (1, some (av_r (some 0))), (2, some (av_r (some 60))), (3, some (av_i (i : Int)))] [] G ((30 - mc) + (40 - wc)) (3 * (30 - mc) + 10 * (40 - wc)) (fun r _ => r = some (av_i 1)) := by
  obtain ⟨c, kc, z, T, h⟩ := hJ
  refine ar_aload_n (pc := 144) d_Law_144 rfl ?_
  refine ar_aload_n (pc := 145) d_Law_145 rfl ?_
  refine ar_iload_n (pc := 146) d_Law_146 rfl ?_
  refine ar_iconst (pc := 147) d_Law_147 ?_
  refine ar_iadd (pc := 148) d_Law_148 ?_
  refine ar_sld (pc := 149) d_Law_149 (i + 1) (by omega) (by omega) (by omega) (fun r_149 => ?_)
  refine ar_aload_n (pc := 150) d_Law_150 rfl ?_
  refine ar_iload_n (pc := 151) d_Law_151 rfl ?_
  refine ar_iconst (pc := 152) d_Law_152 ?_
  refine ar_iadd (pc := 153) d_Law_153 ?_
  refine ar_sld (pc := 154) d_Law_154 (i + 2) (by omega) (by omega) (by omega) (fun r_154 => ?_)
  refine ac_virt (pc := 155) (N := mt_K_air) _ _ mv_K_air ml_Law_13 ck_11 d_Law_155 (gq_air X d h r_149 r_154) (by first | rfl | exact sh_wheel (by omega) | exact sh_milk (by omega)) rfl rfl (Nat.le_of_ble_eq_true rfl) (Nat.le_of_eq (Nat.zero_add _)) (Nat.le_of_eq (Nat.zero_add _)) (fun r_155 G_155 h_155 => ?_)
  obtain ⟨y, rfl, hM⟩ := h_155
  refine ar_aload_n (pc := 158) d_Law_158 rfl ?_
  refine ar_aload_n (pc := 159) d_Law_159 rfl ?_
  refine ar_iload_n (pc := 160) d_Law_160 rfl ?_
  refine ar_iconst (pc := 161) d_Law_161 ?_
  refine ar_iadd (pc := 162) d_Law_162 ?_
  refine ar_sld (pc := 163) d_Law_163 (i + 1) (by omega) (by omega) (by omega) (fun r_163 => ?_)
  refine ar_aload_n (pc := 164) d_Law_164 rfl ?_
  refine ar_iload_n (pc := 165) d_Law_165 rfl ?_
  refine ar_iconst (pc := 166) d_Law_166 ?_
  refine ar_iadd (pc := 167) d_Law_167 ?_
  refine ar_sld (pc := 168) d_Law_168 (i + 2) (by omega) (by omega) (by omega) (fun r_168 => ?_)
  refine ac_virt (pc := 169) (N := mt_Mo_air) _ _ mv_Mo_air ml_Law_17 ck_12 d_Law_169 hM (by first | rfl | exact sh_wheel (by omega) | exact sh_milk (by omega)) rfl rfl (Nat.le_of_ble_eq_true rfl) (Nat.le_of_eq (Nat.zero_add _)) (Nat.le_of_eq (Nat.zero_add _)) (fun r_169 G_169 h_169 => ?_)
  obtain ⟨rfl, hJ2⟩ := h_169
  rotate_left
  -- leaves: stop 172
  exact ar_same 923 d_Law_172 (by decide) (kk _ _ _ hJ2)
theorem lc_damp (X : gx_T) (d : Nat) {G : mm_T} {mc wc i : Nat} (hi : i + 9 ≤ X.1) (hX : X.1 ≤ 4608) (hJ : gi_J mc wc G) (kk : lk_C X d i) : aw_W X mt_Law (d + 60) 177 [(0, some (av_r (some 998))), (1, some (av_r (some 0))), (2, some (av_r (some 60))), (3, some (av_i (i : Int)))] [] G ((30 - mc) + (40 - wc)) (3 * (30 - mc) + 10 * (40 - wc)) (fun r _ => r = some (av_i 1)) := by
  obtain ⟨c, kc, z, T, h⟩ := hJ
  refine ar_aload_n (pc := 177) d_Law_177 rfl ?_
  refine ar_aload_n (pc := 178) d_Law_178 rfl ?_
  refine ar_iload_n (pc := 179) d_Law_179 rfl ?_
  refine ar_iconst (pc := 180) d_Law_180 ?_
  refine ar_iadd (pc := 181) d_Law_181 ?_
  refine ar_sld (pc := 182) d_Law_182 (i + 1) (by omega) (by omega) (by omega) (fun r_182 => ?_)
  refine ar_aload_n (pc := 183) d_Law_183 rfl ?_
  refine ar_iload_n (pc := 184) d_Law_184 rfl ?_
  refine ar_iconst (pc := 185) d_Law_185 ?_
  refine ar_iadd (pc := 186) d_Law_186 ?_
  refine ar_sld (pc := 187) d_Law_187 (i + 2) (by omega) (by omega) (by omega) (fun r_187 => ?_)
  refine ac_virt (pc := 188) (N := mt_K_damp) _ _ mv_K_damp ml_Law_18 ck_11 d_Law_188 (gq_damp X d h r_182 r_187) (by first | rfl | exact sh_wheel (by omega) | exact sh_milk (by omega)) rfl rfl (Nat.le_of_ble_eq_true rfl) (Nat.le_of_eq (Nat.zero_add _)) (Nat.le_of_eq (Nat.zero_add _)) (fun r_188 G_188 h_188 => ?_)
  obtain ⟨y, rfl, hM⟩ := h_188
  refine ar_aload_n (pc := 191) d_Law_191 rfl ?_
  refine ar_aload_n (pc := 192) d_Law_192 rfl ?_
  refine ar_iload_n (pc := 193) d_Law_193 rfl ?_
  refine ar_iconst (pc := 194) d_Law_194 ?_
  refine ar_iadd (pc := 195) d_Law_195 ?_
  refine ar_sld (pc := 196) d_Law_196 (i + 1) (by omega) (by omega) (by omega) (fun r_196 => ?_)
  refine ar_aload_n (pc := 197) d_Law_197 rfl ?_
  refine ar_iload_n (pc := 198) d_Law_198 rfl ?_
  refine ar_iconst (pc := 199) d_Law_199 ?_
  refine ar_iadd (pc := 200) d_Law_200 ?_
  refine ar_sld (pc := 201) d_Law_201 (i + 2) (by omega) (by omega) (by omega) (fun r_201 => ?_)
  refine ac_virt (pc := 202) (N := mt_Mo_damp) _ _ mv_Mo_damp ml_Law_21 ck_12 d_Law_202 hM (by first | rfl | exact sh_wheel (by omega) | exact sh_milk (by omega)) rfl rfl (Nat.le_of_ble_eq_true rfl) (Nat.le_of_eq (Nat.zero_add _)) (Nat.le_of_eq (Nat.zero_add _)) (fun r_202 G_202 h_202 => ?_)
  obtain ⟨rfl, hJ2⟩ := h_202
  rotate_left
  -- leaves: stop 205
  exact ar_same 923 d_Law_205 (by decide) (kk _ _ _ hJ2)
theorem lc_milk (X : gx_T) (d : Nat) {G : mm_T} {mc wc i : Nat} (hi : i + 9 ≤ X.1) (hX : X.1 ≤ 4608) (hJ : gi_J mc wc G) (kk : lk_C X d i) : aw_W X mt_Law (d + 60) 210 [(0, some (av_r (some 998))), (1, some (av_r (some 0))), (2, some (av_r (some 60))), (3, some (av_i (i : Int)))] [] G ((30 - mc) + (40 - wc)) (3 * (30 - mc) + 10 * (40 - wc)) (fun r _ => r = some (av_i 1)) := by
  obtain ⟨c, kc, z, T, h⟩ := hJ
  by_cases hc : mc < 30 ∧ 0 ≤ (X.2 (i + 1)).toInt ∧ (X.2 (i + 1)).toInt ≤ 99 ∧ 1 ≤ (X.2 (i + 2)).toInt ∧ (X.2 (i + 2)).toInt ≤ 1000
  · skip
    refine ar_aload_n (pc := 210) d_Law_210 rfl ?_
    refine ar_aload_n (pc := 211) d_Law_211 rfl ?_
    refine ar_iload_n (pc := 212) d_Law_212 rfl ?_
    refine ar_iconst (pc := 213) d_Law_213 ?_
    refine ar_iadd (pc := 214) d_Law_214 ?_
    refine ar_sld (pc := 215) d_Law_215 (i + 1) (by omega) (by omega) (by omega) (fun r_215 => ?_)
    refine ar_aload_n (pc := 216) d_Law_216 rfl ?_
    refine ar_iload_n (pc := 217) d_Law_217 rfl ?_
    refine ar_iconst (pc := 218) d_Law_218 ?_
    refine ar_iadd (pc := 219) d_Law_219 ?_
    refine ar_sld (pc := 220) d_Law_220 (i + 2) (by omega) (by omega) (by omega) (fun r_220 => ?_)
    refine ac_virt (pc := 221) (N := mt_K_milk) ((30 - (mc + 1)) + (40 - wc)) (3 * (30 - (mc + 1)) + 10 * (40 - wc)) mv_K_milk ml_Law_22 ck_11 d_Law_221 (gq_milk_y X d h r_215 r_220 hc) (by first | rfl | exact sh_wheel (by omega) | exact sh_milk (by omega)) rfl rfl (Nat.le_of_ble_eq_true rfl) (by omega) (by omega) (fun r_221 G_221 h_221 => ?_)
    obtain ⟨y, rfl, hM⟩ := h_221
    refine ar_aload_n (pc := 224) d_Law_224 rfl ?_
    refine ar_aload_n (pc := 225) d_Law_225 rfl ?_
    refine ar_iload_n (pc := 226) d_Law_226 rfl ?_
    refine ar_iconst (pc := 227) d_Law_227 ?_
    refine ar_iadd (pc := 228) d_Law_228 ?_
    refine ar_sld (pc := 229) d_Law_229 (i + 1) (by omega) (by omega) (by omega) (fun r_229 => ?_)
    refine ar_aload_n (pc := 230) d_Law_230 rfl ?_
    refine ar_iload_n (pc := 231) d_Law_231 rfl ?_
    refine ar_iconst (pc := 232) d_Law_232 ?_
    refine ar_iadd (pc := 233) d_Law_233 ?_
    refine ar_sld (pc := 234) d_Law_234 (i + 2) (by omega) (by omega) (by omega) (fun r_234 => ?_)
    refine ac_virt (pc := 235) (N := mt_Mo_milk) _ _ mv_Mo_milk ml_Law_26 ck_12 d_Law_235 hM (by first | rfl | exact sh_wheel (by omega) | exact sh_milk (by omega)) rfl rfl (Nat.le_of_ble_eq_true rfl) (Nat.le_of_eq (Nat.zero_add _)) (Nat.le_of_eq (Nat.zero_add _)) (fun r_235 G_235 h_235 => ?_)
    obtain ⟨rfl, hJ2⟩ := h_235
    rotate_left
    -- leaves: stop 238
    exact ar_same 923 d_Law_238 (by decide) (kk _ _ _ hJ2)
  · skip
    refine ar_aload_n (pc := 210) d_Law_210 rfl ?_
    refine ar_aload_n (pc := 211) d_Law_211 rfl ?_
    refine ar_iload_n (pc := 212) d_Law_212 rfl ?_
    refine ar_iconst (pc := 213) d_Law_213 ?_
    refine ar_iadd (pc := 214) d_Law_214 ?_
    refine ar_sld (pc := 215) d_Law_215 (i + 1) (by omega) (by omega) (by omega) (fun r_215 => ?_)
    refine ar_aload_n (pc := 216) d_Law_216 rfl ?_
    refine ar_iload_n (pc := 217) d_Law_217 rfl ?_
    refine ar_iconst (pc := 218) d_Law_218 ?_
    refine ar_iadd (pc := 219) d_Law_219 ?_
    refine ar_sld (pc := 220) d_Law_220 (i + 2) (by omega) (by omega) (by omega) (fun r_220 => ?_)
    refine ac_virt (pc := 221) (N := mt_K_milk) _ _ mv_K_milk ml_Law_22 ck_11 d_Law_221 (gq_milk_n X d h r_215 r_220 hc) (by first | rfl | exact sh_wheel (by omega) | exact sh_milk (by omega)) rfl rfl (Nat.le_of_ble_eq_true rfl) (Nat.le_of_eq (Nat.zero_add _)) (Nat.le_of_eq (Nat.zero_add _)) (fun r_221 G_221 h_221 => ?_)
    obtain ⟨y, rfl, hM⟩ := h_221
    refine ar_aload_n (pc := 224) d_Law_224 rfl ?_
    refine ar_aload_n (pc := 225) d_Law_225 rfl ?_
    refine ar_iload_n (pc := 226) d_Law_226 rfl ?_
    refine ar_iconst (pc := 227) d_Law_227 ?_
    refine ar_iadd (pc := 228) d_Law_228 ?_
    refine ar_sld (pc := 229) d_Law_229 (i + 1) (by omega) (by omega) (by omega) (fun r_229 => ?_)
    refine ar_aload_n (pc := 230) d_Law_230 rfl ?_
    refine ar_iload_n (pc := 231) d_Law_231 rfl ?_
    refine ar_iconst (pc := 232) d_Law_232 ?_
    refine ar_iadd (pc := 233) d_Law_233 ?_
    refine ar_sld (pc := 234) d_Law_234 (i + 2) (by omega) (by omega) (by omega) (fun r_234 => ?_)
    refine ac_virt (pc := 235) (N := mt_Mo_milk) _ _ mv_Mo_milk ml_Law_26 ck_12 d_Law_235 hM (by first | rfl | exact sh_wheel (by omega) | exact sh_milk (by omega)) rfl rfl (Nat.le_of_ble_eq_true rfl) (Nat.le_of_eq (Nat.zero_add _)) (Nat.le_of_eq (Nat.zero_add _)) (fun r_235 G_235 h_235 => ?_)
    obtain ⟨rfl, hJ2⟩ := h_235
    rotate_left
    -- leaves: stop 238
    exact ar_same 923 d_Law_238 (by decide) (kk _ _ _ hJ2)
theorem lc_wheel (X : gx_T) (d : Nat) {G : mm_T} {mc wc i : Nat} (hi : i + 9 ≤ X.1) (hX : X.1 ≤ 4608) (hJ : gi_J mc wc G) (kk : lk_C X d i) : aw_W X mt_Law (d + 60) 243 [(0, some (av_r (some 998))), (1, some (av_r (some 0))), (2, some (av_r (some 60))), (3, some (av_i (i : Int)))] [] G ((30 - mc) + (40 - wc)) (3 * (30 - mc) + 10 * (40 - wc)) (fun r _ => r = some (av_i 1)) := by
  obtain ⟨c, kc, z, T, h⟩ := hJ
  by_cases hc : wk_K G wc c (X.2 (i + 1)).toInt (X.2 (i + 2)).toInt (X.2 (i + 3)).toInt (X.2 (i + 4)).toInt (X.2 (i + 5)).toInt (X.2 (i + 6)).toInt (X.2 (i + 7)).toInt (X.2 (i + 8)).toInt
  · have hw := hc.1
    refine ar_aload_n (pc := 243) d_Law_243 rfl ?_
    refine ar_aload_n (pc := 244) d_Law_244 rfl ?_
    refine ar_iload_n (pc := 245) d_Law_245 rfl ?_
    refine ar_iconst (pc := 246) d_Law_246 ?_
    refine ar_iadd (pc := 247) d_Law_247 ?_
    refine ar_sld (pc := 248) d_Law_248 (i + 1) (by omega) (by omega) (by omega) (fun r_248 => ?_)
    refine ar_aload_n (pc := 249) d_Law_249 rfl ?_
    refine ar_iload_n (pc := 250) d_Law_250 rfl ?_
    refine ar_iconst (pc := 251) d_Law_251 ?_
    refine ar_iadd (pc := 252) d_Law_252 ?_
    refine ar_sld (pc := 253) d_Law_253 (i + 2) (by omega) (by omega) (by omega) (fun r_253 => ?_)
    refine ar_aload_n (pc := 254) d_Law_254 rfl ?_
    refine ar_iload_n (pc := 255) d_Law_255 rfl ?_
    refine ar_iconst (pc := 256) d_Law_256 ?_
    refine ar_iadd (pc := 257) d_Law_257 ?_
    refine ar_sld (pc := 258) d_Law_258 (i + 3) (by omega) (by omega) (by omega) (fun r_258 => ?_)
    refine ar_aload_n (pc := 259) d_Law_259 rfl ?_
    refine ar_iload_n (pc := 260) d_Law_260 rfl ?_
    refine ar_iconst (pc := 261) d_Law_261 ?_
    refine ar_iadd (pc := 262) d_Law_262 ?_
    refine ar_sld (pc := 263) d_Law_263 (i + 4) (by omega) (by omega) (by omega) (fun r_263 => ?_)
    refine ar_aload_n (pc := 264) d_Law_264 rfl ?_
    refine ar_iload_n (pc := 265) d_Law_265 rfl ?_
    refine ar_iconst (pc := 266) d_Law_266 ?_
    refine ar_iadd (pc := 267) d_Law_267 ?_
    refine ar_sld (pc := 268) d_Law_268 (i + 5) (by omega) (by omega) (by omega) (fun r_268 => ?_)
    refine ar_aload_n (pc := 269) d_Law_269 rfl ?_
    refine ar_iload_n (pc := 270) d_Law_270 rfl ?_
    refine ar_bipush (pc := 271) d_Law_271 (by decide) ?_
    refine ar_iadd (pc := 273) d_Law_273 ?_
    refine ar_sld (pc := 274) d_Law_274 (i + 6) (by omega) (by omega) (by omega) (fun r_274 => ?_)
    refine ar_aload_n (pc := 275) d_Law_275 rfl ?_
    refine ar_iload_n (pc := 276) d_Law_276 rfl ?_
    refine ar_bipush (pc := 277) d_Law_277 (by decide) ?_
    refine ar_iadd (pc := 279) d_Law_279 ?_
    refine ar_sld (pc := 280) d_Law_280 (i + 7) (by omega) (by omega) (by omega) (fun r_280 => ?_)
    refine ar_aload_n (pc := 281) d_Law_281 rfl ?_
    refine ar_iload_n (pc := 282) d_Law_282 rfl ?_
    refine ar_bipush (pc := 283) d_Law_283 (by decide) ?_
    refine ar_iadd (pc := 285) d_Law_285 ?_
    refine ar_sld (pc := 286) d_Law_286 (i + 8) (by omega) (by omega) (by omega) (fun r_286 => ?_)
    refine ac_virt (pc := 287) (N := mt_K_wheel) ((30 - mc) + (40 - (wc + 1))) (3 * (30 - mc) + 10 * (40 - (wc + 1))) mv_K_wheel ml_Law_27 ck_11 d_Law_287 (gq_wheel_y X d h r_248 r_253 r_258 r_263 r_268 r_274 r_280 r_286 hc) (by first | rfl | exact sh_wheel (by omega) | exact sh_milk (by omega)) rfl rfl (Nat.le_of_ble_eq_true rfl) (by omega) (by omega) (fun r_287 G_287 h_287 => ?_)
    obtain ⟨y, rfl, hM⟩ := h_287
    refine ar_aload_n (pc := 290) d_Law_290 rfl ?_
    refine ar_aload_n (pc := 291) d_Law_291 rfl ?_
    refine ar_iload_n (pc := 292) d_Law_292 rfl ?_
    refine ar_iconst (pc := 293) d_Law_293 ?_
    refine ar_iadd (pc := 294) d_Law_294 ?_
    refine ar_sld (pc := 295) d_Law_295 (i + 1) (by omega) (by omega) (by omega) (fun r_295 => ?_)
    refine ar_aload_n (pc := 296) d_Law_296 rfl ?_
    refine ar_iload_n (pc := 297) d_Law_297 rfl ?_
    refine ar_iconst (pc := 298) d_Law_298 ?_
    refine ar_iadd (pc := 299) d_Law_299 ?_
    refine ar_sld (pc := 300) d_Law_300 (i + 2) (by omega) (by omega) (by omega) (fun r_300 => ?_)
    refine ar_aload_n (pc := 301) d_Law_301 rfl ?_
    refine ar_iload_n (pc := 302) d_Law_302 rfl ?_
    refine ar_iconst (pc := 303) d_Law_303 ?_
    refine ar_iadd (pc := 304) d_Law_304 ?_
    refine ar_sld (pc := 305) d_Law_305 (i + 3) (by omega) (by omega) (by omega) (fun r_305 => ?_)
    refine ar_aload_n (pc := 306) d_Law_306 rfl ?_
    refine ar_iload_n (pc := 307) d_Law_307 rfl ?_
    refine ar_iconst (pc := 308) d_Law_308 ?_
    refine ar_iadd (pc := 309) d_Law_309 ?_
    refine ar_sld (pc := 310) d_Law_310 (i + 4) (by omega) (by omega) (by omega) (fun r_310 => ?_)
    refine ar_aload_n (pc := 311) d_Law_311 rfl ?_
    refine ar_iload_n (pc := 312) d_Law_312 rfl ?_
    refine ar_iconst (pc := 313) d_Law_313 ?_
    refine ar_iadd (pc := 314) d_Law_314 ?_
    refine ar_sld (pc := 315) d_Law_315 (i + 5) (by omega) (by omega) (by omega) (fun r_315 => ?_)
    refine ar_aload_n (pc := 316) d_Law_316 rfl ?_
    refine ar_iload_n (pc := 317) d_Law_317 rfl ?_
    refine ar_bipush (pc := 318) d_Law_318 (by decide) ?_
    refine ar_iadd (pc := 320) d_Law_320 ?_
    refine ar_sld (pc := 321) d_Law_321 (i + 6) (by omega) (by omega) (by omega) (fun r_321 => ?_)
    refine ar_aload_n (pc := 322) d_Law_322 rfl ?_
    refine ar_iload_n (pc := 323) d_Law_323 rfl ?_
    refine ar_bipush (pc := 324) d_Law_324 (by decide) ?_
    refine ar_iadd (pc := 326) d_Law_326 ?_
    refine ar_sld (pc := 327) d_Law_327 (i + 7) (by omega) (by omega) (by omega) (fun r_327 => ?_)
    refine ar_aload_n (pc := 328) d_Law_328 rfl ?_
    refine ar_iload_n (pc := 329) d_Law_329 rfl ?_
    refine ar_bipush (pc := 330) d_Law_330 (by decide) ?_
    refine ar_iadd (pc := 332) d_Law_332 ?_
    refine ar_sld (pc := 333) d_Law_333 (i + 8) (by omega) (by omega) (by omega) (fun r_333 => ?_)
    refine ac_virt (pc := 334) (N := mt_Mo_wheel) _ _ mv_Mo_wheel ml_Law_31 ck_12 d_Law_334 hM (by first | rfl | exact sh_wheel (by omega) | exact sh_milk (by omega)) rfl rfl (Nat.le_of_ble_eq_true rfl) (Nat.le_of_eq (Nat.zero_add _)) (Nat.le_of_eq (Nat.zero_add _)) (fun r_334 G_334 h_334 => ?_)
    obtain ⟨rfl, hJ2⟩ := h_334
    rotate_left
    -- leaves: stop 337
    exact ar_same 923 d_Law_337 (by decide) (kk _ _ _ hJ2)
  · skip
    refine ar_aload_n (pc := 243) d_Law_243 rfl ?_
    refine ar_aload_n (pc := 244) d_Law_244 rfl ?_
    refine ar_iload_n (pc := 245) d_Law_245 rfl ?_
    refine ar_iconst (pc := 246) d_Law_246 ?_
    refine ar_iadd (pc := 247) d_Law_247 ?_
    refine ar_sld (pc := 248) d_Law_248 (i + 1) (by omega) (by omega) (by omega) (fun r_248 => ?_)
    refine ar_aload_n (pc := 249) d_Law_249 rfl ?_
    refine ar_iload_n (pc := 250) d_Law_250 rfl ?_
    refine ar_iconst (pc := 251) d_Law_251 ?_
    refine ar_iadd (pc := 252) d_Law_252 ?_
    refine ar_sld (pc := 253) d_Law_253 (i + 2) (by omega) (by omega) (by omega) (fun r_253 => ?_)
    refine ar_aload_n (pc := 254) d_Law_254 rfl ?_
    refine ar_iload_n (pc := 255) d_Law_255 rfl ?_
    refine ar_iconst (pc := 256) d_Law_256 ?_
    refine ar_iadd (pc := 257) d_Law_257 ?_
    refine ar_sld (pc := 258) d_Law_258 (i + 3) (by omega) (by omega) (by omega) (fun r_258 => ?_)
    refine ar_aload_n (pc := 259) d_Law_259 rfl ?_
    refine ar_iload_n (pc := 260) d_Law_260 rfl ?_
    refine ar_iconst (pc := 261) d_Law_261 ?_
    refine ar_iadd (pc := 262) d_Law_262 ?_
    refine ar_sld (pc := 263) d_Law_263 (i + 4) (by omega) (by omega) (by omega) (fun r_263 => ?_)
    refine ar_aload_n (pc := 264) d_Law_264 rfl ?_
    refine ar_iload_n (pc := 265) d_Law_265 rfl ?_
    refine ar_iconst (pc := 266) d_Law_266 ?_
    refine ar_iadd (pc := 267) d_Law_267 ?_
    refine ar_sld (pc := 268) d_Law_268 (i + 5) (by omega) (by omega) (by omega) (fun r_268 => ?_)
    refine ar_aload_n (pc := 269) d_Law_269 rfl ?_
    refine ar_iload_n (pc := 270) d_Law_270 rfl ?_
    refine ar_bipush (pc := 271) d_Law_271 (by decide) ?_
    refine ar_iadd (pc := 273) d_Law_273 ?_
    refine ar_sld (pc := 274) d_Law_274 (i + 6) (by omega) (by omega) (by omega) (fun r_274 => ?_)
    refine ar_aload_n (pc := 275) d_Law_275 rfl ?_
    refine ar_iload_n (pc := 276) d_Law_276 rfl ?_
    refine ar_bipush (pc := 277) d_Law_277 (by decide) ?_
    refine ar_iadd (pc := 279) d_Law_279 ?_
    refine ar_sld (pc := 280) d_Law_280 (i + 7) (by omega) (by omega) (by omega) (fun r_280 => ?_)
    refine ar_aload_n (pc := 281) d_Law_281 rfl ?_
    refine ar_iload_n (pc := 282) d_Law_282 rfl ?_
    refine ar_bipush (pc := 283) d_Law_283 (by decide) ?_
    refine ar_iadd (pc := 285) d_Law_285 ?_
    refine ar_sld (pc := 286) d_Law_286 (i + 8) (by omega) (by omega) (by omega) (fun r_286 => ?_)
    refine ac_virt (pc := 287) (N := mt_K_wheel) _ _ mv_K_wheel ml_Law_27 ck_11 d_Law_287 (gq_wheel_n X d h r_248 r_253 r_258 r_263 r_268 r_274 r_280 r_286 hc) (by first | rfl | exact sh_wheel (by omega) | exact sh_milk (by omega)) rfl rfl (Nat.le_of_ble_eq_true rfl) (Nat.le_of_eq (Nat.zero_add _)) (Nat.le_of_eq (Nat.zero_add _)) (fun r_287 G_287 h_287 => ?_)
    obtain ⟨y, rfl, hM⟩ := h_287
    refine ar_aload_n (pc := 290) d_Law_290 rfl ?_
    refine ar_aload_n (pc := 291) d_Law_291 rfl ?_
    refine ar_iload_n (pc := 292) d_Law_292 rfl ?_
    refine ar_iconst (pc := 293) d_Law_293 ?_
    refine ar_iadd (pc := 294) d_Law_294 ?_
    refine ar_sld (pc := 295) d_Law_295 (i + 1) (by omega) (by omega) (by omega) (fun r_295 => ?_)
    refine ar_aload_n (pc := 296) d_Law_296 rfl ?_
    refine ar_iload_n (pc := 297) d_Law_297 rfl ?_
    refine ar_iconst (pc := 298) d_Law_298 ?_
    refine ar_iadd (pc := 299) d_Law_299 ?_
    refine ar_sld (pc := 300) d_Law_300 (i + 2) (by omega) (by omega) (by omega) (fun r_300 => ?_)
    refine ar_aload_n (pc := 301) d_Law_301 rfl ?_
    refine ar_iload_n (pc := 302) d_Law_302 rfl ?_
    refine ar_iconst (pc := 303) d_Law_303 ?_
    refine ar_iadd (pc := 304) d_Law_304 ?_
    refine ar_sld (pc := 305) d_Law_305 (i + 3) (by omega) (by omega) (by omega) (fun r_305 => ?_)
    refine ar_aload_n (pc := 306) d_Law_306 rfl ?_
    refine ar_iload_n (pc := 307) d_Law_307 rfl ?_
    refine ar_iconst (pc := 308) d_Law_308 ?_
    refine ar_iadd (pc := 309) d_Law_309 ?_
    refine ar_sld (pc := 310) d_Law_310 (i + 4) (by omega) (by omega) (by omega) (fun r_310 => ?_)
    refine ar_aload_n (pc := 311) d_Law_311 rfl ?_
    refine ar_iload_n (pc := 312) d_Law_312 rfl ?_
    refine ar_iconst (pc := 313) d_Law_313 ?_
    refine ar_iadd (pc := 314) d_Law_314 ?_
    refine ar_sld (pc := 315) d_Law_315 (i + 5) (by omega) (by omega) (by omega) (fun r_315 => ?_)
    refine ar_aload_n (pc := 316) d_Law_316 rfl ?_
    refine ar_iload_n (pc := 317) d_Law_317 rfl ?_
    refine ar_bipush (pc := 318) d_Law_318 (by decide) ?_
    refine ar_iadd (pc := 320) d_Law_320 ?_
    refine ar_sld (pc := 321) d_Law_321 (i + 6) (by omega) (by omega) (by omega) (fun r_321 => ?_)
    refine ar_aload_n (pc := 322) d_Law_322 rfl ?_
    refine ar_iload_n (pc := 323) d_Law_323 rfl ?_
    refine ar_bipush (pc := 324) d_Law_324 (by decide) ?_
    refine ar_iadd (pc := 326) d_Law_326 ?_
    refine ar_sld (pc := 327) d_Law_327 (i + 7) (by omega) (by omega) (by omega) (fun r_327 => ?_)
    refine ar_aload_n (pc := 328) d_Law_328 rfl ?_
    refine ar_iload_n (pc := 329) d_Law_329 rfl ?_
    refine ar_bipush (pc := 330) d_Law_330 (by decide) ?_
    refine ar_iadd (pc := 332) d_Law_332 ?_
    refine ar_sld (pc := 333) d_Law_333 (i + 8) (by omega) (by omega) (by omega) (fun r_333 => ?_)
    refine ac_virt (pc := 334) (N := mt_Mo_wheel) _ _ mv_Mo_wheel ml_Law_31 ck_12 d_Law_334 hM (by first | rfl | exact sh_wheel (by omega) | exact sh_milk (by omega)) rfl rfl (Nat.le_of_ble_eq_true rfl) (Nat.le_of_eq (Nat.zero_add _)) (Nat.le_of_eq (Nat.zero_add _)) (fun r_334 G_334 h_334 => ?_)
    obtain ⟨rfl, hJ2⟩ := h_334
    rotate_left
    -- leaves: stop 337
    exact ar_same 923 d_Law_337 (by decide) (kk _ _ _ hJ2)
theorem lc_sell (X : gx_T) (d : Nat) {G : mm_T} {mc wc i : Nat} (hi : i + 9 ≤ X.1) (hX : X.1 ≤ 4608) (hJ : gi_J mc wc G) (kk : lk_C X d i) : aw_W X mt_Law (d + 60) 342 [(0, some (av_r (some 998))), (1, some (av_r (some 0))), (2, some (av_r (some 60))), (3, some (av_i (i : Int)))] [] G ((30 - mc) + (40 - wc)) (3 * (30 - mc) + 10 * (40 - wc)) (fun r _ => r = some (av_i 1)) := by
  obtain ⟨c, kc, z, T, h⟩ := hJ
  refine ar_aload_n (pc := 342) d_Law_342 rfl ?_
  refine ar_aload_n (pc := 343) d_Law_343 rfl ?_
  refine ar_iload_n (pc := 344) d_Law_344 rfl ?_
  refine ar_iconst (pc := 345) d_Law_345 ?_
  refine ar_iadd (pc := 346) d_Law_346 ?_
  refine ar_sld (pc := 347) d_Law_347 (i + 1) (by omega) (by omega) (by omega) (fun r_347 => ?_)
  refine ac_virt (pc := 348) (N := mt_K_sell) _ _ mv_K_sell ml_Law_32 ck_11 d_Law_348 (gq_sell X d h r_347) (by first | rfl | exact sh_wheel (by omega) | exact sh_milk (by omega)) rfl rfl (Nat.le_of_ble_eq_true rfl) (Nat.le_of_eq (Nat.zero_add _)) (Nat.le_of_eq (Nat.zero_add _)) (fun r_348 G_348 h_348 => ?_)
  obtain ⟨y, rfl, hM⟩ := h_348
  refine ar_aload_n (pc := 351) d_Law_351 rfl ?_
  refine ar_aload_n (pc := 352) d_Law_352 rfl ?_
  refine ar_iload_n (pc := 353) d_Law_353 rfl ?_
  refine ar_iconst (pc := 354) d_Law_354 ?_
  refine ar_iadd (pc := 355) d_Law_355 ?_
  refine ar_sld (pc := 356) d_Law_356 (i + 1) (by omega) (by omega) (by omega) (fun r_356 => ?_)
  refine ac_virt (pc := 357) (N := mt_Mo_sell) _ _ mv_Mo_sell ml_Law_36 ck_12 d_Law_357 hM (by first | rfl | exact sh_wheel (by omega) | exact sh_milk (by omega)) rfl rfl (Nat.le_of_ble_eq_true rfl) (Nat.le_of_eq (Nat.zero_add _)) (Nat.le_of_eq (Nat.zero_add _)) (fun r_357 G_357 h_357 => ?_)
  obtain ⟨rfl, hJ2⟩ := h_357
  rotate_left
  -- leaves: stop 360
  exact ar_same 923 d_Law_360 (by decide) (kk _ _ _ hJ2)
theorem lc_feed (X : gx_T) (d : Nat) {G : mm_T} {mc wc i : Nat} (hi : i + 9 ≤ X.1) (hX : X.1 ≤ 4608) (hJ : gi_J mc wc G) (kk : lk_C X d i) : aw_W X mt_Law (d + 60) 365 [(0, some (av_r (some 998))), (1, some (av_r (some 0))), (2, some (av_r (some 60))), (3, some (av_i (i : Int)))] [] G ((30 - mc) + (40 - wc)) (3 * (30 - mc) + 10 * (40 - wc)) (fun r _ => r = some (av_i 1)) := by
  obtain ⟨c, kc, z, T, h⟩ := hJ
  refine ar_aload_n (pc := 365) d_Law_365 rfl ?_
  refine ar_aload_n (pc := 366) d_Law_366 rfl ?_
  refine ar_iload_n (pc := 367) d_Law_367 rfl ?_
  refine ar_iconst (pc := 368) d_Law_368 ?_
  refine ar_iadd (pc := 369) d_Law_369 ?_
  refine ar_sld (pc := 370) d_Law_370 (i + 1) (by omega) (by omega) (by omega) (fun r_370 => ?_)
  refine ar_aload_n (pc := 371) d_Law_371 rfl ?_
  refine ar_iload_n (pc := 372) d_Law_372 rfl ?_
  refine ar_iconst (pc := 373) d_Law_373 ?_
  refine ar_iadd (pc := 374) d_Law_374 ?_
  refine ar_sld (pc := 375) d_Law_375 (i + 2) (by omega) (by omega) (by omega) (fun r_375 => ?_)
  refine ar_aload_n (pc := 376) d_Law_376 rfl ?_
  refine ar_iload_n (pc := 377) d_Law_377 rfl ?_
  refine ar_iconst (pc := 378) d_Law_378 ?_
  refine ar_iadd (pc := 379) d_Law_379 ?_
  refine ar_sld (pc := 380) d_Law_380 (i + 3) (by omega) (by omega) (by omega) (fun r_380 => ?_)
  refine ar_aload_n (pc := 381) d_Law_381 rfl ?_
  refine ar_iload_n (pc := 382) d_Law_382 rfl ?_
  refine ar_iconst (pc := 383) d_Law_383 ?_
  refine ar_iadd (pc := 384) d_Law_384 ?_
  refine ar_sld (pc := 385) d_Law_385 (i + 4) (by omega) (by omega) (by omega) (fun r_385 => ?_)
  refine ar_aload_n (pc := 386) d_Law_386 rfl ?_
  refine ar_iload_n (pc := 387) d_Law_387 rfl ?_
  refine ar_iconst (pc := 388) d_Law_388 ?_
  refine ar_iadd (pc := 389) d_Law_389 ?_
  refine ar_sld (pc := 390) d_Law_390 (i + 5) (by omega) (by omega) (by omega) (fun r_390 => ?_)
  refine ac_virt (pc := 391) (N := mt_K_feed) _ _ mv_K_feed ml_Law_37 ck_11 d_Law_391 (gq_feed X d h ) (by first | rfl | exact sh_wheel (by omega) | exact sh_milk (by omega)) rfl rfl (Nat.le_of_ble_eq_true rfl) (Nat.le_of_eq (Nat.zero_add _)) (Nat.le_of_eq (Nat.zero_add _)) (fun r_391 G_391 h_391 => ?_)
  obtain ⟨y, rfl, hM⟩ := h_391
  refine ar_aload_n (pc := 394) d_Law_394 rfl ?_
  refine ar_aload_n (pc := 395) d_Law_395 rfl ?_
  refine ar_iload_n (pc := 396) d_Law_396 rfl ?_
  refine ar_iconst (pc := 397) d_Law_397 ?_
  refine ar_iadd (pc := 398) d_Law_398 ?_
  refine ar_sld (pc := 399) d_Law_399 (i + 1) (by omega) (by omega) (by omega) (fun r_399 => ?_)
  refine ar_aload_n (pc := 400) d_Law_400 rfl ?_
  refine ar_iload_n (pc := 401) d_Law_401 rfl ?_
  refine ar_iconst (pc := 402) d_Law_402 ?_
  refine ar_iadd (pc := 403) d_Law_403 ?_
  refine ar_sld (pc := 404) d_Law_404 (i + 2) (by omega) (by omega) (by omega) (fun r_404 => ?_)
  refine ar_aload_n (pc := 405) d_Law_405 rfl ?_
  refine ar_iload_n (pc := 406) d_Law_406 rfl ?_
  refine ar_iconst (pc := 407) d_Law_407 ?_
  refine ar_iadd (pc := 408) d_Law_408 ?_
  refine ar_sld (pc := 409) d_Law_409 (i + 3) (by omega) (by omega) (by omega) (fun r_409 => ?_)
  refine ar_aload_n (pc := 410) d_Law_410 rfl ?_
  refine ar_iload_n (pc := 411) d_Law_411 rfl ?_
  refine ar_iconst (pc := 412) d_Law_412 ?_
  refine ar_iadd (pc := 413) d_Law_413 ?_
  refine ar_sld (pc := 414) d_Law_414 (i + 4) (by omega) (by omega) (by omega) (fun r_414 => ?_)
  refine ar_aload_n (pc := 415) d_Law_415 rfl ?_
  refine ar_iload_n (pc := 416) d_Law_416 rfl ?_
  refine ar_iconst (pc := 417) d_Law_417 ?_
  refine ar_iadd (pc := 418) d_Law_418 ?_
  refine ar_sld (pc := 419) d_Law_419 (i + 5) (by omega) (by omega) (by omega) (fun r_419 => ?_)
  refine ac_virt (pc := 420) (N := mt_Mo_feed) _ _ mv_Mo_feed ml_Law_41 ck_12 d_Law_420 hM (by first | rfl | exact sh_wheel (by omega) | exact sh_milk (by omega)) rfl rfl (Nat.le_of_ble_eq_true rfl) (Nat.le_of_eq (Nat.zero_add _)) (Nat.le_of_eq (Nat.zero_add _)) (fun r_420 G_420 h_420 => ?_)
  obtain ⟨rfl, hJ2⟩ := h_420
  rotate_left
  -- leaves: stop 423
  exact ar_same 923 d_Law_423 (by decide) (kk _ _ _ hJ2)
theorem lc_end (X : gx_T) (d : Nat) {G : mm_T} {mc wc i : Nat} (hi : i + 9 ≤ X.1) (hX : X.1 ≤ 4608) (hJ : gi_J mc wc G) (kk : lk_C X d i) : aw_W X mt_Law (d + 60) 428 [(0, some (av_r (some 998))), (1, some (av_r (some 0))), (2, some (av_r (some 60))), (3, some (av_i (i : Int)))] [] G ((30 - mc) + (40 - wc)) (3 * (30 - mc) + 10 * (40 - wc)) (fun r _ => r = some (av_i 1)) := by
  obtain ⟨c, kc, z, T, h⟩ := hJ
  refine ar_aload_n (pc := 428) d_Law_428 rfl ?_
  refine ar_aload_n (pc := 429) d_Law_429 rfl ?_
  refine ar_iload_n (pc := 430) d_Law_430 rfl ?_
  refine ar_iconst (pc := 431) d_Law_431 ?_
  refine ar_iadd (pc := 432) d_Law_432 ?_
  refine ar_sld (pc := 433) d_Law_433 (i + 1) (by omega) (by omega) (by omega) (fun r_433 => ?_)
  refine ac_virt (pc := 434) (N := mt_K_end) _ _ mv_K_end ml_Law_42 ck_11 d_Law_434 (gq_end X d h r_433) (by first | rfl | exact sh_wheel (by omega) | exact sh_milk (by omega)) rfl rfl (Nat.le_of_ble_eq_true rfl) (Nat.le_of_eq (Nat.zero_add _)) (Nat.le_of_eq (Nat.zero_add _)) (fun r_434 G_434 h_434 => ?_)
  obtain ⟨y, rfl, hM⟩ := h_434
  refine ar_aload_n (pc := 437) d_Law_437 rfl ?_
  refine ar_aload_n (pc := 438) d_Law_438 rfl ?_
  refine ar_iload_n (pc := 439) d_Law_439 rfl ?_
  refine ar_iconst (pc := 440) d_Law_440 ?_
  refine ar_iadd (pc := 441) d_Law_441 ?_
  refine ar_sld (pc := 442) d_Law_442 (i + 1) (by omega) (by omega) (by omega) (fun r_442 => ?_)
  refine ac_virt (pc := 443) (N := mt_Mo_end) _ _ mv_Mo_end ml_Law_46 ck_12 d_Law_443 hM (by first | rfl | exact sh_wheel (by omega) | exact sh_milk (by omega)) rfl rfl (Nat.le_of_ble_eq_true rfl) (Nat.le_of_eq (Nat.zero_add _)) (Nat.le_of_eq (Nat.zero_add _)) (fun r_443 G_443 h_443 => ?_)
  obtain ⟨rfl, hJ2⟩ := h_443
  rotate_left
  -- leaves: stop 446
  exact ar_same 923 d_Law_446 (by decide) (kk _ _ _ hJ2)
theorem lc_orders (X : gx_T) (d : Nat) {G : mm_T} {mc wc i : Nat} (hi : i + 9 ≤ X.1) (hX : X.1 ≤ 4608) (hJ : gi_J mc wc G) (kk : lk_C X d i) : aw_W X mt_Law (d + 60) 451 [(0, some (av_r (some 998))), (1, some (av_r (some 0))), (2, some (av_r (some 60))), (3, some (av_i (i : Int)))] [] G ((30 - mc) + (40 - wc)) (3 * (30 - mc) + 10 * (40 - wc)) (fun r _ => r = some (av_i 1)) := by
  obtain ⟨c, kc, z, T, h⟩ := hJ
  refine ar_aload_n (pc := 451) d_Law_451 rfl ?_
  refine ac_virt (pc := 452) (N := mt_K_orders) _ _ mv_K_orders ml_Law_47 ck_11 d_Law_452 (gq_orders X d h ) (by first | rfl | exact sh_wheel (by omega) | exact sh_milk (by omega)) rfl rfl (Nat.le_of_ble_eq_true rfl) (Nat.le_of_eq (Nat.zero_add _)) (Nat.le_of_eq (Nat.zero_add _)) (fun r_452 G_452 h_452 => ?_)
  obtain ⟨y, rfl, hM⟩ := h_452
  refine ar_aload_n (pc := 455) d_Law_455 rfl ?_
  refine ac_virt (pc := 456) (N := mt_Mo_orders) _ _ mv_Mo_orders ml_Law_51 ck_12 d_Law_456 hM (by first | rfl | exact sh_wheel (by omega) | exact sh_milk (by omega)) rfl rfl (Nat.le_of_ble_eq_true rfl) (Nat.le_of_eq (Nat.zero_add _)) (Nat.le_of_eq (Nat.zero_add _)) (fun r_456 G_456 h_456 => ?_)
  obtain ⟨rfl, hJ2⟩ := h_456
  rotate_left
  -- leaves: stop 459
  exact ar_same 923 d_Law_459 (by decide) (kk _ _ _ hJ2)
theorem lc_fault (X : gx_T) (d : Nat) {G : mm_T} {mc wc i : Nat} (hi : i + 9 ≤ X.1) (hX : X.1 ≤ 4608) (hJ : gi_J mc wc G) (kk : lk_C X d i) : aw_W X mt_Law (d + 60) 464 [(0, some (av_r (some 998))), (1, some (av_r (some 0))), (2, some (av_r (some 60))), (3, some (av_i (i : Int)))] [] G ((30 - mc) + (40 - wc)) (3 * (30 - mc) + 10 * (40 - wc)) (fun r _ => r = some (av_i 1)) := by
  obtain ⟨c, kc, z, T, h⟩ := hJ
  refine ar_aload_n (pc := 464) d_Law_464 rfl ?_
  refine ar_aload_n (pc := 465) d_Law_465 rfl ?_
  refine ar_iload_n (pc := 466) d_Law_466 rfl ?_
  refine ar_iconst (pc := 467) d_Law_467 ?_
  refine ar_iadd (pc := 468) d_Law_468 ?_
  refine ar_sld (pc := 469) d_Law_469 (i + 1) (by omega) (by omega) (by omega) (fun r_469 => ?_)
  refine ac_virt (pc := 470) (N := mt_K_fault) _ _ mv_K_fault ml_Law_52 ck_11 d_Law_470 (gq_fault X d h r_469) (by first | rfl | exact sh_wheel (by omega) | exact sh_milk (by omega)) rfl rfl (Nat.le_of_ble_eq_true rfl) (Nat.le_of_eq (Nat.zero_add _)) (Nat.le_of_eq (Nat.zero_add _)) (fun r_470 G_470 h_470 => ?_)
  obtain ⟨y, rfl, hM⟩ := h_470
  refine ar_aload_n (pc := 473) d_Law_473 rfl ?_
  refine ar_aload_n (pc := 474) d_Law_474 rfl ?_
  refine ar_iload_n (pc := 475) d_Law_475 rfl ?_
  refine ar_iconst (pc := 476) d_Law_476 ?_
  refine ar_iadd (pc := 477) d_Law_477 ?_
  refine ar_sld (pc := 478) d_Law_478 (i + 1) (by omega) (by omega) (by omega) (fun r_478 => ?_)
  refine ac_virt (pc := 479) (N := mt_Mo_fault) _ _ mv_Mo_fault ml_Law_55 ck_12 d_Law_479 hM (by first | rfl | exact sh_wheel (by omega) | exact sh_milk (by omega)) rfl rfl (Nat.le_of_ble_eq_true rfl) (Nat.le_of_eq (Nat.zero_add _)) (Nat.le_of_eq (Nat.zero_add _)) (fun r_479 G_479 h_479 => ?_)
  obtain ⟨rfl, hJ2⟩ := h_479
  rotate_left
  -- leaves: stop 482
  exact ar_same 923 d_Law_482 (by decide) (kk _ _ _ hJ2)
theorem lc_days (X : gx_T) (d : Nat) {G : mm_T} {mc wc i : Nat} (hi : i + 9 ≤ X.1) (hX : X.1 ≤ 4608) (hJ : gi_J mc wc G) (kk : lk_C X d i) : aw_W X mt_Law (d + 60) 487 [(0, some (av_r (some 998))), (1, some (av_r (some 0))), (2, some (av_r (some 60))), (3, some (av_i (i : Int)))] [] G ((30 - mc) + (40 - wc)) (3 * (30 - mc) + 10 * (40 - wc)) (fun r _ => r = some (av_i 1)) := by
  obtain ⟨c, kc, z, T, h⟩ := hJ
  refine ar_aload_n (pc := 487) d_Law_487 rfl ?_
  refine ar_aload_n (pc := 488) d_Law_488 rfl ?_
  refine ar_iload_n (pc := 489) d_Law_489 rfl ?_
  refine ar_iconst (pc := 490) d_Law_490 ?_
  refine ar_iadd (pc := 491) d_Law_491 ?_
  refine ar_sld (pc := 492) d_Law_492 (i + 1) (by omega) (by omega) (by omega) (fun r_492 => ?_)
  refine ac_virt (pc := 493) (N := mt_K_days) _ _ mv_K_days ml_Law_56 ck_11 d_Law_493 (gq_days X d h r_492) (by first | rfl | exact sh_wheel (by omega) | exact sh_milk (by omega)) rfl rfl (Nat.le_of_ble_eq_true rfl) (Nat.le_of_eq (Nat.zero_add _)) (Nat.le_of_eq (Nat.zero_add _)) (fun r_493 G_493 h_493 => ?_)
  obtain ⟨y, rfl, hM⟩ := h_493
  refine ar_aload_n (pc := 496) d_Law_496 rfl ?_
  refine ar_aload_n (pc := 497) d_Law_497 rfl ?_
  refine ar_iload_n (pc := 498) d_Law_498 rfl ?_
  refine ar_iconst (pc := 499) d_Law_499 ?_
  refine ar_iadd (pc := 500) d_Law_500 ?_
  refine ar_sld (pc := 501) d_Law_501 (i + 1) (by omega) (by omega) (by omega) (fun r_501 => ?_)
  refine ac_virt (pc := 502) (N := mt_Mo_days) _ _ mv_Mo_days ml_Law_59 ck_12 d_Law_502 hM (by first | rfl | exact sh_wheel (by omega) | exact sh_milk (by omega)) rfl rfl (Nat.le_of_ble_eq_true rfl) (Nat.le_of_eq (Nat.zero_add _)) (Nat.le_of_eq (Nat.zero_add _)) (fun r_502 G_502 h_502 => ?_)
  obtain ⟨rfl, hJ2⟩ := h_502
  rotate_left
  -- leaves: stop 505
  exact ar_same 923 d_Law_505 (by decide) (kk _ _ _ hJ2)
theorem lc_of (X : gx_T) (d : Nat) {G : mm_T} {mc wc i : Nat} (hi : i + 9 ≤ X.1) (hX : X.1 ≤ 4608) (hJ : gi_J mc wc G) (kk : lk_C X d i) : aw_W X mt_Law (d + 60) 510 [(0, some (av_r (some 998))), (1, some (av_r (some 0))), (2, some (av_r (some 60))), (3, some (av_i (i : Int)))] [] G ((30 - mc) + (40 - wc)) (3 * (30 - mc) + 10 * (40 - wc)) (fun r _ => r = some (av_i 1)) := by
  obtain ⟨c, kc, z, T, h⟩ := hJ
  refine ar_aload_n (pc := 510) d_Law_510 rfl ?_
  refine ar_aload_n (pc := 511) d_Law_511 rfl ?_
  refine ar_iload_n (pc := 512) d_Law_512 rfl ?_
  refine ar_iconst (pc := 513) d_Law_513 ?_
  refine ar_iadd (pc := 514) d_Law_514 ?_
  refine ar_sld (pc := 515) d_Law_515 (i + 1) (by omega) (by omega) (by omega) (fun r_515 => ?_)
  refine ar_aload_n (pc := 516) d_Law_516 rfl ?_
  refine ar_iload_n (pc := 517) d_Law_517 rfl ?_
  refine ar_iconst (pc := 518) d_Law_518 ?_
  refine ar_iadd (pc := 519) d_Law_519 ?_
  refine ar_sld (pc := 520) d_Law_520 (i + 2) (by omega) (by omega) (by omega) (fun r_520 => ?_)
  refine ac_virt (pc := 521) (N := mt_K_of) _ _ mv_K_of ml_Law_60 ck_11 d_Law_521 (gq_of X d h r_515 r_520) (by first | rfl | exact sh_wheel (by omega) | exact sh_milk (by omega)) rfl rfl (Nat.le_of_ble_eq_true rfl) (Nat.le_of_eq (Nat.zero_add _)) (Nat.le_of_eq (Nat.zero_add _)) (fun r_521 G_521 h_521 => ?_)
  obtain ⟨y, rfl, hM⟩ := h_521
  refine ar_aload_n (pc := 524) d_Law_524 rfl ?_
  refine ar_aload_n (pc := 525) d_Law_525 rfl ?_
  refine ar_iload_n (pc := 526) d_Law_526 rfl ?_
  refine ar_iconst (pc := 527) d_Law_527 ?_
  refine ar_iadd (pc := 528) d_Law_528 ?_
  refine ar_sld (pc := 529) d_Law_529 (i + 1) (by omega) (by omega) (by omega) (fun r_529 => ?_)
  refine ar_aload_n (pc := 530) d_Law_530 rfl ?_
  refine ar_iload_n (pc := 531) d_Law_531 rfl ?_
  refine ar_iconst (pc := 532) d_Law_532 ?_
  refine ar_iadd (pc := 533) d_Law_533 ?_
  refine ar_sld (pc := 534) d_Law_534 (i + 2) (by omega) (by omega) (by omega) (fun r_534 => ?_)
  refine ac_virt (pc := 535) (N := mt_Mo_of) _ _ mv_Mo_of ml_Law_63 ck_12 d_Law_535 hM (by first | rfl | exact sh_wheel (by omega) | exact sh_milk (by omega)) rfl rfl (Nat.le_of_ble_eq_true rfl) (Nat.le_of_eq (Nat.zero_add _)) (Nat.le_of_eq (Nat.zero_add _)) (fun r_535 G_535 h_535 => ?_)
  obtain ⟨rfl, hJ2⟩ := h_535
  rotate_left
  -- leaves: stop 538
  exact ar_same 923 d_Law_538 (by decide) (kk _ _ _ hJ2)
theorem lc_from (X : gx_T) (d : Nat) {G : mm_T} {mc wc i : Nat} (hi : i + 9 ≤ X.1) (hX : X.1 ≤ 4608) (hJ : gi_J mc wc G) (kk : lk_C X d i) : aw_W X mt_Law (d + 60) 543 [(0, some (av_r (some 998))), (1, some (av_r (some 0))), (2, some (av_r (some 60))), (3, some (av_i (i : Int)))] [] G ((30 - mc) + (40 - wc)) (3 * (30 - mc) + 10 * (40 - wc)) (fun r _ => r = some (av_i 1)) := by
  obtain ⟨c, kc, z, T, h⟩ := hJ
  refine ar_aload_n (pc := 543) d_Law_543 rfl ?_
  refine ar_aload_n (pc := 544) d_Law_544 rfl ?_
  refine ar_iload_n (pc := 545) d_Law_545 rfl ?_
  refine ar_iconst (pc := 546) d_Law_546 ?_
  refine ar_iadd (pc := 547) d_Law_547 ?_
  refine ar_sld (pc := 548) d_Law_548 (i + 1) (by omega) (by omega) (by omega) (fun r_548 => ?_)
  refine ar_aload_n (pc := 549) d_Law_549 rfl ?_
  refine ar_iload_n (pc := 550) d_Law_550 rfl ?_
  refine ar_iconst (pc := 551) d_Law_551 ?_
  refine ar_iadd (pc := 552) d_Law_552 ?_
  refine ar_sld (pc := 553) d_Law_553 (i + 2) (by omega) (by omega) (by omega) (fun r_553 => ?_)
  refine ac_virt (pc := 554) (N := mt_K_from) _ _ mv_K_from ml_Law_64 ck_11 d_Law_554 (gq_from X d h r_548 r_553) (by first | rfl | exact sh_wheel (by omega) | exact sh_milk (by omega)) rfl rfl (Nat.le_of_ble_eq_true rfl) (Nat.le_of_eq (Nat.zero_add _)) (Nat.le_of_eq (Nat.zero_add _)) (fun r_554 G_554 h_554 => ?_)
  obtain ⟨y, rfl, hM⟩ := h_554
  refine ar_aload_n (pc := 557) d_Law_557 rfl ?_
  refine ar_aload_n (pc := 558) d_Law_558 rfl ?_
  refine ar_iload_n (pc := 559) d_Law_559 rfl ?_
  refine ar_iconst (pc := 560) d_Law_560 ?_
  refine ar_iadd (pc := 561) d_Law_561 ?_
  refine ar_sld (pc := 562) d_Law_562 (i + 1) (by omega) (by omega) (by omega) (fun r_562 => ?_)
  refine ar_aload_n (pc := 563) d_Law_563 rfl ?_
  refine ar_iload_n (pc := 564) d_Law_564 rfl ?_
  refine ar_iconst (pc := 565) d_Law_565 ?_
  refine ar_iadd (pc := 566) d_Law_566 ?_
  refine ar_sld (pc := 567) d_Law_567 (i + 2) (by omega) (by omega) (by omega) (fun r_567 => ?_)
  refine ac_virt (pc := 568) (N := mt_Mo_from) _ _ mv_Mo_from ml_Law_67 ck_12 d_Law_568 hM (by first | rfl | exact sh_wheel (by omega) | exact sh_milk (by omega)) rfl rfl (Nat.le_of_ble_eq_true rfl) (Nat.le_of_eq (Nat.zero_add _)) (Nat.le_of_eq (Nat.zero_add _)) (fun r_568 G_568 h_568 => ?_)
  obtain ⟨rfl, hJ2⟩ := h_568
  rotate_left
  -- leaves: stop 571
  exact ar_same 923 d_Law_571 (by decide) (kk _ _ _ hJ2)
theorem lc_band (X : gx_T) (d : Nat) {G : mm_T} {mc wc i : Nat} (hi : i + 9 ≤ X.1) (hX : X.1 ≤ 4608) (hJ : gi_J mc wc G) (kk : lk_C X d i) : aw_W X mt_Law (d + 60) 576 [(0, some (av_r (some 998))), (1, some (av_r (some 0))), (2, some (av_r (some 60))), (3, some (av_i (i : Int)))] [] G ((30 - mc) + (40 - wc)) (3 * (30 - mc) + 10 * (40 - wc)) (fun r _ => r = some (av_i 1)) := by
  obtain ⟨c, kc, z, T, h⟩ := hJ
  refine ar_aload_n (pc := 576) d_Law_576 rfl ?_
  refine ar_aload_n (pc := 577) d_Law_577 rfl ?_
  refine ar_iload_n (pc := 578) d_Law_578 rfl ?_
  refine ar_iconst (pc := 579) d_Law_579 ?_
  refine ar_iadd (pc := 580) d_Law_580 ?_
  refine ar_sld (pc := 581) d_Law_581 (i + 1) (by omega) (by omega) (by omega) (fun r_581 => ?_)
  refine ar_aload_n (pc := 582) d_Law_582 rfl ?_
  refine ar_iload_n (pc := 583) d_Law_583 rfl ?_
  refine ar_iconst (pc := 584) d_Law_584 ?_
  refine ar_iadd (pc := 585) d_Law_585 ?_
  refine ar_sld (pc := 586) d_Law_586 (i + 2) (by omega) (by omega) (by omega) (fun r_586 => ?_)
  refine ar_aload_n (pc := 587) d_Law_587 rfl ?_
  refine ar_iload_n (pc := 588) d_Law_588 rfl ?_
  refine ar_iconst (pc := 589) d_Law_589 ?_
  refine ar_iadd (pc := 590) d_Law_590 ?_
  refine ar_sld (pc := 591) d_Law_591 (i + 3) (by omega) (by omega) (by omega) (fun r_591 => ?_)
  refine ar_aload_n (pc := 592) d_Law_592 rfl ?_
  refine ar_iload_n (pc := 593) d_Law_593 rfl ?_
  refine ar_iconst (pc := 594) d_Law_594 ?_
  refine ar_iadd (pc := 595) d_Law_595 ?_
  refine ar_sld (pc := 596) d_Law_596 (i + 4) (by omega) (by omega) (by omega) (fun r_596 => ?_)
  refine ac_virt (pc := 597) (N := mt_K_band) _ _ mv_K_band ml_Law_68 ck_11 d_Law_597 (gq_band X d h r_581 r_586 r_591 r_596) (by first | rfl | exact sh_wheel (by omega) | exact sh_milk (by omega)) rfl rfl (Nat.le_of_ble_eq_true rfl) (Nat.le_of_eq (Nat.zero_add _)) (Nat.le_of_eq (Nat.zero_add _)) (fun r_597 G_597 h_597 => ?_)
  obtain ⟨y, rfl, hM⟩ := h_597
  refine ar_aload_n (pc := 600) d_Law_600 rfl ?_
  refine ar_aload_n (pc := 601) d_Law_601 rfl ?_
  refine ar_iload_n (pc := 602) d_Law_602 rfl ?_
  refine ar_iconst (pc := 603) d_Law_603 ?_
  refine ar_iadd (pc := 604) d_Law_604 ?_
  refine ar_sld (pc := 605) d_Law_605 (i + 1) (by omega) (by omega) (by omega) (fun r_605 => ?_)
  refine ar_aload_n (pc := 606) d_Law_606 rfl ?_
  refine ar_iload_n (pc := 607) d_Law_607 rfl ?_
  refine ar_iconst (pc := 608) d_Law_608 ?_
  refine ar_iadd (pc := 609) d_Law_609 ?_
  refine ar_sld (pc := 610) d_Law_610 (i + 2) (by omega) (by omega) (by omega) (fun r_610 => ?_)
  refine ar_aload_n (pc := 611) d_Law_611 rfl ?_
  refine ar_iload_n (pc := 612) d_Law_612 rfl ?_
  refine ar_iconst (pc := 613) d_Law_613 ?_
  refine ar_iadd (pc := 614) d_Law_614 ?_
  refine ar_sld (pc := 615) d_Law_615 (i + 3) (by omega) (by omega) (by omega) (fun r_615 => ?_)
  refine ar_aload_n (pc := 616) d_Law_616 rfl ?_
  refine ar_iload_n (pc := 617) d_Law_617 rfl ?_
  refine ar_iconst (pc := 618) d_Law_618 ?_
  refine ar_iadd (pc := 619) d_Law_619 ?_
  refine ar_sld (pc := 620) d_Law_620 (i + 4) (by omega) (by omega) (by omega) (fun r_620 => ?_)
  refine ac_virt (pc := 621) (N := mt_Mo_band) _ _ mv_Mo_band ml_Law_72 ck_12 d_Law_621 hM (by first | rfl | exact sh_wheel (by omega) | exact sh_milk (by omega)) rfl rfl (Nat.le_of_ble_eq_true rfl) (Nat.le_of_eq (Nat.zero_add _)) (Nat.le_of_eq (Nat.zero_add _)) (fun r_621 G_621 h_621 => ?_)
  obtain ⟨rfl, hJ2⟩ := h_621
  rotate_left
  -- leaves: stop 624
  exact ar_same 923 d_Law_624 (by decide) (kk _ _ _ hJ2)
theorem lc_suits (X : gx_T) (d : Nat) {G : mm_T} {mc wc i : Nat} (hi : i + 9 ≤ X.1) (hX : X.1 ≤ 4608) (hJ : gi_J mc wc G) (kk : lk_C X d i) : aw_W X mt_Law (d + 60) 629 [(0, some (av_r (some 998))), (1, some (av_r (some 0))), (2, some (av_r (some 60))), (3, some (av_i (i : Int)))] [] G ((30 - mc) + (40 - wc)) (3 * (30 - mc) + 10 * (40 - wc)) (fun r _ => r = some (av_i 1)) := by
  obtain ⟨c, kc, z, T, h⟩ := hJ
  refine ar_aload_n (pc := 629) d_Law_629 rfl ?_
  refine ar_aload_n (pc := 630) d_Law_630 rfl ?_
  refine ar_iload_n (pc := 631) d_Law_631 rfl ?_
  refine ar_iconst (pc := 632) d_Law_632 ?_
  refine ar_iadd (pc := 633) d_Law_633 ?_
  refine ar_sld (pc := 634) d_Law_634 (i + 1) (by omega) (by omega) (by omega) (fun r_634 => ?_)
  refine ar_aload_n (pc := 635) d_Law_635 rfl ?_
  refine ar_iload_n (pc := 636) d_Law_636 rfl ?_
  refine ar_iconst (pc := 637) d_Law_637 ?_
  refine ar_iadd (pc := 638) d_Law_638 ?_
  refine ar_sld (pc := 639) d_Law_639 (i + 2) (by omega) (by omega) (by omega) (fun r_639 => ?_)
  refine ac_virt (pc := 640) (N := mt_K_suits) _ _ mv_K_suits ml_Law_73 ck_11 d_Law_640 (gq_suits X d h r_634 r_639) (by first | rfl | exact sh_wheel (by omega) | exact sh_milk (by omega)) rfl rfl (Nat.le_of_ble_eq_true rfl) (Nat.le_of_eq (Nat.zero_add _)) (Nat.le_of_eq (Nat.zero_add _)) (fun r_640 G_640 h_640 => ?_)
  obtain ⟨y, rfl, hM⟩ := h_640
  refine ar_aload_n (pc := 643) d_Law_643 rfl ?_
  refine ar_aload_n (pc := 644) d_Law_644 rfl ?_
  refine ar_iload_n (pc := 645) d_Law_645 rfl ?_
  refine ar_iconst (pc := 646) d_Law_646 ?_
  refine ar_iadd (pc := 647) d_Law_647 ?_
  refine ar_sld (pc := 648) d_Law_648 (i + 1) (by omega) (by omega) (by omega) (fun r_648 => ?_)
  refine ar_aload_n (pc := 649) d_Law_649 rfl ?_
  refine ar_iload_n (pc := 650) d_Law_650 rfl ?_
  refine ar_iconst (pc := 651) d_Law_651 ?_
  refine ar_iadd (pc := 652) d_Law_652 ?_
  refine ar_sld (pc := 653) d_Law_653 (i + 2) (by omega) (by omega) (by omega) (fun r_653 => ?_)
  refine ac_virt (pc := 654) (N := mt_Mo_suits) _ _ mv_Mo_suits ml_Law_76 ck_12 d_Law_654 hM (by first | rfl | exact sh_wheel (by omega) | exact sh_milk (by omega)) rfl rfl (Nat.le_of_ble_eq_true rfl) (Nat.le_of_eq (Nat.zero_add _)) (Nat.le_of_eq (Nat.zero_add _)) (fun r_654 G_654 h_654 => ?_)
  obtain ⟨rfl, hJ2⟩ := h_654
  rotate_left
  -- leaves: stop 657
  exact ar_same 923 d_Law_657 (by decide) (kk _ _ _ hJ2)
theorem lc_move (X : gx_T) (d : Nat) {G : mm_T} {mc wc i : Nat} (hi : i + 9 ≤ X.1) (hX : X.1 ≤ 4608) (hJ : gi_J mc wc G) (kk : lk_C X d i) : aw_W X mt_Law (d + 60) 662 [(0, some (av_r (some 998))), (1, some (av_r (some 0))), (2, some (av_r (some 60))), (3, some (av_i (i : Int)))] [] G ((30 - mc) + (40 - wc)) (3 * (30 - mc) + 10 * (40 - wc)) (fun r _ => r = some (av_i 1)) := by
  obtain ⟨c, kc, z, T, h⟩ := hJ
  refine ar_aload_n (pc := 662) d_Law_662 rfl ?_
  refine ar_aload_n (pc := 663) d_Law_663 rfl ?_
  refine ar_iload_n (pc := 664) d_Law_664 rfl ?_
  refine ar_iconst (pc := 665) d_Law_665 ?_
  refine ar_iadd (pc := 666) d_Law_666 ?_
  refine ar_sld (pc := 667) d_Law_667 (i + 1) (by omega) (by omega) (by omega) (fun r_667 => ?_)
  refine ar_aload_n (pc := 668) d_Law_668 rfl ?_
  refine ar_iload_n (pc := 669) d_Law_669 rfl ?_
  refine ar_iconst (pc := 670) d_Law_670 ?_
  refine ar_iadd (pc := 671) d_Law_671 ?_
  refine ar_sld (pc := 672) d_Law_672 (i + 2) (by omega) (by omega) (by omega) (fun r_672 => ?_)
  refine ac_virt (pc := 673) (N := mt_K_move) _ _ mv_K_move ml_Law_77 ck_11 d_Law_673 (gq_move X d h r_667 r_672) (by first | rfl | exact sh_wheel (by omega) | exact sh_milk (by omega)) rfl rfl (Nat.le_of_ble_eq_true rfl) (Nat.le_of_eq (Nat.zero_add _)) (Nat.le_of_eq (Nat.zero_add _)) (fun r_673 G_673 h_673 => ?_)
  obtain ⟨y, rfl, hM⟩ := h_673
  refine ar_aload_n (pc := 676) d_Law_676 rfl ?_
  refine ar_aload_n (pc := 677) d_Law_677 rfl ?_
  refine ar_iload_n (pc := 678) d_Law_678 rfl ?_
  refine ar_iconst (pc := 679) d_Law_679 ?_
  refine ar_iadd (pc := 680) d_Law_680 ?_
  refine ar_sld (pc := 681) d_Law_681 (i + 1) (by omega) (by omega) (by omega) (fun r_681 => ?_)
  refine ar_aload_n (pc := 682) d_Law_682 rfl ?_
  refine ar_iload_n (pc := 683) d_Law_683 rfl ?_
  refine ar_iconst (pc := 684) d_Law_684 ?_
  refine ar_iadd (pc := 685) d_Law_685 ?_
  refine ar_sld (pc := 686) d_Law_686 (i + 2) (by omega) (by omega) (by omega) (fun r_686 => ?_)
  refine ac_virt (pc := 687) (N := mt_Mo_move) _ _ mv_Mo_move ml_Law_80 ck_12 d_Law_687 hM (by first | rfl | exact sh_wheel (by omega) | exact sh_milk (by omega)) rfl rfl (Nat.le_of_ble_eq_true rfl) (Nat.le_of_eq (Nat.zero_add _)) (Nat.le_of_eq (Nat.zero_add _)) (fun r_687 G_687 h_687 => ?_)
  obtain ⟨rfl, hJ2⟩ := h_687
  rotate_left
  -- leaves: stop 690
  exact ar_same 923 d_Law_690 (by decide) (kk _ _ _ hJ2)
theorem lc_plan (X : gx_T) (d : Nat) {G : mm_T} {mc wc i : Nat} (hi : i + 9 ≤ X.1) (hX : X.1 ≤ 4608) (hJ : gi_J mc wc G) (kk : lk_C X d i) : aw_W X mt_Law (d + 60) 695 [(0, some (av_r (some 998))), (1, some (av_r (some 0))), (2, some (av_r (some 60))), (3, some (av_i (i : Int)))] [] G ((30 - mc) + (40 - wc)) (3 * (30 - mc) + 10 * (40 - wc)) (fun r _ => r = some (av_i 1)) := by
  obtain ⟨c, kc, z, T, h⟩ := hJ
  refine ar_aload_n (pc := 695) d_Law_695 rfl ?_
  refine ac_virt (pc := 696) (N := mt_K_plan) _ _ mv_K_plan ml_Law_81 ck_11 d_Law_696 (gq_plan X d h ) (by first | rfl | exact sh_wheel (by omega) | exact sh_milk (by omega)) rfl rfl (Nat.le_of_ble_eq_true rfl) (Nat.le_of_eq (Nat.zero_add _)) (Nat.le_of_eq (Nat.zero_add _)) (fun r_696 G_696 h_696 => ?_)
  obtain ⟨y, rfl, hM⟩ := h_696
  refine ar_aload_n (pc := 699) d_Law_699 rfl ?_
  refine ac_virt (pc := 700) (N := mt_Mo_plan) _ _ mv_Mo_plan ml_Law_84 ck_12 d_Law_700 hM (by first | rfl | exact sh_wheel (by omega) | exact sh_milk (by omega)) rfl rfl (Nat.le_of_ble_eq_true rfl) (Nat.le_of_eq (Nat.zero_add _)) (Nat.le_of_eq (Nat.zero_add _)) (fun r_700 G_700 h_700 => ?_)
  obtain ⟨rfl, hJ2⟩ := h_700
  rotate_left
  -- leaves: stop 703
  exact ar_same 923 d_Law_703 (by decide) (kk _ _ _ hJ2)
theorem lc_planned (X : gx_T) (d : Nat) {G : mm_T} {mc wc i : Nat} (hi : i + 9 ≤ X.1) (hX : X.1 ≤ 4608) (hJ : gi_J mc wc G) (kk : lk_C X d i) : aw_W X mt_Law (d + 60) 708 [(0, some (av_r (some 998))), (1, some (av_r (some 0))), (2, some (av_r (some 60))), (3, some (av_i (i : Int)))] [] G ((30 - mc) + (40 - wc)) (3 * (30 - mc) + 10 * (40 - wc)) (fun r _ => r = some (av_i 1)) := by
  obtain ⟨c, kc, z, T, h⟩ := hJ
  refine ar_aload_n (pc := 708) d_Law_708 rfl ?_
  refine ar_aload_n (pc := 709) d_Law_709 rfl ?_
  refine ar_iload_n (pc := 710) d_Law_710 rfl ?_
  refine ar_iconst (pc := 711) d_Law_711 ?_
  refine ar_iadd (pc := 712) d_Law_712 ?_
  refine ar_sld (pc := 713) d_Law_713 (i + 1) (by omega) (by omega) (by omega) (fun r_713 => ?_)
  refine ac_virt (pc := 714) (N := mt_K_planned) _ _ mv_K_planned ml_Law_85 ck_11 d_Law_714 (gq_planned X d h r_713) (by first | rfl | exact sh_wheel (by omega) | exact sh_milk (by omega)) rfl rfl (Nat.le_of_ble_eq_true rfl) (Nat.le_of_eq (Nat.zero_add _)) (Nat.le_of_eq (Nat.zero_add _)) (fun r_714 G_714 h_714 => ?_)
  obtain ⟨y, rfl, hM⟩ := h_714
  refine ar_aload_n (pc := 717) d_Law_717 rfl ?_
  refine ar_aload_n (pc := 718) d_Law_718 rfl ?_
  refine ar_iload_n (pc := 719) d_Law_719 rfl ?_
  refine ar_iconst (pc := 720) d_Law_720 ?_
  refine ar_iadd (pc := 721) d_Law_721 ?_
  refine ar_sld (pc := 722) d_Law_722 (i + 1) (by omega) (by omega) (by omega) (fun r_722 => ?_)
  refine ac_virt (pc := 723) (N := mt_Mo_planned) _ _ mv_Mo_planned ml_Law_88 ck_12 d_Law_723 hM (by first | rfl | exact sh_wheel (by omega) | exact sh_milk (by omega)) rfl rfl (Nat.le_of_ble_eq_true rfl) (Nat.le_of_eq (Nat.zero_add _)) (Nat.le_of_eq (Nat.zero_add _)) (fun r_723 G_723 h_723 => ?_)
  obtain ⟨rfl, hJ2⟩ := h_723
  rotate_left
  -- leaves: stop 726
  exact ar_same 923 d_Law_726 (by decide) (kk _ _ _ hJ2)
theorem lc_carry (X : gx_T) (d : Nat) {G : mm_T} {mc wc i : Nat} (hi : i + 9 ≤ X.1) (hX : X.1 ≤ 4608) (hJ : gi_J mc wc G) (kk : lk_C X d i) : aw_W X mt_Law (d + 60) 731 [(0, some (av_r (some 998))), (1, some (av_r (some 0))), (2, some (av_r (some 60))), (3, some (av_i (i : Int)))] [] G ((30 - mc) + (40 - wc)) (3 * (30 - mc) + 10 * (40 - wc)) (fun r _ => r = some (av_i 1)) := by
  obtain ⟨c, kc, z, T, h⟩ := hJ
  refine ar_aload_n (pc := 731) d_Law_731 rfl ?_
  refine ac_virt (pc := 732) (N := mt_K_carry) _ _ mv_K_carry ml_Law_89 ck_11 d_Law_732 (gq_carry X d h ) (by first | rfl | exact sh_wheel (by omega) | exact sh_milk (by omega)) rfl rfl (Nat.le_of_ble_eq_true rfl) (Nat.le_of_eq (Nat.zero_add _)) (Nat.le_of_eq (Nat.zero_add _)) (fun r_732 G_732 h_732 => ?_)
  obtain ⟨y, rfl, hM⟩ := h_732
  refine ar_aload_n (pc := 735) d_Law_735 rfl ?_
  refine ac_virt (pc := 736) (N := mt_Mo_carry) _ _ mv_Mo_carry ml_Law_92 ck_12 d_Law_736 hM (by first | rfl | exact sh_wheel (by omega) | exact sh_milk (by omega)) rfl rfl (Nat.le_of_ble_eq_true rfl) (Nat.le_of_eq (Nat.zero_add _)) (Nat.le_of_eq (Nat.zero_add _)) (fun r_736 G_736 h_736 => ?_)
  obtain ⟨rfl, hJ2⟩ := h_736
  rotate_left
  -- leaves: stop 739
  exact ar_same 923 d_Law_739 (by decide) (kk _ _ _ hJ2)
theorem lc_mark (X : gx_T) (d : Nat) {G : mm_T} {mc wc i : Nat} (hi : i + 9 ≤ X.1) (hX : X.1 ≤ 4608) (hJ : gi_J mc wc G) (kk : lk_C X d i) : aw_W X mt_Law (d + 60) 744 [(0, some (av_r (some 998))), (1, some (av_r (some 0))), (2, some (av_r (some 60))), (3, some (av_i (i : Int)))] [] G ((30 - mc) + (40 - wc)) (3 * (30 - mc) + 10 * (40 - wc)) (fun r _ => r = some (av_i 1)) := by
  obtain ⟨c, kc, z, T, h⟩ := hJ
  refine ar_aload_n (pc := 744) d_Law_744 rfl ?_
  refine ar_aload_n (pc := 745) d_Law_745 rfl ?_
  refine ar_iload_n (pc := 746) d_Law_746 rfl ?_
  refine ar_iconst (pc := 747) d_Law_747 ?_
  refine ar_iadd (pc := 748) d_Law_748 ?_
  refine ar_sld (pc := 749) d_Law_749 (i + 1) (by omega) (by omega) (by omega) (fun r_749 => ?_)
  refine ar_aload_n (pc := 750) d_Law_750 rfl ?_
  refine ar_iload_n (pc := 751) d_Law_751 rfl ?_
  refine ar_iconst (pc := 752) d_Law_752 ?_
  refine ar_iadd (pc := 753) d_Law_753 ?_
  refine ar_sld (pc := 754) d_Law_754 (i + 2) (by omega) (by omega) (by omega) (fun r_754 => ?_)
  refine ar_aload_n (pc := 755) d_Law_755 rfl ?_
  refine ar_iload_n (pc := 756) d_Law_756 rfl ?_
  refine ar_iconst (pc := 757) d_Law_757 ?_
  refine ar_iadd (pc := 758) d_Law_758 ?_
  refine ar_sld (pc := 759) d_Law_759 (i + 3) (by omega) (by omega) (by omega) (fun r_759 => ?_)
  refine ac_virt (pc := 760) (N := mt_K_mark) _ _ mv_K_mark ml_Law_93 ck_11 d_Law_760 (gq_mark X d h r_749 r_754 r_759) (by first | rfl | exact sh_wheel (by omega) | exact sh_milk (by omega)) rfl rfl (Nat.le_of_ble_eq_true rfl) (Nat.le_of_eq (Nat.zero_add _)) (Nat.le_of_eq (Nat.zero_add _)) (fun r_760 G_760 h_760 => ?_)
  obtain ⟨y, rfl, hM⟩ := h_760
  refine ar_aload_n (pc := 763) d_Law_763 rfl ?_
  refine ar_aload_n (pc := 764) d_Law_764 rfl ?_
  refine ar_iload_n (pc := 765) d_Law_765 rfl ?_
  refine ar_iconst (pc := 766) d_Law_766 ?_
  refine ar_iadd (pc := 767) d_Law_767 ?_
  refine ar_sld (pc := 768) d_Law_768 (i + 1) (by omega) (by omega) (by omega) (fun r_768 => ?_)
  refine ar_aload_n (pc := 769) d_Law_769 rfl ?_
  refine ar_iload_n (pc := 770) d_Law_770 rfl ?_
  refine ar_iconst (pc := 771) d_Law_771 ?_
  refine ar_iadd (pc := 772) d_Law_772 ?_
  refine ar_sld (pc := 773) d_Law_773 (i + 2) (by omega) (by omega) (by omega) (fun r_773 => ?_)
  refine ar_aload_n (pc := 774) d_Law_774 rfl ?_
  refine ar_iload_n (pc := 775) d_Law_775 rfl ?_
  refine ar_iconst (pc := 776) d_Law_776 ?_
  refine ar_iadd (pc := 777) d_Law_777 ?_
  refine ar_sld (pc := 778) d_Law_778 (i + 3) (by omega) (by omega) (by omega) (fun r_778 => ?_)
  refine ac_virt (pc := 779) (N := mt_Mo_mark) _ _ mv_Mo_mark ml_Law_97 ck_12 d_Law_779 hM (by first | rfl | exact sh_wheel (by omega) | exact sh_milk (by omega)) rfl rfl (Nat.le_of_ble_eq_true rfl) (Nat.le_of_eq (Nat.zero_add _)) (Nat.le_of_eq (Nat.zero_add _)) (fun r_779 G_779 h_779 => ?_)
  obtain ⟨rfl, hJ2⟩ := h_779
  rotate_left
  -- leaves: stop 782
  exact ar_same 923 d_Law_782 (by decide) (kk _ _ _ hJ2)
theorem lc_untell (X : gx_T) (d : Nat) {G : mm_T} {mc wc i : Nat} (hi : i + 9 ≤ X.1) (hX : X.1 ≤ 4608) (hJ : gi_J mc wc G) (kk : lk_C X d i) : aw_W X mt_Law (d + 60) 787 [(0, some (av_r (some 998))), (1, some (av_r (some 0))), (2, some (av_r (some 60))), (3, some (av_i (i : Int)))] [] G ((30 - mc) + (40 - wc)) (3 * (30 - mc) + 10 * (40 - wc)) (fun r _ => r = some (av_i 1)) := by
  obtain ⟨c, kc, z, T, h⟩ := hJ
  refine ar_aload_n (pc := 787) d_Law_787 rfl ?_
  refine ar_aload_n (pc := 788) d_Law_788 rfl ?_
  refine ar_iload_n (pc := 789) d_Law_789 rfl ?_
  refine ar_iconst (pc := 790) d_Law_790 ?_
  refine ar_iadd (pc := 791) d_Law_791 ?_
  refine ar_sld (pc := 792) d_Law_792 (i + 1) (by omega) (by omega) (by omega) (fun r_792 => ?_)
  refine ac_virt (pc := 793) (N := mt_K_untell) _ _ mv_K_untell ml_Law_98 ck_11 d_Law_793 (gq_untell X d h r_792) (by first | rfl | exact sh_wheel (by omega) | exact sh_milk (by omega)) rfl rfl (Nat.le_of_ble_eq_true rfl) (Nat.le_of_eq (Nat.zero_add _)) (Nat.le_of_eq (Nat.zero_add _)) (fun r_793 G_793 h_793 => ?_)
  obtain ⟨y, rfl, hM⟩ := h_793
  refine ar_aload_n (pc := 796) d_Law_796 rfl ?_
  refine ar_aload_n (pc := 797) d_Law_797 rfl ?_
  refine ar_iload_n (pc := 798) d_Law_798 rfl ?_
  refine ar_iconst (pc := 799) d_Law_799 ?_
  refine ar_iadd (pc := 800) d_Law_800 ?_
  refine ar_sld (pc := 801) d_Law_801 (i + 1) (by omega) (by omega) (by omega) (fun r_801 => ?_)
  refine ac_virt (pc := 802) (N := mt_Mo_untell) _ _ mv_Mo_untell ml_Law_101 ck_12 d_Law_802 hM (by first | rfl | exact sh_wheel (by omega) | exact sh_milk (by omega)) rfl rfl (Nat.le_of_ble_eq_true rfl) (Nat.le_of_eq (Nat.zero_add _)) (Nat.le_of_eq (Nat.zero_add _)) (fun r_802 G_802 h_802 => ?_)
  obtain ⟨rfl, hJ2⟩ := h_802
  rotate_left
  -- leaves: stop 805
  exact ar_same 923 d_Law_805 (by decide) (kk _ _ _ hJ2)
theorem lc_grade (X : gx_T) (d : Nat) {G : mm_T} {mc wc i : Nat} (hi : i + 9 ≤ X.1) (hX : X.1 ≤ 4608) (hJ : gi_J mc wc G) (kk : lk_C X d i) : aw_W X mt_Law (d + 60) 810 [(0, some (av_r (some 998))), (1, some (av_r (some 0))), (2, some (av_r (some 60))), (3, some (av_i (i : Int)))] [] G ((30 - mc) + (40 - wc)) (3 * (30 - mc) + 10 * (40 - wc)) (fun r _ => r = some (av_i 1)) := by
  obtain ⟨c, kc, z, T, h⟩ := hJ
  refine ar_aload_n (pc := 810) d_Law_810 rfl ?_
  refine ar_aload_n (pc := 811) d_Law_811 rfl ?_
  refine ar_iload_n (pc := 812) d_Law_812 rfl ?_
  refine ar_iconst (pc := 813) d_Law_813 ?_
  refine ar_iadd (pc := 814) d_Law_814 ?_
  refine ar_sld (pc := 815) d_Law_815 (i + 1) (by omega) (by omega) (by omega) (fun r_815 => ?_)
  refine ar_aload_n (pc := 816) d_Law_816 rfl ?_
  refine ar_iload_n (pc := 817) d_Law_817 rfl ?_
  refine ar_iconst (pc := 818) d_Law_818 ?_
  refine ar_iadd (pc := 819) d_Law_819 ?_
  refine ar_sld (pc := 820) d_Law_820 (i + 2) (by omega) (by omega) (by omega) (fun r_820 => ?_)
  refine ac_virt (pc := 821) (N := mt_K_grade) _ _ mv_K_grade ml_Law_102 ck_11 d_Law_821 (gq_grade X d h r_815 r_820) (by first | rfl | exact sh_wheel (by omega) | exact sh_milk (by omega)) rfl rfl (Nat.le_of_ble_eq_true rfl) (Nat.le_of_eq (Nat.zero_add _)) (Nat.le_of_eq (Nat.zero_add _)) (fun r_821 G_821 h_821 => ?_)
  obtain ⟨y, rfl, hM⟩ := h_821
  refine ar_aload_n (pc := 824) d_Law_824 rfl ?_
  refine ar_aload_n (pc := 825) d_Law_825 rfl ?_
  refine ar_iload_n (pc := 826) d_Law_826 rfl ?_
  refine ar_iconst (pc := 827) d_Law_827 ?_
  refine ar_iadd (pc := 828) d_Law_828 ?_
  refine ar_sld (pc := 829) d_Law_829 (i + 1) (by omega) (by omega) (by omega) (fun r_829 => ?_)
  refine ar_aload_n (pc := 830) d_Law_830 rfl ?_
  refine ar_iload_n (pc := 831) d_Law_831 rfl ?_
  refine ar_iconst (pc := 832) d_Law_832 ?_
  refine ar_iadd (pc := 833) d_Law_833 ?_
  refine ar_sld (pc := 834) d_Law_834 (i + 2) (by omega) (by omega) (by omega) (fun r_834 => ?_)
  refine ac_virt (pc := 835) (N := mt_Mo_grade) _ _ mv_Mo_grade ml_Law_105 ck_12 d_Law_835 hM (by first | rfl | exact sh_wheel (by omega) | exact sh_milk (by omega)) rfl rfl (Nat.le_of_ble_eq_true rfl) (Nat.le_of_eq (Nat.zero_add _)) (Nat.le_of_eq (Nat.zero_add _)) (fun r_835 G_835 h_835 => ?_)
  obtain ⟨rfl, hJ2⟩ := h_835
  rotate_left
  -- leaves: stop 838
  exact ar_same 923 d_Law_838 (by decide) (kk _ _ _ hJ2)
theorem lc_beside (X : gx_T) (d : Nat) {G : mm_T} {mc wc i : Nat} (hi : i + 9 ≤ X.1) (hX : X.1 ≤ 4608) (hJ : gi_J mc wc G) (kk : lk_C X d i) : aw_W X mt_Law (d + 60) 843 [(0, some (av_r (some 998))), (1, some (av_r (some 0))), (2, some (av_r (some 60))), (3, some (av_i (i : Int)))] [] G ((30 - mc) + (40 - wc)) (3 * (30 - mc) + 10 * (40 - wc)) (fun r _ => r = some (av_i 1)) := by
  obtain ⟨c, kc, z, T, h⟩ := hJ
  refine ar_aload_n (pc := 843) d_Law_843 rfl ?_
  refine ar_aload_n (pc := 844) d_Law_844 rfl ?_
  refine ar_iload_n (pc := 845) d_Law_845 rfl ?_
  refine ar_iconst (pc := 846) d_Law_846 ?_
  refine ar_iadd (pc := 847) d_Law_847 ?_
  refine ar_sld (pc := 848) d_Law_848 (i + 1) (by omega) (by omega) (by omega) (fun r_848 => ?_)
  refine ar_aload_n (pc := 849) d_Law_849 rfl ?_
  refine ar_iload_n (pc := 850) d_Law_850 rfl ?_
  refine ar_iconst (pc := 851) d_Law_851 ?_
  refine ar_iadd (pc := 852) d_Law_852 ?_
  refine ar_sld (pc := 853) d_Law_853 (i + 2) (by omega) (by omega) (by omega) (fun r_853 => ?_)
  refine ac_virt (pc := 854) (N := mt_K_beside) _ _ mv_K_beside ml_Law_106 ck_11 d_Law_854 (gq_beside X d h r_848 r_853) (by first | rfl | exact sh_wheel (by omega) | exact sh_milk (by omega)) rfl rfl (Nat.le_of_ble_eq_true rfl) (Nat.le_of_eq (Nat.zero_add _)) (Nat.le_of_eq (Nat.zero_add _)) (fun r_854 G_854 h_854 => ?_)
  obtain ⟨y, rfl, hM⟩ := h_854
  refine ar_aload_n (pc := 857) d_Law_857 rfl ?_
  refine ar_aload_n (pc := 858) d_Law_858 rfl ?_
  refine ar_iload_n (pc := 859) d_Law_859 rfl ?_
  refine ar_iconst (pc := 860) d_Law_860 ?_
  refine ar_iadd (pc := 861) d_Law_861 ?_
  refine ar_sld (pc := 862) d_Law_862 (i + 1) (by omega) (by omega) (by omega) (fun r_862 => ?_)
  refine ar_aload_n (pc := 863) d_Law_863 rfl ?_
  refine ar_iload_n (pc := 864) d_Law_864 rfl ?_
  refine ar_iconst (pc := 865) d_Law_865 ?_
  refine ar_iadd (pc := 866) d_Law_866 ?_
  refine ar_sld (pc := 867) d_Law_867 (i + 2) (by omega) (by omega) (by omega) (fun r_867 => ?_)
  refine ac_virt (pc := 868) (N := mt_Mo_beside) _ _ mv_Mo_beside ml_Law_109 ck_12 d_Law_868 hM (by first | rfl | exact sh_wheel (by omega) | exact sh_milk (by omega)) rfl rfl (Nat.le_of_ble_eq_true rfl) (Nat.le_of_eq (Nat.zero_add _)) (Nat.le_of_eq (Nat.zero_add _)) (fun r_868 G_868 h_868 => ?_)
  obtain ⟨rfl, hJ2⟩ := h_868
  rotate_left
  -- leaves: stop 871
  exact ar_same 923 d_Law_871 (by decide) (kk _ _ _ hJ2)
theorem lc_reached (X : gx_T) (d : Nat) {G : mm_T} {mc wc i : Nat} (hi : i + 9 ≤ X.1) (hX : X.1 ≤ 4608) (hJ : gi_J mc wc G) (kk : lk_C X d i) : aw_W X mt_Law (d + 60) 876 [(0, some (av_r (some 998))), (1, some (av_r (some 0))), (2, some (av_r (some 60))), (3, some (av_i (i : Int)))] [] G ((30 - mc) + (40 - wc)) (3 * (30 - mc) + 10 * (40 - wc)) (fun r _ => r = some (av_i 1)) := by
  obtain ⟨c, kc, z, T, h⟩ := hJ
  refine ar_aload_n (pc := 876) d_Law_876 rfl ?_
  refine ar_aload_n (pc := 877) d_Law_877 rfl ?_
  refine ar_iload_n (pc := 878) d_Law_878 rfl ?_
  refine ar_iconst (pc := 879) d_Law_879 ?_
  refine ar_iadd (pc := 880) d_Law_880 ?_
  refine ar_sld (pc := 881) d_Law_881 (i + 1) (by omega) (by omega) (by omega) (fun r_881 => ?_)
  refine ac_virt (pc := 882) (N := mt_K_reached) _ _ mv_K_reached ml_Law_110 ck_11 d_Law_882 (gq_reached X d h r_881) (by first | rfl | exact sh_wheel (by omega) | exact sh_milk (by omega)) rfl rfl (Nat.le_of_ble_eq_true rfl) (Nat.le_of_eq (Nat.zero_add _)) (Nat.le_of_eq (Nat.zero_add _)) (fun r_882 G_882 h_882 => ?_)
  obtain ⟨y, rfl, hy, hM⟩ := h_882
  refine ar_aload_n (pc := 885) d_Law_885 rfl ?_
  refine ar_aload_n (pc := 886) d_Law_886 rfl ?_
  refine ar_iload_n (pc := 887) d_Law_887 rfl ?_
  refine ar_iconst (pc := 888) d_Law_888 ?_
  refine ar_iadd (pc := 889) d_Law_889 ?_
  refine ar_sld (pc := 890) d_Law_890 (i + 1) (by omega) (by omega) (by omega) (fun r_890 => ?_)
  refine ac_virt (pc := 891) (N := mt_Mo_reached) _ _ mv_Mo_reached ml_Law_114 ck_12 d_Law_891 hM (by first | rfl | exact sh_wheel (by omega) | exact sh_milk (by omega)) rfl rfl (Nat.le_of_ble_eq_true rfl) (Nat.le_of_eq (Nat.zero_add _)) (Nat.le_of_eq (Nat.zero_add _)) (fun r_891 G_891 h_891 => ?_)
  obtain ⟨rfl, hJ2⟩ := h_891
  rotate_left
  -- leaves: stop 894
  exact ar_leq 923 d_Law_894 d_Law_895 (by decide) hy hy (fun _ => kk _ _ _ hJ2) (fun x => absurd rfl x)
theorem lc_about (X : gx_T) (d : Nat) {G : mm_T} {mc wc i : Nat} (hi : i + 9 ≤ X.1) (hX : X.1 ≤ 4608) (hJ : gi_J mc wc G) (kk : lk_C X d i) : aw_W X mt_Law (d + 60) 900 [(0, some (av_r (some 998))), (1, some (av_r (some 0))), (2, some (av_r (some 60))), (3, some (av_i (i : Int)))] [] G ((30 - mc) + (40 - wc)) (3 * (30 - mc) + 10 * (40 - wc)) (fun r _ => r = some (av_i 1)) := by
  obtain ⟨c, kc, z, T, h⟩ := hJ
  refine ar_aload_n (pc := 900) d_Law_900 rfl ?_
  refine ar_aload_n (pc := 901) d_Law_901 rfl ?_
  refine ar_iload_n (pc := 902) d_Law_902 rfl ?_
  refine ar_iconst (pc := 903) d_Law_903 ?_
  refine ar_iadd (pc := 904) d_Law_904 ?_
  refine ar_sld (pc := 905) d_Law_905 (i + 1) (by omega) (by omega) (by omega) (fun r_905 => ?_)
  refine ac_virt (pc := 906) (N := mt_K_about) _ _ mv_K_about ml_Law_115 ck_11 d_Law_906 (gq_about X d h r_905) (by first | rfl | exact sh_wheel (by omega) | exact sh_milk (by omega)) rfl rfl (Nat.le_of_ble_eq_true rfl) (Nat.le_of_eq (Nat.zero_add _)) (Nat.le_of_eq (Nat.zero_add _)) (fun r_906 G_906 h_906 => ?_)
  obtain ⟨y, rfl, hM⟩ := h_906
  refine ar_aload_n (pc := 909) d_Law_909 rfl ?_
  refine ar_aload_n (pc := 910) d_Law_910 rfl ?_
  refine ar_iload_n (pc := 911) d_Law_911 rfl ?_
  refine ar_iconst (pc := 912) d_Law_912 ?_
  refine ar_iadd (pc := 913) d_Law_913 ?_
  refine ar_sld (pc := 914) d_Law_914 (i + 1) (by omega) (by omega) (by omega) (fun r_914 => ?_)
  refine ac_virt (pc := 915) (N := mt_Mo_about) _ _ mv_Mo_about ml_Law_118 ck_12 d_Law_915 hM (by first | rfl | exact sh_wheel (by omega) | exact sh_milk (by omega)) rfl rfl (Nat.le_of_ble_eq_true rfl) (Nat.le_of_eq (Nat.zero_add _)) (Nat.le_of_eq (Nat.zero_add _)) (fun r_915 G_915 h_915 => ?_)
  obtain ⟨rfl, hJ2⟩ := h_915
  rotate_left
  -- leaves: stop 918
  exact ar_same 923 d_Law_918 (by decide) (kk _ _ _ hJ2)
