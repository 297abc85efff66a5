/-! ===== care and days of the reference ===== -/
def rp_v (kd a p : Int) : Int := if kd = 0 then 3 + a / 3 else if kd = 1 then 2 + p / 30 else 1 + a / 5
def mq_F (G G1 : mm_T) (w : Nat) (ri : Int) (s : Int × Int × Int) : Prop := (mm_R G1 = mm_R G ∧ mm_J G1 = mm_J G ∧ mm_A G1 = mm_A G) ∧ (∀ b i, b ≠ 89 → b ≠ 90 → ¬ (i = w ∧ (b = 68 ∨ b = 69 ∨ b = 70 ∨ b = 72)) → mm_I G1 b i = mm_I G b i) ∧ mm_I G1 68 w = ri ∧ mm_I G1 69 w = s.1 ∧ mm_I G1 70 w = s.2.1 ∧ mm_I G1 72 w = s.2.2
theorem mq_of {G G1 : mm_T} {w : Nat} {s : Int × Int × Int} (h : mc_F G G1 w s) (a b c e : Int) : mq_F G (ms_I (ms_I (ms_I (ms_I G1 68 w a) 69 w b) 70 w c) 72 w e) w a (b, c, e) := by
  obtain ⟨h1, h2, h3, h4, h5⟩ := h
  refine ⟨h1, fun x i b1 b2 b3 => ?_, mi_s _ _ _ _, mi_s _ _ _ _, mi_s _ _ _ _, mi_s _ _ _ _⟩
  rw [mi_n (by omega), mi_n (by omega), mi_n (by omega), mi_n (by omega)]
  exact h2 x i b1 b2 (by omega)
theorem cm_Mo_care (X : gx_T) (d : Nat) (G : mm_T) {w sh L : Nat} {f : Nat → Int} {le : Nat → Nat} {dd : Nat → Int} {N : Int → Int → Int → Int → Int} {u : Int × Int × Int} (hF : fx_R G) (hw : w < 40) (hs : mm_I G 67 w = sh) (hs2 : sh < 24) (ht : 0 ≤ mm_I G 60 0 ∧ mm_I G 60 0 ≤ 100000) (hm : 0 ≤ mm_I G 71 w ∧ mm_I G 71 w ≤ 100000) (hW : pg_W f le dd L) (hP : mp_R G f le dd L) (h26 : mm_I G 60 26 = L) (hN : N = nv_v (mm_I G 66 w) (mm_I G 60 0 - mm_I G 71 w) (mm_I G 68 w) (mm_I G 61 sh) (mm_I G 62 (sh / 6)) sh (mm_I G 60 0)) (hsr : sr_I (mm_I G 69 w, mm_I G 70 w, mm_I G 72 w)) (hr : 0 ≤ mm_I G 68 w ∧ mm_I G 68 w ≤ 1000000) (ha : 0 ≤ mm_I G 61 sh ∧ mm_I G 61 sh ≤ 9) (hp : 0 ≤ mm_I G 62 (sh / 6) ∧ mm_I G 62 (sh / 6) ≤ 99) (hu : u = dy_v N (mm_I G 66 w) f le dd (mm_I G 69 w, mm_I G 70 w, mm_I G 72 w) L) :
    aw_M X (d + 2) mt_Mo_care [av_r (some 60), av_i (w : Int)] G 0 0 (fun r G' => r = none ∧ mq_F G G' w (wn_v (mm_I G 68 w + rp_v (mm_I G 66 w) (mm_I G 61 sh) (mm_I G 62 (sh / 6)))) (wn_v (u.1 + mm_I G 62 (sh / 6) / 20 + u.2.2 / 3), wn_v (u.2.1 - mm_I G 61 sh), u.2.2 + 1)) := by
  have h := lp_Mo_care X d (s0 := (mm_I G 69 w, mm_I G 70 w, mm_I G 72 w)) (Q := fun r G' => r = none ∧ mq_F G G' w (wn_v (mm_I G 68 w + rp_v (mm_I G 66 w) (mm_I G 61 sh) (mm_I G 62 (sh / 6)))) (wn_v (u.1 + mm_I G 62 (sh / 6) / 20 + u.2.2 / 3), wn_v (u.2.1 - mm_I G 61 sh), u.2.2 + 1)) hF hw hs hs2 ht hm hW hP h26 hN hsr ?_ L 0 G (by omega) ⟨⟨rfl, rfl, rfl⟩, fun _ _ _ _ _ => rfl, rfl, rfl, rfl⟩
  · skip
    refine aw_enter pf_Mo_care (Nat.le_of_ble_eq_true rfl) ?_
    refine ar_iconst (pc := 0) d_Mo_care_0 ?_
    refine ar_istore_n (pc := 1) d_Mo_care_1 rfl (by decide) ?_
    rotate_left
    -- leaves: stop 2
    · exact ar_loc h ⟨rfl, rfl, rfl, trivial⟩
  · intro G1 hM
    rw [← hu] at hM
    have hui : sr_I u := by rw [hu]; exact dy_I hsr L
    obtain ⟨u1, u2, u3⟩ := hui
    have hq := mq_of hM
    obtain ⟨h1, h2, e69, e70, e72⟩ := hM
    have hF1 : fx_R G1 := fun a k b h => by rw [h1.1]; exact hF a k b h
    have e67 := (h2 67 w (by omega) (by omega) (by omega)).trans hs
    have e61 := h2 61 sh (by omega) (by omega) (by omega)
    have e62 := h2 62 (sh / 6) (by omega) (by omega) (by omega)
    have e68 := h2 68 w (by omega) (by omega) (by omega)
    have e66 := h2 66 w (by omega) (by omega) (by omega)
    clear h1 h2 hN hu hW hP
    have hF := hF1
    generalize mm_I G 61 sh = ai at *
    generalize mm_I G 62 (sh / 6) = da at *
    generalize mm_I G 68 w = ri at *
    generalize mm_I G 66 w = kd at *
    have g := wn_r (u.1 + da / 20 + u.2.2 / 3)
    have g2 := wn_r (u.2.1 - ai)
    refine ar_aload_n (pc := 148) d_Mo_care_148 rfl ?_
    refine ar_getR (pc := 149) gf_Mo_7 d_Mo_care_149 (by first | rfl | exact sh_wheel (by omega) | exact sh_milk (by omega)) (hF _ _ _ rfl) ?_
    refine ar_aload_n (pc := 152) d_Mo_care_152 rfl ?_
    refine ar_getR (pc := 153) gf_Mo_28 d_Mo_care_153 (by first | rfl | exact sh_wheel (by omega) | exact sh_milk (by omega)) (hF _ _ _ rfl) ?_
    refine ar_iload_n (pc := 156) d_Mo_care_156 rfl ?_
    refine ar_ialdv (pc := 157) d_Mo_care_157 rfl (w) (by omega) (by omega) e67 (fun r_157 => ?_)
    refine ar_ialdv (pc := 158) d_Mo_care_158 rfl (sh) (by omega) (by omega) e61 (fun r_158 => ?_)
    refine ar_istore_n (pc := 159) d_Mo_care_159 rfl (by decide) ?_
    refine ar_aload_n (pc := 160) d_Mo_care_160 rfl ?_
    refine ar_getR (pc := 161) gf_Mo_13 d_Mo_care_161 (by first | rfl | exact sh_wheel (by omega) | exact sh_milk (by omega)) (hF _ _ _ rfl) ?_
    refine ar_aload_n (pc := 164) d_Mo_care_164 rfl ?_
    refine ar_getR (pc := 165) gf_Mo_28 d_Mo_care_165 (by first | rfl | exact sh_wheel (by omega) | exact sh_milk (by omega)) (hF _ _ _ rfl) ?_
    refine ar_iload_n (pc := 168) d_Mo_care_168 rfl ?_
    refine ar_ialdv (pc := 169) d_Mo_care_169 rfl (w) (by omega) (by omega) e67 (fun r_169 => ?_)
    refine ar_bipush (pc := 170) d_Mo_care_170 (by decide) ?_
    refine ar_idivp (pc := 172) d_Mo_care_172 (by omega) (by omega) (by omega) (by omega) ?_
    refine ar_ialdv (pc := 173) d_Mo_care_173 rfl (sh/6) (by omega) (by omega) e62 (fun r_173 => ?_)
    refine ar_istore_n (pc := 174) d_Mo_care_174 rfl (by decide) ?_
    refine ar_aload_n (pc := 175) d_Mo_care_175 rfl ?_
    refine ar_getR (pc := 176) gf_Mo_31 d_Mo_care_176 (by first | rfl | exact sh_wheel (by omega) | exact sh_milk (by omega)) (hF _ _ _ rfl) ?_
    refine ar_iload_n (pc := 179) d_Mo_care_179 rfl ?_
    refine ar_aload_n (pc := 180) d_Mo_care_180 rfl ?_
    refine ar_getR (pc := 181) gf_Mo_31 d_Mo_care_181 (by first | rfl | exact sh_wheel (by omega) | exact sh_milk (by omega)) (hF _ _ _ rfl) ?_
    refine ar_iload_n (pc := 184) d_Mo_care_184 rfl ?_
    refine ar_ialdv (pc := 185) d_Mo_care_185 rfl (w) (by omega) (by omega) e68 (fun r_185 => ?_)
    refine ar_aload_n (pc := 186) d_Mo_care_186 rfl ?_
    refine ar_getR (pc := 187) gf_Mo_25 d_Mo_care_187 (by first | rfl | exact sh_wheel (by omega) | exact sh_milk (by omega)) (hF _ _ _ rfl) ?_
    refine ar_iload_n (pc := 190) d_Mo_care_190 rfl ?_
    refine ar_ialdv (pc := 191) d_Mo_care_191 rfl (w) (by omega) (by omega) e66 (fun r_191 => ?_)
    refine ar_if_ne (pc := 192) 203 d_Mo_care_192 (by decide) ⟨by omega, by omega⟩ (fun h_192 => ?_) (fun h_192 => ?_)
    refine ar_aload_n (pc := 203) d_Mo_care_203 rfl ?_
    refine ar_getR (pc := 204) gf_Mo_25 d_Mo_care_204 (by first | rfl | exact sh_wheel (by omega) | exact sh_milk (by omega)) (hF _ _ _ rfl) ?_
    refine ar_iload_n (pc := 207) d_Mo_care_207 rfl ?_
    refine ar_ialdv (pc := 208) d_Mo_care_208 rfl (w) (by omega) (by omega) e66 (fun r_208 => ?_)
    refine ar_iconst (pc := 209) d_Mo_care_209 ?_
    refine ar_icmp_ne (pc := 210) 222 d_Mo_care_210 (by decide) ⟨by omega, by omega⟩ ⟨by omega, by omega⟩ (fun h_210 => ?_) (fun h_210 => ?_)
    refine ar_iconst (pc := 222) d_Mo_care_222 ?_
    refine ar_iload_n (pc := 223) d_Mo_care_223 rfl ?_
    refine ar_iconst (pc := 224) d_Mo_care_224 ?_
    refine ar_idivp (pc := 225) d_Mo_care_225 (by omega) (by omega) (by omega) (by omega) ?_
    refine ar_iadd (pc := 226) d_Mo_care_226 ?_
    refine ar_iadd (pc := 227) d_Mo_care_227 ?_
    refine ac_stat (pc := 228) (N := mt_Mo_within) _ _ sv_Mo_within ml_Mo_344 d_Mo_care_228 (cm_Mo_within _ _ _ ⟨by omega, by omega⟩) rfl rfl (Nat.le_of_ble_eq_true rfl) (Nat.le_of_eq (Nat.zero_add _)) (Nat.le_of_eq (Nat.zero_add _)) (fun r_228 G_228 h_228 => ?_)
    obtain ⟨rfl, e_228⟩ := h_228
    subst G_228
    refine ar_iast (pc := 231) d_Mo_care_231 rfl (w) (by omega) (by omega) ⟨by omega, by omega⟩ ?_
    refine ar_aload_n (pc := 232) d_Mo_care_232 rfl ?_
    refine ar_getR (pc := 233) gf_Mo_34 d_Mo_care_233 (by first | rfl | exact sh_wheel (by omega) | exact sh_milk (by omega)) (hF _ _ _ rfl) ?_
    refine ar_iload_n (pc := 236) d_Mo_care_236 rfl ?_
    refine ar_aload_n (pc := 237) d_Mo_care_237 rfl ?_
    refine ar_getR (pc := 238) gf_Mo_34 d_Mo_care_238 (by first | rfl | exact sh_wheel (by omega) | exact sh_milk (by omega)) (hF _ _ _ rfl) ?_
    refine ar_iload_n (pc := 241) d_Mo_care_241 rfl ?_
    refine ar_ialdv (pc := 242) d_Mo_care_242 rfl (w) (by omega) (by omega) (show _ = u.1 from e69) (fun r_242 => ?_)
    refine ar_iload_n (pc := 243) d_Mo_care_243 rfl ?_
    refine ar_bipush (pc := 244) d_Mo_care_244 (by decide) ?_
    refine ar_idivp (pc := 246) d_Mo_care_246 (by omega) (by omega) (by omega) (by omega) ?_
    refine ar_iadd (pc := 247) d_Mo_care_247 ?_
    refine ar_aload_n (pc := 248) d_Mo_care_248 rfl ?_
    refine ar_getR (pc := 249) gf_Mo_43 d_Mo_care_249 (by first | rfl | exact sh_wheel (by omega) | exact sh_milk (by omega)) (hF _ _ _ rfl) ?_
    refine ar_iload_n (pc := 252) d_Mo_care_252 rfl ?_
    refine ar_ialdv (pc := 253) d_Mo_care_253 rfl (w) (by omega) (by omega) (show _ = u.2.2 from e72) (fun r_253 => ?_)
    refine ar_iconst (pc := 254) d_Mo_care_254 ?_
    refine ar_idivp (pc := 255) d_Mo_care_255 (by omega) (by omega) (by omega) (by omega) ?_
    refine ar_iadd (pc := 256) d_Mo_care_256 ?_
    refine ac_stat (pc := 257) (N := mt_Mo_within) _ _ sv_Mo_within ml_Mo_344 d_Mo_care_257 (cm_Mo_within _ _ _ ⟨by omega, by omega⟩) rfl rfl (Nat.le_of_ble_eq_true rfl) (Nat.le_of_eq (Nat.zero_add _)) (Nat.le_of_eq (Nat.zero_add _)) (fun r_257 G_257 h_257 => ?_)
    obtain ⟨rfl, e_257⟩ := h_257
    subst G_257
    refine ar_iast (pc := 260) d_Mo_care_260 rfl (w) (by omega) (by omega) ⟨by omega, by omega⟩ ?_
    refine ar_aload_n (pc := 261) d_Mo_care_261 rfl ?_
    refine ar_getR (pc := 262) gf_Mo_37 d_Mo_care_262 (by first | rfl | exact sh_wheel (by omega) | exact sh_milk (by omega)) (hF _ _ _ rfl) ?_
    refine ar_iload_n (pc := 265) d_Mo_care_265 rfl ?_
    refine ar_aload_n (pc := 266) d_Mo_care_266 rfl ?_
    refine ar_getR (pc := 267) gf_Mo_37 d_Mo_care_267 (by first | rfl | exact sh_wheel (by omega) | exact sh_milk (by omega)) (hF _ _ _ rfl) ?_
    refine ar_iload_n (pc := 270) d_Mo_care_270 rfl ?_
    refine ar_ialdv (pc := 271) d_Mo_care_271 rfl (w) (by omega) (by omega) (show _ = u.2.1 from e70) (fun r_271 => ?_)
    refine ar_iload_n (pc := 272) d_Mo_care_272 rfl ?_
    refine ar_isub (pc := 273) d_Mo_care_273 ?_
    refine ac_stat (pc := 274) (N := mt_Mo_within) _ _ sv_Mo_within ml_Mo_344 d_Mo_care_274 (cm_Mo_within _ _ _ ⟨by omega, by omega⟩) rfl rfl (Nat.le_of_ble_eq_true rfl) (Nat.le_of_eq (Nat.zero_add _)) (Nat.le_of_eq (Nat.zero_add _)) (fun r_274 G_274 h_274 => ?_)
    obtain ⟨rfl, e_274⟩ := h_274
    subst G_274
    refine ar_iast (pc := 277) d_Mo_care_277 rfl (w) (by omega) (by omega) ⟨by omega, by omega⟩ ?_
    refine ar_aload_n (pc := 278) d_Mo_care_278 rfl ?_
    refine ar_getR (pc := 279) gf_Mo_43 d_Mo_care_279 (by first | rfl | exact sh_wheel (by omega) | exact sh_milk (by omega)) (hF _ _ _ rfl) ?_
    refine ar_iload_n (pc := 282) d_Mo_care_282 rfl ?_
    refine ar_dup2 (pc := 283) d_Mo_care_283 rfl rfl ?_
    refine ar_ialdv (pc := 284) d_Mo_care_284 rfl (w) (by omega) (by omega) (show _ = u.2.2 from e72) (fun r_284 => ?_)
    refine ar_iconst (pc := 285) d_Mo_care_285 ?_
    refine ar_iadd (pc := 286) d_Mo_care_286 ?_
    refine ar_iast (pc := 287) d_Mo_care_287 rfl (w) (by omega) (by omega) ⟨by omega, by omega⟩ ?_
    refine ar_ret (pc := 288) d_Mo_care_288 rfl ?_
    rotate_left
    refine ar_iconst (pc := 213) d_Mo_care_213 ?_
    refine ar_iload_n (pc := 214) d_Mo_care_214 rfl ?_
    refine ar_bipush (pc := 215) d_Mo_care_215 (by decide) ?_
    refine ar_idivp (pc := 217) d_Mo_care_217 (by omega) (by omega) (by omega) (by omega) ?_
    refine ar_iadd (pc := 218) d_Mo_care_218 ?_
    refine ar_goto (pc := 219) 227 d_Mo_care_219 (by decide) ?_
    refine ar_iadd (pc := 227) d_Mo_care_227 ?_
    refine ac_stat (pc := 228) (N := mt_Mo_within) _ _ sv_Mo_within ml_Mo_344 d_Mo_care_228 (cm_Mo_within _ _ _ ⟨by omega, by omega⟩) rfl rfl (Nat.le_of_ble_eq_true rfl) (Nat.le_of_eq (Nat.zero_add _)) (Nat.le_of_eq (Nat.zero_add _)) (fun r_228 G_228 h_228 => ?_)
    obtain ⟨rfl, e_228⟩ := h_228
    subst G_228
    refine ar_iast (pc := 231) d_Mo_care_231 rfl (w) (by omega) (by omega) ⟨by omega, by omega⟩ ?_
    refine ar_aload_n (pc := 232) d_Mo_care_232 rfl ?_
    refine ar_getR (pc := 233) gf_Mo_34 d_Mo_care_233 (by first | rfl | exact sh_wheel (by omega) | exact sh_milk (by omega)) (hF _ _ _ rfl) ?_
    refine ar_iload_n (pc := 236) d_Mo_care_236 rfl ?_
    refine ar_aload_n (pc := 237) d_Mo_care_237 rfl ?_
    refine ar_getR (pc := 238) gf_Mo_34 d_Mo_care_238 (by first | rfl | exact sh_wheel (by omega) | exact sh_milk (by omega)) (hF _ _ _ rfl) ?_
    refine ar_iload_n (pc := 241) d_Mo_care_241 rfl ?_
    refine ar_ialdv (pc := 242) d_Mo_care_242 rfl (w) (by omega) (by omega) (show _ = u.1 from e69) (fun r_242 => ?_)
    refine ar_iload_n (pc := 243) d_Mo_care_243 rfl ?_
    refine ar_bipush (pc := 244) d_Mo_care_244 (by decide) ?_
    refine ar_idivp (pc := 246) d_Mo_care_246 (by omega) (by omega) (by omega) (by omega) ?_
    refine ar_iadd (pc := 247) d_Mo_care_247 ?_
    refine ar_aload_n (pc := 248) d_Mo_care_248 rfl ?_
    refine ar_getR (pc := 249) gf_Mo_43 d_Mo_care_249 (by first | rfl | exact sh_wheel (by omega) | exact sh_milk (by omega)) (hF _ _ _ rfl) ?_
    refine ar_iload_n (pc := 252) d_Mo_care_252 rfl ?_
    refine ar_ialdv (pc := 253) d_Mo_care_253 rfl (w) (by omega) (by omega) (show _ = u.2.2 from e72) (fun r_253 => ?_)
    refine ar_iconst (pc := 254) d_Mo_care_254 ?_
    refine ar_idivp (pc := 255) d_Mo_care_255 (by omega) (by omega) (by omega) (by omega) ?_
    refine ar_iadd (pc := 256) d_Mo_care_256 ?_
    refine ac_stat (pc := 257) (N := mt_Mo_within) _ _ sv_Mo_within ml_Mo_344 d_Mo_care_257 (cm_Mo_within _ _ _ ⟨by omega, by omega⟩) rfl rfl (Nat.le_of_ble_eq_true rfl) (Nat.le_of_eq (Nat.zero_add _)) (Nat.le_of_eq (Nat.zero_add _)) (fun r_257 G_257 h_257 => ?_)
    obtain ⟨rfl, e_257⟩ := h_257
    subst G_257
    refine ar_iast (pc := 260) d_Mo_care_260 rfl (w) (by omega) (by omega) ⟨by omega, by omega⟩ ?_
    refine ar_aload_n (pc := 261) d_Mo_care_261 rfl ?_
    refine ar_getR (pc := 262) gf_Mo_37 d_Mo_care_262 (by first | rfl | exact sh_wheel (by omega) | exact sh_milk (by omega)) (hF _ _ _ rfl) ?_
    refine ar_iload_n (pc := 265) d_Mo_care_265 rfl ?_
    refine ar_aload_n (pc := 266) d_Mo_care_266 rfl ?_
    refine ar_getR (pc := 267) gf_Mo_37 d_Mo_care_267 (by first | rfl | exact sh_wheel (by omega) | exact sh_milk (by omega)) (hF _ _ _ rfl) ?_
    refine ar_iload_n (pc := 270) d_Mo_care_270 rfl ?_
    refine ar_ialdv (pc := 271) d_Mo_care_271 rfl (w) (by omega) (by omega) (show _ = u.2.1 from e70) (fun r_271 => ?_)
    refine ar_iload_n (pc := 272) d_Mo_care_272 rfl ?_
    refine ar_isub (pc := 273) d_Mo_care_273 ?_
    refine ac_stat (pc := 274) (N := mt_Mo_within) _ _ sv_Mo_within ml_Mo_344 d_Mo_care_274 (cm_Mo_within _ _ _ ⟨by omega, by omega⟩) rfl rfl (Nat.le_of_ble_eq_true rfl) (Nat.le_of_eq (Nat.zero_add _)) (Nat.le_of_eq (Nat.zero_add _)) (fun r_274 G_274 h_274 => ?_)
    obtain ⟨rfl, e_274⟩ := h_274
    subst G_274
    refine ar_iast (pc := 277) d_Mo_care_277 rfl (w) (by omega) (by omega) ⟨by omega, by omega⟩ ?_
    refine ar_aload_n (pc := 278) d_Mo_care_278 rfl ?_
    refine ar_getR (pc := 279) gf_Mo_43 d_Mo_care_279 (by first | rfl | exact sh_wheel (by omega) | exact sh_milk (by omega)) (hF _ _ _ rfl) ?_
    refine ar_iload_n (pc := 282) d_Mo_care_282 rfl ?_
    refine ar_dup2 (pc := 283) d_Mo_care_283 rfl rfl ?_
    refine ar_ialdv (pc := 284) d_Mo_care_284 rfl (w) (by omega) (by omega) (show _ = u.2.2 from e72) (fun r_284 => ?_)
    refine ar_iconst (pc := 285) d_Mo_care_285 ?_
    refine ar_iadd (pc := 286) d_Mo_care_286 ?_
    refine ar_iast (pc := 287) d_Mo_care_287 rfl (w) (by omega) (by omega) ⟨by omega, by omega⟩ ?_
    refine ar_ret (pc := 288) d_Mo_care_288 rfl ?_
    rotate_left
    refine ar_iconst (pc := 195) d_Mo_care_195 ?_
    refine ar_iload_n (pc := 196) d_Mo_care_196 rfl ?_
    refine ar_iconst (pc := 197) d_Mo_care_197 ?_
    refine ar_idivp (pc := 198) d_Mo_care_198 (by omega) (by omega) (by omega) (by omega) ?_
    refine ar_iadd (pc := 199) d_Mo_care_199 ?_
    refine ar_goto (pc := 200) 227 d_Mo_care_200 (by decide) ?_
    refine ar_iadd (pc := 227) d_Mo_care_227 ?_
    refine ac_stat (pc := 228) (N := mt_Mo_within) _ _ sv_Mo_within ml_Mo_344 d_Mo_care_228 (cm_Mo_within _ _ _ ⟨by omega, by omega⟩) rfl rfl (Nat.le_of_ble_eq_true rfl) (Nat.le_of_eq (Nat.zero_add _)) (Nat.le_of_eq (Nat.zero_add _)) (fun r_228 G_228 h_228 => ?_)
    obtain ⟨rfl, e_228⟩ := h_228
    subst G_228
    refine ar_iast (pc := 231) d_Mo_care_231 rfl (w) (by omega) (by omega) ⟨by omega, by omega⟩ ?_
    refine ar_aload_n (pc := 232) d_Mo_care_232 rfl ?_
    refine ar_getR (pc := 233) gf_Mo_34 d_Mo_care_233 (by first | rfl | exact sh_wheel (by omega) | exact sh_milk (by omega)) (hF _ _ _ rfl) ?_
    refine ar_iload_n (pc := 236) d_Mo_care_236 rfl ?_
    refine ar_aload_n (pc := 237) d_Mo_care_237 rfl ?_
    refine ar_getR (pc := 238) gf_Mo_34 d_Mo_care_238 (by first | rfl | exact sh_wheel (by omega) | exact sh_milk (by omega)) (hF _ _ _ rfl) ?_
    refine ar_iload_n (pc := 241) d_Mo_care_241 rfl ?_
    refine ar_ialdv (pc := 242) d_Mo_care_242 rfl (w) (by omega) (by omega) (show _ = u.1 from e69) (fun r_242 => ?_)
    refine ar_iload_n (pc := 243) d_Mo_care_243 rfl ?_
    refine ar_bipush (pc := 244) d_Mo_care_244 (by decide) ?_
    refine ar_idivp (pc := 246) d_Mo_care_246 (by omega) (by omega) (by omega) (by omega) ?_
    refine ar_iadd (pc := 247) d_Mo_care_247 ?_
    refine ar_aload_n (pc := 248) d_Mo_care_248 rfl ?_
    refine ar_getR (pc := 249) gf_Mo_43 d_Mo_care_249 (by first | rfl | exact sh_wheel (by omega) | exact sh_milk (by omega)) (hF _ _ _ rfl) ?_
    refine ar_iload_n (pc := 252) d_Mo_care_252 rfl ?_
    refine ar_ialdv (pc := 253) d_Mo_care_253 rfl (w) (by omega) (by omega) (show _ = u.2.2 from e72) (fun r_253 => ?_)
    refine ar_iconst (pc := 254) d_Mo_care_254 ?_
    refine ar_idivp (pc := 255) d_Mo_care_255 (by omega) (by omega) (by omega) (by omega) ?_
    refine ar_iadd (pc := 256) d_Mo_care_256 ?_
    refine ac_stat (pc := 257) (N := mt_Mo_within) _ _ sv_Mo_within ml_Mo_344 d_Mo_care_257 (cm_Mo_within _ _ _ ⟨by omega, by omega⟩) rfl rfl (Nat.le_of_ble_eq_true rfl) (Nat.le_of_eq (Nat.zero_add _)) (Nat.le_of_eq (Nat.zero_add _)) (fun r_257 G_257 h_257 => ?_)
    obtain ⟨rfl, e_257⟩ := h_257
    subst G_257
    refine ar_iast (pc := 260) d_Mo_care_260 rfl (w) (by omega) (by omega) ⟨by omega, by omega⟩ ?_
    refine ar_aload_n (pc := 261) d_Mo_care_261 rfl ?_
    refine ar_getR (pc := 262) gf_Mo_37 d_Mo_care_262 (by first | rfl | exact sh_wheel (by omega) | exact sh_milk (by omega)) (hF _ _ _ rfl) ?_
    refine ar_iload_n (pc := 265) d_Mo_care_265 rfl ?_
    refine ar_aload_n (pc := 266) d_Mo_care_266 rfl ?_
    refine ar_getR (pc := 267) gf_Mo_37 d_Mo_care_267 (by first | rfl | exact sh_wheel (by omega) | exact sh_milk (by omega)) (hF _ _ _ rfl) ?_
    refine ar_iload_n (pc := 270) d_Mo_care_270 rfl ?_
    refine ar_ialdv (pc := 271) d_Mo_care_271 rfl (w) (by omega) (by omega) (show _ = u.2.1 from e70) (fun r_271 => ?_)
    refine ar_iload_n (pc := 272) d_Mo_care_272 rfl ?_
    refine ar_isub (pc := 273) d_Mo_care_273 ?_
    refine ac_stat (pc := 274) (N := mt_Mo_within) _ _ sv_Mo_within ml_Mo_344 d_Mo_care_274 (cm_Mo_within _ _ _ ⟨by omega, by omega⟩) rfl rfl (Nat.le_of_ble_eq_true rfl) (Nat.le_of_eq (Nat.zero_add _)) (Nat.le_of_eq (Nat.zero_add _)) (fun r_274 G_274 h_274 => ?_)
    obtain ⟨rfl, e_274⟩ := h_274
    subst G_274
    refine ar_iast (pc := 277) d_Mo_care_277 rfl (w) (by omega) (by omega) ⟨by omega, by omega⟩ ?_
    refine ar_aload_n (pc := 278) d_Mo_care_278 rfl ?_
    refine ar_getR (pc := 279) gf_Mo_43 d_Mo_care_279 (by first | rfl | exact sh_wheel (by omega) | exact sh_milk (by omega)) (hF _ _ _ rfl) ?_
    refine ar_iload_n (pc := 282) d_Mo_care_282 rfl ?_
    refine ar_dup2 (pc := 283) d_Mo_care_283 rfl rfl ?_
    refine ar_ialdv (pc := 284) d_Mo_care_284 rfl (w) (by omega) (by omega) (show _ = u.2.2 from e72) (fun r_284 => ?_)
    refine ar_iconst (pc := 285) d_Mo_care_285 ?_
    refine ar_iadd (pc := 286) d_Mo_care_286 ?_
    refine ar_iast (pc := 287) d_Mo_care_287 rfl (w) (by omega) (by omega) ⟨by omega, by omega⟩ ?_
    refine ar_ret (pc := 288) d_Mo_care_288 rfl ?_
    rotate_left
    -- leaves: ret 288, ret 288, ret 288
    all_goals (refine ⟨rfl, ?_⟩; unfold rp_v; repeat (first | rw [if_pos (by omega)] | rw [if_neg (by omega)]))
    all_goals exact hq _ _ _ _
