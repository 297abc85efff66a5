/-! ===== the reference seeks: one set on one shelf ===== -/
def fm_F (G G1 : mm_T) (at0 : Nat) (v bp : Int) : Prop := (mm_R G1 = mm_R G ∧ mm_A G1 = mm_A G) ∧ (∀ b j, ¬ (b = 98 ∧ j = at0) → mm_I G1 b j = mm_I G b j) ∧ (∀ b j, ¬ (b = 99 ∧ j = at0) → mm_J G1 b j = mm_J G b j) ∧ mm_J G1 99 at0 = v ∧ mm_I G1 98 at0 = bp
theorem fm_u {G G1 : mm_T} {at0 : Nat} {v bp : Int} (h : fm_F G G1 at0 v bp) (v' bp' : Int) : fm_F G (ms_I (ms_J G1 99 at0 v') 98 at0 bp') at0 v' bp' := by
  obtain ⟨h1, h2, h3, h4, h5⟩ := h
  refine ⟨h1, fun b j hb => by rw [mi_n hb]; exact h2 b j hb, fun b j hb => ?_, mj_ss _ _ _ _, mi_s _ _ _ _⟩
  show mm_J (ms_J G1 99 at0 v') b j = _
  rw [mj_sn _ _ hb]; exact h3 b j hb
/-- what stands when the parts of x that are not below 'part' (or above it) are through -/
def fi_I (q : Nat → Nat → Int) (room : Nat → Int) (n s : Nat) (C : Nat → Int) (x : Nat) (done : Nat → Prop) (v bp : Int) : Prop := (v = 9223372036854775807 ∨ ∃ p, vq_P q room n s C x p ∧ v = on_v (q s) p n + C (rmv x p) ∧ bp = (p : Nat)) ∧ ∀ p, vq_P q room n s C x p → done p → v ≠ 9223372036854775807 ∧ v ≤ on_v (q s) p n + C (rmv x p)
def sk_I (G : mm_T) (q : Nat → Nat → Int) (room : Nat → Int) (n s : Nat) (C : Nat → Int) : Prop := fx_R G ∧ (mm_I G 60 54 = n ∧ n ≤ 10) ∧ s < 24 ∧ (∀ k, k < n → mm_J G 100 (10 * s + k) = q s k) ∧ (∀ s k, q s k ≤ 4184623143714816) ∧ (∀ y, y < 2 ^ n → mm_J G 99 (1024 * (s + 1) + y) = C y) ∧ (∀ y, y < 2 ^ n → C y = 9223372036854775807 ∨ (0 ≤ C y ∧ C y ≤ 41846231437148160 * 24)) ∧ (-100 ≤ room s ∧ room s ≤ 100)
theorem p2_10 {n : Nat} (h : n ≤ 10) : 2 ^ n ≤ 1024 := Nat.pow_le_pow_right (n := 2) (by omega) h
theorem lp_seek_p (X : gx_T) (d : Nat) {G : mm_T} {q : Nat → Nat → Int} {room : Nat → Int} {n s x at0 : Nat} {C : Nat → Int} {al : Int} {Q : Option av_T → mm_T → Prop} (H : sk_I G q room n s C) (hx : x < 2 ^ n) (hat : at0 = 1024 * s + x)
    (kk : ∀ G2 v bp, fm_F G G2 at0 v bp → fi_I q room n s C x (fun _ => True) v bp → aw_W X mt_Mo_seek (d + 3) 331 [(0, some (av_r (some 60))), (1, some (av_i al)), (2, some (av_i (s : Int))), (3, some (av_i (room s))), (4, some (av_i (x : Int)))] [] G2 0 0 Q) : ∀ part G1 v bp, part &&& x = part → fm_F G G1 at0 v bp → fi_I q room n s C x (fun p => part < p) v bp → aw_W X mt_Mo_seek (d + 3) 203 [(0, some (av_r (some 60))), (1, some (av_i al)), (2, some (av_i (s : Int))), (3, some (av_i (room s))), (4, some (av_i (x : Int))), (5, some (av_i (at0 : Int))), (6, some (av_i (part : Int))), (7, some (av_i 1))] [] G1 0 0 Q := by
  obtain ⟨hFG, ⟨hg, hn⟩, hs24, hq, hqb, hC, hCb, hrm⟩ := H
  have h1024 := p2_10 hn
  intro part
  induction part using Nat.strongRecOn with
  | _ part ih =>
    intro G1 v bp hsub hw hI
    have hpx : part ≤ x := by rw [← hsub]; exact Nat.and_le_right
    have hF : fx_R G1 := fun a k b z => by rw [hw.1.1]; exact hFG a k b z
    have hr2 : rmv x part < 2 ^ n := Nat.lt_of_le_of_lt (rmv_le x part) hx
    have er := hC (rmv x part) hr2
    have eC : mm_J G1 99 (1024 * (s + 1) + rmv x part) = C (rmv x part) := by rw [hw.2.2.1 _ _ (by omega)]; exact er
    have bC := hCb (rmv x part) hr2
    have erm := ia_rm (x := x) (p := part) (by omega) (by omega)
    have back : ∀ G2 v' bp', fm_F G G2 at0 v' bp' → fi_I q room n s C x (fun p => part ≤ p) v' bp' → aw_W X mt_Mo_seek (d + 3) 307 [(0, some (av_r (some 60))), (1, some (av_i al)), (2, some (av_i (s : Int))), (3, some (av_i (room s))), (4, some (av_i (x : Int))), (5, some (av_i (at0 : Int))), (6, some (av_i (part : Int)))] [] G2 0 0 Q := by
      intro G2 v' bp' hw2 hI2
      by_cases p0 : part = 0
      · subst p0
        have k1 := kk G2 v' bp' hw2 ⟨hI2.1, fun p hp _ => hI2.2 p hp (Nat.zero_le _)⟩
        clear kk ih
        have fin : ∀ y, aw_W X mt_Mo_seek (d + 3) 203 [(0, some (av_r (some 60))), (1, some (av_i al)), (2, some (av_i (s : Int))), (3, some (av_i (room s))), (4, some (av_i (x : Int))), (6, some (av_i y)), (7, some (av_i 0))] [] G2 0 0 Q := by
          intro y
          refine ar_iload (pc := 203) d_Mo_seek_203 rfl ?_
          refine ar_if_eq (pc := 205) 331 d_Mo_seek_205 (by decide) ⟨by omega, by omega⟩ (fun h_205 => ?_) (fun h_205 => by exfalso; omega)
          rotate_left
          -- leaves: stop 331
          · exact ar_loc k1 ⟨rfl, rfl, rfl, rfl, rfl, trivial⟩
        refine ar_iload (pc := 307) d_Mo_seek_307 rfl ?_
        refine ar_if_eq (pc := 309) 316 d_Mo_seek_309 (by decide) ⟨by omega, by omega⟩ (fun h_309 => ?_) (fun h_309 => by exfalso; omega)
        refine ar_iconst (pc := 316) d_Mo_seek_316 ?_
        refine ar_istore (pc := 317) d_Mo_seek_317 rfl (by decide) ?_
        refine ar_iload (pc := 319) d_Mo_seek_319 rfl ?_
        refine ar_iconst (pc := 321) d_Mo_seek_321 ?_
        refine ar_isub (pc := 322) d_Mo_seek_322 ?_
        refine ar_iload (pc := 323) d_Mo_seek_323 rfl ?_
        refine ar_iand (pc := 325) d_Mo_seek_325 ?_
        refine ar_istore (pc := 326) d_Mo_seek_326 rfl (by decide) ?_
        refine ar_goto (pc := 328) 203 d_Mo_seek_328 (by decide) ?_
        rotate_left
        -- leaves: stop 203
        · exact ar_loc (fin _) ⟨rfl, rfl, rfl, rfl, rfl, rfl, rfl, trivial⟩
      · have hlt := sb_lt (p := part) (x := x) (by omega)
        have i1 := ih ((part - 1) &&& x) hlt G2 v' bp' (sb_in part x) hw2 ⟨hI2.1, fun p hp hd => hI2.2 p hp (by
          by_cases z : p < part
          · have := sb_le part part x p (Nat.le_refl _) hsub hp.1 z; omega
          · omega)⟩
        have ea := ia_n (x := part - 1) (y := x) (by omega) (by omega)
        rw [show ((part - 1 : Nat) : Int) = (part : Int) - 1 by omega] at ea
        clear kk ih
        refine ar_iload (pc := 307) d_Mo_seek_307 rfl ?_
        refine ar_if_eq (pc := 309) 316 d_Mo_seek_309 (by decide) ⟨by omega, by omega⟩ (fun h_309 => by exfalso; omega) (fun h_309 => ?_)
        refine ar_iconst (pc := 312) d_Mo_seek_312 ?_
        refine ar_goto (pc := 313) 317 d_Mo_seek_313 (by decide) ?_
        refine ar_istore (pc := 317) d_Mo_seek_317 rfl (by decide) ?_
        refine ar_iload (pc := 319) d_Mo_seek_319 rfl ?_
        refine ar_iconst (pc := 321) d_Mo_seek_321 ?_
        refine ar_isub (pc := 322) d_Mo_seek_322 ?_
        refine ar_iload (pc := 323) d_Mo_seek_323 rfl ?_
        refine ar_iand (pc := 325) d_Mo_seek_325 ?_
        rw [ea]
        refine ar_istore (pc := 326) d_Mo_seek_326 rfl (by decide) ?_
        refine ar_goto (pc := 328) 203 d_Mo_seek_328 (by decide) ?_
        rotate_left
        -- leaves: stop 203
        · exact ar_loc i1 ⟨rfl, rfl, rfl, rfl, rfl, rfl, rfl, rfl, trivial⟩
    clear ih kk
    have e99 := hw.2.2.2.1
    have keep : (∀ z, vq_P q room n s C x part → z = part → v ≠ 9223372036854775807 ∧ v ≤ on_v (q s) part n + C (rmv x part)) → aw_W X mt_Mo_seek (d + 3) 307 [(0, some (av_r (some 60))), (1, some (av_i al)), (2, some (av_i (s : Int))), (3, some (av_i (room s))), (4, some (av_i (x : Int))), (5, some (av_i (at0 : Int))), (6, some (av_i (part : Int)))] [] G1 0 0 Q := fun z => back G1 v bp hw ⟨hI.1, fun p hp hd => by
      by_cases e : p = part
      · subst e; exact z p hp rfl
      · exact hI.2 p hp (by omega)⟩
    have c241 := cm_Mo_many X (d + 1) G1 (x := part) (by omega)
    have mr := mc_r part 10
    have c258 := cm_Mo_onOne X d (G := G1) (n := n) (x := part) (s := s) (q := q s) hF (by rw [hw.2.1 _ _ (by omega)]; exact hg) hn (by omega) hs24 (fun k hk => by rw [hw.2.2.1 _ _ (by omega)]; exact hq k hk)
    have ol := on_le (q := q s) (x := part) (fun k => hqb s k) n
    by_cases cM : C (rmv x part) = 9223372036854775807
    · have g := keep (fun z hz _ => absurd cM hz.2.2.2)
      clear keep back c241 c258
      refine ar_iload (pc := 203) d_Mo_seek_203 rfl ?_
      refine ar_if_eq (pc := 205) 331 d_Mo_seek_205 (by decide) ⟨by omega, by omega⟩ (fun h_205 => by exfalso; omega) (fun h_205 => ?_)
      refine ar_aload_n (pc := 208) d_Mo_seek_208 rfl ?_
      refine ar_getR (pc := 209) gf_Mo_129 d_Mo_seek_209 (by first | rfl | exact sh_wheel (by omega) | exact sh_milk (by omega)) (hF _ _ _ rfl) ?_
      refine ar_sipush (pc := 212) d_Mo_seek_212 (by decide) ?_
      refine ar_iload_n (pc := 215) d_Mo_seek_215 rfl ?_
      refine ar_iconst (pc := 216) d_Mo_seek_216 ?_
      refine ar_iadd (pc := 217) d_Mo_seek_217 ?_
      refine ar_imul (pc := 218) d_Mo_seek_218 ?_
      refine ar_iload (pc := 219) d_Mo_seek_219 rfl ?_
      refine ar_iload (pc := 221) d_Mo_seek_221 rfl ?_
      refine ar_iconst (pc := 223) d_Mo_seek_223 ?_
      refine ar_ixor (pc := 224) d_Mo_seek_224 ?_
      refine ar_iand (pc := 225) d_Mo_seek_225 ?_
      rw [erm]
      refine ar_iadd (pc := 226) d_Mo_seek_226 ?_
      refine ar_laldv (pc := 227) d_Mo_seek_227 rfl (1024*(s+1)+rmv x part) (by omega) (by omega) eC (fun r_227 => ?_)
      refine ar_lstore (pc := 228) d_Mo_seek_228 rfl (by decide) ?_
      refine ar_lload (pc := 230) d_Mo_seek_230 rfl ?_
      refine ar_ldc2 (pc := 232) (9223372036854775807) kj_Mo_375 d_Mo_seek_232 (by decide) ?_
      refine ar_leq (pc := 235) 248 d_Mo_seek_235 d_Mo_seek_236 (by decide) r_227 ⟨by omega, by omega⟩ (fun h_235 => ?_) (fun h_235 => ?_)
      refine ar_ldc2 (pc := 248) (-1) kj_Mo_369 d_Mo_seek_248 (by decide) ?_
      refine ar_goto (pc := 251) 261 d_Mo_seek_251 (by decide) ?_
      refine ar_lstore (pc := 261) d_Mo_seek_261 rfl (by decide) ?_
      refine ar_lload (pc := 263) d_Mo_seek_263 rfl ?_
      refine ar_lconst (pc := 265) 0 d_Mo_seek_265 (by decide) ?_
      refine ar_llt (pc := 266) 307 d_Mo_seek_266 d_Mo_seek_267 (by decide) ⟨by omega, by omega⟩ ⟨by omega, by omega⟩ (fun h_266 => ?_) (fun h_266 => ?_)
      rotate_left
      rotate_left
      rotate_left
      -- leaves: stop 307, stop 270, stop 239
      · exact ar_loc g ⟨rfl, rfl, rfl, rfl, rfl, rfl, rfl, trivial⟩
      · exfalso; omega
      · exact absurd cM h_235
    · have bC2 : 0 ≤ C (rmv x part) ∧ C (rmv x part) ≤ 41846231437148160 * 24 := by rcases bC with z | z; exact absurd z cM; exact z
      by_cases cR : mc_v part 10 ≤ room s
      · have go : ∀ hv : Int, ((on_A (q s) part n ∧ hv = on_v (q s) part n) ∨ (¬ on_A (q s) part n ∧ hv = -1)) → aw_W X mt_Mo_seek (d + 3) 261 [(0, some (av_r (some 60))), (1, some (av_i al)), (2, some (av_i (s : Int))), (3, some (av_i (room s))), (4, some (av_i (x : Int))), (5, some (av_i (at0 : Int))), (6, some (av_i (part : Int))), (8, some (av_l (C (rmv x part)))), (9, none)] [av_l hv] G1 0 0 Q := by
          intro hv hh
          rcases hh with ⟨hA, rfl⟩ | ⟨hA, rfl⟩
          · have ol := ol hA
            have ol2 : on_v (q s) part n ≤ 41846231437148160 := by omega
            have fm := fm_u hw (on_v (q s) part n + C (rmv x part)) (part : Int)
            have vP : vq_P q room n s C x part := ⟨hsub, hA, cR, cM⟩
            by_cases hlt : on_v (q s) part n + C (rmv x part) < v
            · have g := back _ _ _ fm ⟨Or.inr ⟨part, vP, rfl, rfl⟩, fun p hp hd => by
                by_cases e : p = part
                · subst e; exact ⟨by omega, Int.le_refl _⟩
                · have := hI.2 p hp (by omega); exact ⟨by omega, by omega⟩⟩
              clear keep back c241 c258
              generalize on_v (q s) part n = O at *
              generalize C (rmv x part) = R at *
              refine ar_lstore (pc := 261) d_Mo_seek_261 rfl (by decide) ?_
              refine ar_lload (pc := 263) d_Mo_seek_263 rfl ?_
              refine ar_lconst (pc := 265) 0 d_Mo_seek_265 (by decide) ?_
              refine ar_llt (pc := 266) 307 d_Mo_seek_266 d_Mo_seek_267 (by decide) ⟨by omega, by omega⟩ ⟨by omega, by omega⟩ (fun h_266 => ?_) (fun h_266 => ?_)
              rotate_left
              refine ar_lload (pc := 270) d_Mo_seek_270 rfl ?_
              refine ar_lload (pc := 272) d_Mo_seek_272 rfl ?_
              refine ar_ladd (pc := 274) d_Mo_seek_274 ?_
              refine ar_aload_n (pc := 275) d_Mo_seek_275 rfl ?_
              refine ar_getR (pc := 276) gf_Mo_129 d_Mo_seek_276 (by first | rfl | exact sh_wheel (by omega) | exact sh_milk (by omega)) (hF _ _ _ rfl) ?_
              refine ar_iload (pc := 279) d_Mo_seek_279 rfl ?_
              refine ar_laldv (pc := 281) d_Mo_seek_281 rfl (at0) (by omega) (by omega) e99 (fun r_281 => ?_)
              refine ar_lge (pc := 282) 307 d_Mo_seek_282 d_Mo_seek_283 (by decide) ⟨by omega, by omega⟩ r_281 (fun h_282 => ?_) (fun h_282 => ?_)
              rotate_left
              refine ar_aload_n (pc := 286) d_Mo_seek_286 rfl ?_
              refine ar_getR (pc := 287) gf_Mo_129 d_Mo_seek_287 (by first | rfl | exact sh_wheel (by omega) | exact sh_milk (by omega)) (hF _ _ _ rfl) ?_
              refine ar_iload (pc := 290) d_Mo_seek_290 rfl ?_
              refine ar_lload (pc := 292) d_Mo_seek_292 rfl ?_
              refine ar_lload (pc := 294) d_Mo_seek_294 rfl ?_
              refine ar_ladd (pc := 296) d_Mo_seek_296 ?_
              refine ar_last (pc := 297) d_Mo_seek_297 rfl (at0) (by omega) (by omega) ⟨by omega, by omega⟩ ?_
              refine ar_aload_n (pc := 298) d_Mo_seek_298 rfl ?_
              refine ar_getR (pc := 299) gf_Mo_126 d_Mo_seek_299 (by first | rfl | exact sh_wheel (by omega) | exact sh_milk (by omega)) (hF _ _ _ rfl) ?_
              refine ar_iload (pc := 302) d_Mo_seek_302 rfl ?_
              refine ar_iload (pc := 304) d_Mo_seek_304 rfl ?_
              refine ar_iast (pc := 306) d_Mo_seek_306 rfl (at0) (by omega) (by omega) ⟨by omega, by omega⟩ ?_
              rotate_left
              -- leaves: stop 307, stop 307, stop 307
              all_goals first | (exfalso; omega) | exact ar_loc g ⟨rfl, rfl, rfl, rfl, rfl, rfl, rfl, trivial⟩
            · have hvr : v ≠ 9223372036854775807 := by omega
              have g := keep (fun z hz _ => ⟨hvr, by omega⟩)
              clear keep back c241 c258 fm
              generalize on_v (q s) part n = O at *
              generalize C (rmv x part) = R at *
              refine ar_lstore (pc := 261) d_Mo_seek_261 rfl (by decide) ?_
              refine ar_lload (pc := 263) d_Mo_seek_263 rfl ?_
              refine ar_lconst (pc := 265) 0 d_Mo_seek_265 (by decide) ?_
              refine ar_llt (pc := 266) 307 d_Mo_seek_266 d_Mo_seek_267 (by decide) ⟨by omega, by omega⟩ ⟨by omega, by omega⟩ (fun h_266 => ?_) (fun h_266 => ?_)
              rotate_left
              refine ar_lload (pc := 270) d_Mo_seek_270 rfl ?_
              refine ar_lload (pc := 272) d_Mo_seek_272 rfl ?_
              refine ar_ladd (pc := 274) d_Mo_seek_274 ?_
              refine ar_aload_n (pc := 275) d_Mo_seek_275 rfl ?_
              refine ar_getR (pc := 276) gf_Mo_129 d_Mo_seek_276 (by first | rfl | exact sh_wheel (by omega) | exact sh_milk (by omega)) (hF _ _ _ rfl) ?_
              refine ar_iload (pc := 279) d_Mo_seek_279 rfl ?_
              refine ar_laldv (pc := 281) d_Mo_seek_281 rfl (at0) (by omega) (by omega) e99 (fun r_281 => ?_)
              refine ar_lge (pc := 282) 307 d_Mo_seek_282 d_Mo_seek_283 (by decide) ⟨by omega, by omega⟩ r_281 (fun h_282 => ?_) (fun h_282 => ?_)
              rotate_left
              rotate_left
              -- leaves: stop 307, stop 307, stop 286
              all_goals first | (exfalso; omega) | exact ar_loc g ⟨rfl, rfl, rfl, rfl, rfl, rfl, rfl, trivial⟩
          · have g := keep (fun z hz _ => absurd hz.2.1 hA)
            clear keep back c241 c258
            refine ar_lstore (pc := 261) d_Mo_seek_261 rfl (by decide) ?_
            refine ar_lload (pc := 263) d_Mo_seek_263 rfl ?_
            refine ar_lconst (pc := 265) 0 d_Mo_seek_265 (by decide) ?_
            refine ar_llt (pc := 266) 307 d_Mo_seek_266 d_Mo_seek_267 (by decide) ⟨by omega, by omega⟩ ⟨by omega, by omega⟩ (fun h_266 => ?_) (fun h_266 => ?_)
            rotate_left
            rotate_left
            -- leaves: stop 307, stop 270
            · exact ar_loc g ⟨rfl, rfl, rfl, rfl, rfl, rfl, rfl, trivial⟩
            · exfalso; omega
        clear keep back ol
        generalize C (rmv x part) = R at *
        refine ar_iload (pc := 203) d_Mo_seek_203 rfl ?_
        refine ar_if_eq (pc := 205) 331 d_Mo_seek_205 (by decide) ⟨by omega, by omega⟩ (fun h_205 => by exfalso; omega) (fun h_205 => ?_)
        refine ar_aload_n (pc := 208) d_Mo_seek_208 rfl ?_
        refine ar_getR (pc := 209) gf_Mo_129 d_Mo_seek_209 (by first | rfl | exact sh_wheel (by omega) | exact sh_milk (by omega)) (hF _ _ _ rfl) ?_
        refine ar_sipush (pc := 212) d_Mo_seek_212 (by decide) ?_
        refine ar_iload_n (pc := 215) d_Mo_seek_215 rfl ?_
        refine ar_iconst (pc := 216) d_Mo_seek_216 ?_
        refine ar_iadd (pc := 217) d_Mo_seek_217 ?_
        refine ar_imul (pc := 218) d_Mo_seek_218 ?_
        refine ar_iload (pc := 219) d_Mo_seek_219 rfl ?_
        refine ar_iload (pc := 221) d_Mo_seek_221 rfl ?_
        refine ar_iconst (pc := 223) d_Mo_seek_223 ?_
        refine ar_ixor (pc := 224) d_Mo_seek_224 ?_
        refine ar_iand (pc := 225) d_Mo_seek_225 ?_
        rw [erm]
        refine ar_iadd (pc := 226) d_Mo_seek_226 ?_
        refine ar_laldv (pc := 227) d_Mo_seek_227 rfl (1024*(s+1)+rmv x part) (by omega) (by omega) eC (fun r_227 => ?_)
        refine ar_lstore (pc := 228) d_Mo_seek_228 rfl (by decide) ?_
        refine ar_lload (pc := 230) d_Mo_seek_230 rfl ?_
        refine ar_ldc2 (pc := 232) (9223372036854775807) kj_Mo_375 d_Mo_seek_232 (by decide) ?_
        refine ar_leq (pc := 235) 248 d_Mo_seek_235 d_Mo_seek_236 (by decide) r_227 ⟨by omega, by omega⟩ (fun h_235 => ?_) (fun h_235 => ?_)
        rotate_left
        refine ar_iload (pc := 239) d_Mo_seek_239 rfl ?_
        refine ac_stat (pc := 241) (N := mt_Mo_many) _ _ sv_Mo_many ml_Mo_377 d_Mo_seek_241 c241 rfl rfl (Nat.le_of_ble_eq_true rfl) (Nat.le_of_eq (Nat.zero_add _)) (Nat.le_of_eq (Nat.zero_add _)) (fun r_241 G_241 h_241 => ?_)
        obtain ⟨rfl, e_241⟩ := h_241
        subst G_241
        refine ar_iload_n (pc := 244) d_Mo_seek_244 rfl ?_
        refine ar_icmp_le (pc := 245) 254 d_Mo_seek_245 (by decide) ⟨by omega, by omega⟩ ⟨by omega, by omega⟩ (fun h_245 => ?_) (fun h_245 => by exfalso; omega)
        refine ar_aload_n (pc := 254) d_Mo_seek_254 rfl ?_
        refine ar_iload (pc := 255) d_Mo_seek_255 rfl ?_
        refine ar_iload_n (pc := 257) d_Mo_seek_257 rfl ?_
        refine ac_virt (pc := 258) (N := mt_Mo_onOne) _ _ mv_Mo_onOne ml_Mo_380 ck_12 d_Mo_seek_258 c258 (by first | rfl | exact sh_wheel (by omega) | exact sh_milk (by omega)) rfl rfl (Nat.le_of_ble_eq_true rfl) (Nat.le_of_eq (Nat.zero_add _)) (Nat.le_of_eq (Nat.zero_add _)) (fun r_258 G_258 h_258 => ?_)
        obtain ⟨⟨hA, rfl⟩ | ⟨hA, rfl⟩, e258⟩ := h_258
        rotate_left
        rotate_left
        -- leaves: stop 248, stop 261, stop 261
        · exact absurd h_235 cM
        · subst e258; exact ar_loc (go _ (Or.inl ⟨hA, rfl⟩)) ⟨rfl, rfl, rfl, rfl, rfl, rfl, rfl, rfl, trivial⟩
        · subst e258; exact ar_loc (go _ (Or.inr ⟨hA, rfl⟩)) ⟨rfl, rfl, rfl, rfl, rfl, rfl, rfl, rfl, trivial⟩
      · have g := keep (fun z hz _ => absurd hz.2.2.1 cR)
        clear keep back c258 ol
        refine ar_iload (pc := 203) d_Mo_seek_203 rfl ?_
        refine ar_if_eq (pc := 205) 331 d_Mo_seek_205 (by decide) ⟨by omega, by omega⟩ (fun h_205 => by exfalso; omega) (fun h_205 => ?_)
        refine ar_aload_n (pc := 208) d_Mo_seek_208 rfl ?_
        refine ar_getR (pc := 209) gf_Mo_129 d_Mo_seek_209 (by first | rfl | exact sh_wheel (by omega) | exact sh_milk (by omega)) (hF _ _ _ rfl) ?_
        refine ar_sipush (pc := 212) d_Mo_seek_212 (by decide) ?_
        refine ar_iload_n (pc := 215) d_Mo_seek_215 rfl ?_
        refine ar_iconst (pc := 216) d_Mo_seek_216 ?_
        refine ar_iadd (pc := 217) d_Mo_seek_217 ?_
        refine ar_imul (pc := 218) d_Mo_seek_218 ?_
        refine ar_iload (pc := 219) d_Mo_seek_219 rfl ?_
        refine ar_iload (pc := 221) d_Mo_seek_221 rfl ?_
        refine ar_iconst (pc := 223) d_Mo_seek_223 ?_
        refine ar_ixor (pc := 224) d_Mo_seek_224 ?_
        refine ar_iand (pc := 225) d_Mo_seek_225 ?_
        rw [erm]
        refine ar_iadd (pc := 226) d_Mo_seek_226 ?_
        refine ar_laldv (pc := 227) d_Mo_seek_227 rfl (1024*(s+1)+rmv x part) (by omega) (by omega) eC (fun r_227 => ?_)
        refine ar_lstore (pc := 228) d_Mo_seek_228 rfl (by decide) ?_
        refine ar_lload (pc := 230) d_Mo_seek_230 rfl ?_
        refine ar_ldc2 (pc := 232) (9223372036854775807) kj_Mo_375 d_Mo_seek_232 (by decide) ?_
        refine ar_leq (pc := 235) 248 d_Mo_seek_235 d_Mo_seek_236 (by decide) r_227 ⟨by omega, by omega⟩ (fun h_235 => ?_) (fun h_235 => ?_)
        refine ar_ldc2 (pc := 248) (-1) kj_Mo_369 d_Mo_seek_248 (by decide) ?_
        refine ar_goto (pc := 251) 261 d_Mo_seek_251 (by decide) ?_
        refine ar_lstore (pc := 261) d_Mo_seek_261 rfl (by decide) ?_
        refine ar_lload (pc := 263) d_Mo_seek_263 rfl ?_
        refine ar_lconst (pc := 265) 0 d_Mo_seek_265 (by decide) ?_
        refine ar_llt (pc := 266) 307 d_Mo_seek_266 d_Mo_seek_267 (by decide) ⟨by omega, by omega⟩ ⟨by omega, by omega⟩ (fun h_266 => ?_) (fun h_266 => ?_)
        rotate_left
        rotate_left
        refine ar_iload (pc := 239) d_Mo_seek_239 rfl ?_
        refine ac_stat (pc := 241) (N := mt_Mo_many) _ _ sv_Mo_many ml_Mo_377 d_Mo_seek_241 c241 rfl rfl (Nat.le_of_ble_eq_true rfl) (Nat.le_of_eq (Nat.zero_add _)) (Nat.le_of_eq (Nat.zero_add _)) (fun r_241 G_241 h_241 => ?_)
        obtain ⟨rfl, e_241⟩ := h_241
        subst G_241
        refine ar_iload_n (pc := 244) d_Mo_seek_244 rfl ?_
        refine ar_icmp_le (pc := 245) 254 d_Mo_seek_245 (by decide) ⟨by omega, by omega⟩ ⟨by omega, by omega⟩ (fun h_245 => by exfalso; omega) (fun h_245 => ?_)
        refine ar_ldc2 (pc := 248) (-1) kj_Mo_369 d_Mo_seek_248 (by decide) ?_
        refine ar_goto (pc := 251) 261 d_Mo_seek_251 (by decide) ?_
        refine ar_lstore (pc := 261) d_Mo_seek_261 rfl (by decide) ?_
        refine ar_lload (pc := 263) d_Mo_seek_263 rfl ?_
        refine ar_lconst (pc := 265) 0 d_Mo_seek_265 (by decide) ?_
        refine ar_llt (pc := 266) 307 d_Mo_seek_266 d_Mo_seek_267 (by decide) ⟨by omega, by omega⟩ ⟨by omega, by omega⟩ (fun h_266 => ?_) (fun h_266 => ?_)
        rotate_left
        rotate_left
        -- leaves: stop 307, stop 270, stop 307, stop 270
        all_goals first | (exfalso; omega) | exact absurd h_235 cM | exact ar_loc g ⟨rfl, rfl, rfl, rfl, rfl, rfl, rfl, trivial⟩
