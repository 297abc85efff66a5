/-! ===== orders of the reference ===== -/
def cp_2 (G : mm_T) (k : Nat) : mm_T := (G.1, fun x j => if x = 79 ∧ j < k then G.2.1 83 j else if x = 80 ∧ j < k then G.2.1 84 j else G.2.1 x j, G.2.2.1, G.2.2.2)
theorem cp_20 (G : mm_T) : cp_2 G 0 = G := by
  obtain ⟨A, I, J, R⟩ := G
  refine congrArg (fun q => (A, q, J, R)) (funext fun x => funext fun j => ?_)
  show (if x = 79 ∧ j < 0 then I 83 j else if x = 80 ∧ j < 0 then I 84 j else I x j) = I x j
  rw [if_neg (by omega), if_neg (by omega)]
theorem cp_2s (G : mm_T) (k : Nat) : ms_I (ms_I (cp_2 G k) 79 k (mm_I G 83 k)) 80 k (mm_I G 84 k) = cp_2 G (k + 1) := by
  obtain ⟨A, I, J, R⟩ := G
  refine congrArg (fun q => (A, q, J, R)) (funext fun x => funext fun j => ?_)
  show (if x = 80 ∧ j = k then I 84 k else if x = 79 ∧ j = k then I 83 k else if x = 79 ∧ j < k then I 83 j else if x = 80 ∧ j < k then I 84 j else I x j) = if x = 79 ∧ j < k + 1 then I 83 j else if x = 80 ∧ j < k + 1 then I 84 j else I x j
  by_cases h1 : x = 80 ∧ j = k
  · rw [if_pos h1, if_neg (by omega), if_pos (by omega), h1.2]
  · rw [if_neg h1]
    by_cases h2 : x = 79 ∧ j = k
    · rw [if_pos h2, if_pos (by omega), h2.2]
    · rw [if_neg h2]
      by_cases h3 : x = 79 ∧ j < k
      · rw [if_pos h3, if_pos (by omega)]
      · rw [if_neg h3]
        by_cases h4 : x = 80 ∧ j < k
        · rw [if_pos h4, if_neg (by omega), if_pos (by omega)]
        · rw [if_neg h4, if_neg (by omega), if_neg (by omega)]
theorem cp_2o (G : mm_T) (k : Nat) {b j : Nat} (h1 : b ≠ 79) (h2 : b ≠ 80) : mm_I (cp_2 G k) b j = mm_I G b j := by
  show (if b = 79 ∧ j < k then mm_I G 83 j else if b = 80 ∧ j < k then mm_I G 84 j else mm_I G b j) = _
  rw [if_neg (fun q => h1 q.1), if_neg (fun q => h2 q.1)]
theorem cp_279 (G : mm_T) {k j : Nat} (h : j < k) : mm_I (cp_2 G k) 79 j = mm_I G 83 j := by
  show (if 79 = 79 ∧ j < k then mm_I G 83 j else if 79 = 80 ∧ j < k then mm_I G 84 j else mm_I G 79 j) = _
  rw [if_pos ⟨rfl, h⟩]
theorem cp_280 (G : mm_T) {k j : Nat} (h : j < k) : mm_I (cp_2 G k) 80 j = mm_I G 84 j := by
  show (if 80 = 79 ∧ j < k then mm_I G 83 j else if 80 = 80 ∧ j < k then mm_I G 84 j else mm_I G 80 j) = _
  rw [if_neg (by omega), if_pos ⟨rfl, h⟩]
def cp_1 (G : mm_T) (a b k : Nat) : mm_T := (G.1, fun x j => if x = a ∧ j < k then G.2.1 b j else G.2.1 x j, G.2.2.1, G.2.2.2)
theorem cp_10 (G : mm_T) (a b : Nat) : cp_1 G a b 0 = G := by
  obtain ⟨A, I, J, R⟩ := G
  refine congrArg (fun q => (A, q, J, R)) (funext fun x => funext fun j => ?_)
  show (if x = a ∧ j < 0 then I b j else I x j) = I x j
  rw [if_neg (by omega)]
theorem cp_1s (G : mm_T) (a b k : Nat) : ms_I (cp_1 G a b k) a k (mm_I G b k) = cp_1 G a b (k + 1) := by
  obtain ⟨A, I, J, R⟩ := G
  refine congrArg (fun q => (A, q, J, R)) (funext fun x => funext fun j => ?_)
  show (if x = a ∧ j = k then I b k else if x = a ∧ j < k then I b j else I x j) = if x = a ∧ j < k + 1 then I b j else I x j
  by_cases h1 : x = a ∧ j = k
  · rw [if_pos h1, if_pos (by omega), h1.2]
  · rw [if_neg h1]
    by_cases h3 : x = a ∧ j < k
    · rw [if_pos h3, if_pos (by omega)]
    · rw [if_neg h3, if_neg (by omega)]
theorem cp_1o (G : mm_T) (a c k : Nat) {b j : Nat} (h1 : b ≠ a) : mm_I (cp_1 G a c k) b j = mm_I G b j := by
  show (if b = a ∧ j < k then mm_I G c j else mm_I G b j) = _
  rw [if_neg (fun q => h1 q.1)]
theorem cp_1y (G : mm_T) (a c : Nat) {k j : Nat} (h : j < k) : mm_I (cp_1 G a c k) a j = mm_I G c j := by
  show (if a = a ∧ j < k then mm_I G c j else mm_I G a j) = _
  rw [if_pos ⟨rfl, h⟩]
theorem lp_cp1 (X : gx_T) (d : Nat) {G : mm_T} {c : Nat} {Q : Option av_T → mm_T → Prop} (hF : fx_R G) (hc : mm_I G 60 32 = c) (h5 : c ≤ 500) (kk : aw_W X mt_Mo_orders (d + 1) 316 [(0, some (av_r (some 60)))] [] (cp_2 G c) 0 0 Q) : ∀ n k, k + n = c → aw_W X mt_Mo_orders (d + 1) 278 [(0, some (av_r (some 60))), (1, some (av_i (k : Int)))] [] (cp_2 G k) 0 0 Q := by
  intro n
  induction n with
  | zero =>
    intro k hk
    have hk : k = c := by omega
    subst hk
    refine ar_iload_n (pc := 278) d_Mo_orders_278 rfl ?_
    refine ar_aload_n (pc := 279) d_Mo_orders_279 rfl ?_
    refine ar_getIv (pc := 280) gf_Mo_273 d_Mo_orders_280 (by first | rfl | exact sh_wheel (by omega) | exact sh_milk (by omega)) (show _ = (k : Int) from hc) (fun r_280 => ?_)
    refine ar_icmp_ge (pc := 283) 316 d_Mo_orders_283 (by decide) ⟨by omega, by omega⟩ ⟨by omega, by omega⟩ (fun h_283 => ?_) (fun h_283 => by exfalso; omega)
    rotate_left
    -- leaves: stop 316
    · exact ar_loc kk ⟨rfl, trivial⟩
  | succ n ih =>
    intro k hk
    have i1 := ih (k + 1) (by omega)
    have es := cp_2s G k
    clear ih kk
    refine ar_iload_n (pc := 278) d_Mo_orders_278 rfl ?_
    refine ar_aload_n (pc := 279) d_Mo_orders_279 rfl ?_
    refine ar_getIv (pc := 280) gf_Mo_273 d_Mo_orders_280 (by first | rfl | exact sh_wheel (by omega) | exact sh_milk (by omega)) (show _ = (c : Int) from hc) (fun r_280 => ?_)
    refine ar_icmp_ge (pc := 283) 316 d_Mo_orders_283 (by decide) ⟨by omega, by omega⟩ ⟨by omega, by omega⟩ (fun h_283 => by exfalso; omega) (fun h_283 => ?_)
    refine ar_aload_n (pc := 286) d_Mo_orders_286 rfl ?_
    refine ar_getR (pc := 287) gf_Mo_65 d_Mo_orders_287 (by first | rfl | exact sh_wheel (by omega) | exact sh_milk (by omega)) (hF _ _ _ rfl) ?_
    refine ar_iload_n (pc := 290) d_Mo_orders_290 rfl ?_
    refine ar_aload_n (pc := 291) d_Mo_orders_291 rfl ?_
    refine ar_getR (pc := 292) gf_Mo_77 d_Mo_orders_292 (by first | rfl | exact sh_wheel (by omega) | exact sh_milk (by omega)) (hF _ _ _ rfl) ?_
    refine ar_iload_n (pc := 295) d_Mo_orders_295 rfl ?_
    refine ar_ialdv (pc := 296) d_Mo_orders_296 rfl (k) (by omega) (by omega) (show _ = mm_I G 83 k from rfl) (fun r_296 => ?_)
    refine ar_iast (pc := 297) d_Mo_orders_297 rfl (k) (by omega) (by omega) r_296 ?_
    refine ar_aload_n (pc := 298) d_Mo_orders_298 rfl ?_
    refine ar_getR (pc := 299) gf_Mo_68 d_Mo_orders_299 (by first | rfl | exact sh_wheel (by omega) | exact sh_milk (by omega)) (hF _ _ _ rfl) ?_
    refine ar_iload_n (pc := 302) d_Mo_orders_302 rfl ?_
    refine ar_aload_n (pc := 303) d_Mo_orders_303 rfl ?_
    refine ar_getR (pc := 304) gf_Mo_80 d_Mo_orders_304 (by first | rfl | exact sh_wheel (by omega) | exact sh_milk (by omega)) (hF _ _ _ rfl) ?_
    refine ar_iload_n (pc := 307) d_Mo_orders_307 rfl ?_
    refine ar_ialdv (pc := 308) d_Mo_orders_308 rfl (k) (by omega) (by omega) (show _ = mm_I G 84 k from rfl) (fun r_308 => ?_)
    refine ar_iast (pc := 309) d_Mo_orders_309 rfl (k) (by omega) (by omega) r_308 ?_
    rw [es]
    refine ar_iinc (pc := 310) d_Mo_orders_310 rfl rfl (by decide) ?_
    refine ar_goto (pc := 313) 278 d_Mo_orders_313 (by decide) ?_
    rotate_left
    -- leaves: stop 278
    · exact ar_loc i1 ⟨rfl, li_i rfl (by omega), trivial⟩
theorem lp_cp2 (X : gx_T) (d : Nat) {G : mm_T} {l : Nat} {Q : Option av_T → mm_T → Prop} (hF : fx_R G) (hc : mm_I G 60 31 = l) (h5 : l ≤ 8) (kk : aw_W X mt_Mo_orders (d + 1) 344 [(0, some (av_r (some 60)))] [] (cp_1 G 82 86 l) 0 0 Q) : ∀ n k, k + n = l → aw_W X mt_Mo_orders (d + 1) 318 [(0, some (av_r (some 60))), (1, some (av_i (k : Int)))] [] (cp_1 G 82 86 k) 0 0 Q := by
  intro n
  induction n with
  | zero =>
    intro k hk
    have hk : k = l := by omega
    subst hk
    refine ar_iload_n (pc := 318) d_Mo_orders_318 rfl ?_
    refine ar_aload_n (pc := 319) d_Mo_orders_319 rfl ?_
    refine ar_getIv (pc := 320) gf_Mo_328 d_Mo_orders_320 (by first | rfl | exact sh_wheel (by omega) | exact sh_milk (by omega)) (show _ = (k : Int) from hc) (fun r_320 => ?_)
    refine ar_icmp_ge (pc := 323) 344 d_Mo_orders_323 (by decide) ⟨by omega, by omega⟩ ⟨by omega, by omega⟩ (fun h_323 => ?_) (fun h_323 => by exfalso; omega)
    rotate_left
    -- leaves: stop 344
    · exact ar_loc kk ⟨rfl, trivial⟩
  | succ n ih =>
    intro k hk
    have i1 := ih (k + 1) (by omega)
    have es := cp_1s G 82 86 k
    clear ih kk
    refine ar_iload_n (pc := 318) d_Mo_orders_318 rfl ?_
    refine ar_aload_n (pc := 319) d_Mo_orders_319 rfl ?_
    refine ar_getIv (pc := 320) gf_Mo_328 d_Mo_orders_320 (by first | rfl | exact sh_wheel (by omega) | exact sh_milk (by omega)) (show _ = (l : Int) from hc) (fun r_320 => ?_)
    refine ar_icmp_ge (pc := 323) 344 d_Mo_orders_323 (by decide) ⟨by omega, by omega⟩ ⟨by omega, by omega⟩ (fun h_323 => by exfalso; omega) (fun h_323 => ?_)
    refine ar_aload_n (pc := 326) d_Mo_orders_326 rfl ?_
    refine ar_getR (pc := 327) gf_Mo_74 d_Mo_orders_327 (by first | rfl | exact sh_wheel (by omega) | exact sh_milk (by omega)) (hF _ _ _ rfl) ?_
    refine ar_iload_n (pc := 330) d_Mo_orders_330 rfl ?_
    refine ar_aload_n (pc := 331) d_Mo_orders_331 rfl ?_
    refine ar_getR (pc := 332) gf_Mo_86 d_Mo_orders_332 (by first | rfl | exact sh_wheel (by omega) | exact sh_milk (by omega)) (hF _ _ _ rfl) ?_
    refine ar_iload_n (pc := 335) d_Mo_orders_335 rfl ?_
    refine ar_ialdv (pc := 336) d_Mo_orders_336 rfl (k) (by omega) (by omega) (show _ = mm_I G 86 k from rfl) (fun r_336 => ?_)
    refine ar_iast (pc := 337) d_Mo_orders_337 rfl (k) (by omega) (by omega) r_336 ?_
    rw [es]
    refine ar_iinc (pc := 338) d_Mo_orders_338 rfl rfl (by decide) ?_
    refine ar_goto (pc := 341) 318 d_Mo_orders_341 (by decide) ?_
    rotate_left
    -- leaves: stop 318
    · exact ar_loc i1 ⟨rfl, li_i rfl (by omega), trivial⟩
theorem lp_cp3 (X : gx_T) (d : Nat) {G : mm_T} {l : Nat} {Q : Option av_T → mm_T → Prop} (hF : fx_R G) (hc : mm_I G 60 31 = l) (h5 : l ≤ 8) (kk : aw_W X mt_Mo_orders (d + 1) 372 [(0, some (av_r (some 60)))] [] (cp_1 G 81 85 (l + 1)) 0 0 Q) : ∀ n k, k + n = l + 1 → aw_W X mt_Mo_orders (d + 1) 346 [(0, some (av_r (some 60))), (1, some (av_i (k : Int)))] [] (cp_1 G 81 85 k) 0 0 Q := by
  intro n
  induction n with
  | zero =>
    intro k hk
    have hk : k = l + 1 := by omega
    subst hk
    refine ar_iload_n (pc := 346) d_Mo_orders_346 rfl ?_
    refine ar_aload_n (pc := 347) d_Mo_orders_347 rfl ?_
    refine ar_getIv (pc := 348) gf_Mo_328 d_Mo_orders_348 (by first | rfl | exact sh_wheel (by omega) | exact sh_milk (by omega)) (show _ = (l : Int) from hc) (fun r_348 => ?_)
    refine ar_icmp_gt (pc := 351) 372 d_Mo_orders_351 (by decide) ⟨by omega, by omega⟩ ⟨by omega, by omega⟩ (fun h_351 => ?_) (fun h_351 => by exfalso; omega)
    rotate_left
    -- leaves: stop 372
    · exact ar_loc kk ⟨rfl, trivial⟩
  | succ n ih =>
    intro k hk
    have i1 := ih (k + 1) (by omega)
    have es := cp_1s G 81 85 k
    clear ih kk
    refine ar_iload_n (pc := 346) d_Mo_orders_346 rfl ?_
    refine ar_aload_n (pc := 347) d_Mo_orders_347 rfl ?_
    refine ar_getIv (pc := 348) gf_Mo_328 d_Mo_orders_348 (by first | rfl | exact sh_wheel (by omega) | exact sh_milk (by omega)) (show _ = (l : Int) from hc) (fun r_348 => ?_)
    refine ar_icmp_gt (pc := 351) 372 d_Mo_orders_351 (by decide) ⟨by omega, by omega⟩ ⟨by omega, by omega⟩ (fun h_351 => by exfalso; omega) (fun h_351 => ?_)
    refine ar_aload_n (pc := 354) d_Mo_orders_354 rfl ?_
    refine ar_getR (pc := 355) gf_Mo_71 d_Mo_orders_355 (by first | rfl | exact sh_wheel (by omega) | exact sh_milk (by omega)) (hF _ _ _ rfl) ?_
    refine ar_iload_n (pc := 358) d_Mo_orders_358 rfl ?_
    refine ar_aload_n (pc := 359) d_Mo_orders_359 rfl ?_
    refine ar_getR (pc := 360) gf_Mo_83 d_Mo_orders_360 (by first | rfl | exact sh_wheel (by omega) | exact sh_milk (by omega)) (hF _ _ _ rfl) ?_
    refine ar_iload_n (pc := 363) d_Mo_orders_363 rfl ?_
    refine ar_ialdv (pc := 364) d_Mo_orders_364 rfl (k) (by omega) (by omega) (show _ = mm_I G 85 k from rfl) (fun r_364 => ?_)
    refine ar_iast (pc := 365) d_Mo_orders_365 rfl (k) (by omega) (by omega) r_364 ?_
    rw [es]
    refine ar_iinc (pc := 366) d_Mo_orders_366 rfl rfl (by decide) ?_
    refine ar_goto (pc := 369) 346 d_Mo_orders_369 (by decide) ?_
    rotate_left
    -- leaves: stop 346
    · exact ar_loc i1 ⟨rfl, li_i rfl (by omega), trivial⟩
/-- the reference keeps a new program -/
def mf_F (G G' : mm_T) (o : List Int) (l : Nat) (le : Nat → Nat) (dd : Nat → Int) : Prop := (mm_R G' = mm_R G ∧ mm_A G' = mm_A G) ∧ (∀ b j, ¬ (b = 60 ∧ (j = 26 ∨ j = 31 ∨ j = 32 ∨ j = 33 ∨ j = 38 ∨ j = 40 ∨ j = 41 ∨ j = 42 ∨ j = 45 ∨ j = 46)) → b ≠ 79 → b ≠ 80 → b ≠ 81 → b ≠ 82 → b ≠ 83 → b ≠ 84 → b ≠ 85 → b ≠ 86 → b ≠ 88 → mm_I G' b j = mm_I G b j) ∧ (∀ b j, ¬ (b = 60 ∧ j = 43) → mm_J G' b j = mm_J G b j) ∧ mm_I G' 60 26 = l ∧ (∀ j, j ≤ l → mm_I G' 81 j = le j) ∧ (∀ j, j < l → mm_I G' 82 j = dd j - 2) ∧ ∀ k, k < o.length → it_R (o.getD k 0) (mm_I G' 79 k) (mm_I G' 80 k)
theorem mf_of {B : Nat → Int} {z : Nat} {G G1 : mm_T} {i v : Nat} {o : List Int} {l : Nat} {le : Nat → Nat} {dd : Nat → Int} (h : mj_F B z G G1 i v o l (l + 1) le l dd) : mf_F G (ms_I (cp_1 (cp_1 (cp_2 G1 o.length) 82 86 l) 81 85 (l + 1)) 60 26 l) o l le dd := by
  obtain ⟨h1, h2, h3, ⟨h4, h5, h6, h7⟩, h8, h9, h10⟩ := h
  refine ⟨h1, fun b j b1 b2 b3 b4 b5 b6 b7 b8 b9 b10 => ?_, h3, mi_s _ _ _ _, fun j hj => ?_, fun j hj => ?_, fun k hk => ?_⟩
  · rw [mi_n (by omega), cp_1o _ _ _ _ b4, cp_1o _ _ _ _ b5, cp_2o _ _ b2 b3]
    exact h2 b j (by omega) b6 b7 b8 b9 b10
  · rw [mi_n (by omega), cp_1y _ _ _ (by omega), cp_1o _ _ _ _ (by omega), cp_2o _ _ (by omega) (by omega)]; exact h9 j (by omega)
  · rw [mi_n (by omega), cp_1o _ _ _ _ (by omega), cp_1y _ _ _ hj, cp_2o _ _ (by omega) (by omega)]; exact h10 j hj
  · rw [mi_n (by omega), mi_n (by omega), cp_1o _ _ _ _ (by omega), cp_1o _ _ _ _ (by omega), cp_1o _ _ _ _ (by omega), cp_1o _ _ _ _ (by omega), cp_279 _ hk, cp_280 _ hk]; exact h7 k hk
theorem lp_Mo_end (X : gx_T) (d : Nat) {B : Nat → Int} {z n : Nat} {G G1 : mm_T} {i v : Nat} {o : List Int} {l : Nat} {le : Nat → Nat} {dd : Nat → Int} (hF : fx_R G) (hz : mm_I G 60 39 = z) (hB : mb_v G = B) (h0 : mm_I G 60 36 = 0) (hE : te_E B z n) (h : mj_F B z G G1 i v o l l le l dd) (hI : lq_I n i v o l le) (k301 : tn_K B z i = 301) : aw_W X mt_Mo_orders (d + 1) 47 [(0, some (av_r (some 60)))] [] G1 0 0 (fun r G' => r = some (av_i (l : Nat)) ∧ mf_F G G' o l le dd) := by
  obtain ⟨hF1, -, -, e36⟩ := mj_w h hF hz hB h0
  obtain ⟨i1, i2, i3, i4, i5⟩ := hI
  have n5 := hE.1
  have t2 := h.2.2.2.1.1.2.1
  unfold tw_R at t2
  rw [is_sv] at t2
  have hs : mm_I G1 60 40 = 0 := by omega
  have ha := mj_at h i5
  have e31 := h.2.2.2.2.1
  have e32 := h.2.2.2.1.2.2.1
  have fin := mf_of ha
  have e31' := ha.2.2.2.2.1
  have e32' := ha.2.2.2.1.2.2.1
  have hF5 : fx_R (ms_I G1 85 l (o.length : Nat)) := hF1
  clear ha t2
  have k3 : aw_W X mt_Mo_orders (d + 1) 372 [(0, some (av_r (some 60)))] [] (cp_1 (cp_1 (cp_2 (ms_I G1 85 l (o.length : Nat)) o.length) 82 86 l) 81 85 (l + 1)) 0 0 (fun r G' => r = some (av_i (l : Nat)) ∧ mf_F G G' o l le dd) := by
    refine ar_aload_n (pc := 372) d_Mo_orders_372 rfl ?_
    refine ar_aload_n (pc := 373) d_Mo_orders_373 rfl ?_
    refine ar_getIv (pc := 374) gf_Mo_328 d_Mo_orders_374 (by first | rfl | exact sh_wheel (by omega) | exact sh_milk (by omega)) (show _ = (l : Int) from e31') (fun r_374 => ?_)
    refine ar_putI (pc := 377) gf_Mo_334 d_Mo_orders_377 rfl (by first | rfl | exact sh_wheel (by omega) | exact sh_milk (by omega)) ⟨by omega, by omega⟩ ?_
    refine ar_aload_n (pc := 380) d_Mo_orders_380 rfl ?_
    refine ar_getIv (pc := 381) gf_Mo_334 d_Mo_orders_381 (by first | rfl | exact sh_wheel (by omega) | exact sh_milk (by omega)) (show _ = (l : Int) from mi_s _ _ _ _) (fun r_381 => ?_)
    refine ar_iret (pc := 384) d_Mo_orders_384 rfl ?_
    rotate_left
    -- leaves: ret 384
    · exact ⟨rfl, fin⟩
  have k2 := lp_cp3 X d (G := cp_1 (cp_2 (ms_I G1 85 l (o.length : Nat)) o.length) 82 86 l) (by exact hF5) (by exact e31') i4 k3 (l + 1) 0 (by omega)
  rw [cp_10] at k2
  have k2' : aw_W X mt_Mo_orders (d + 1) 344 [(0, some (av_r (some 60)))] [] (cp_1 (cp_2 (ms_I G1 85 l (o.length : Nat)) o.length) 82 86 l) 0 0 (fun r G' => r = some (av_i (l : Nat)) ∧ mf_F G G' o l le dd) := by
    refine ar_iconst (pc := 344) d_Mo_orders_344 ?_
    refine ar_istore_n (pc := 345) d_Mo_orders_345 rfl (by decide) ?_
    rotate_left
    -- leaves: stop 346
    · exact ar_loc k2 ⟨rfl, rfl, trivial⟩
  have k1 := lp_cp2 X d (G := cp_2 (ms_I G1 85 l (o.length : Nat)) o.length) (by exact hF5) (by exact e31') i4 k2' l 0 (by omega)
  rw [cp_10] at k1
  have k1' : aw_W X mt_Mo_orders (d + 1) 316 [(0, some (av_r (some 60)))] [] (cp_2 (ms_I G1 85 l (o.length : Nat)) o.length) 0 0 (fun r G' => r = some (av_i (l : Nat)) ∧ mf_F G G' o l le dd) := by
    refine ar_iconst (pc := 316) d_Mo_orders_316 ?_
    refine ar_istore_n (pc := 317) d_Mo_orders_317 rfl (by decide) ?_
    rotate_left
    -- leaves: stop 318
    · exact ar_loc k1 ⟨rfl, rfl, trivial⟩
  have k0 := lp_cp1 X d (G := ms_I G1 85 l (o.length : Nat)) hF5 e32' (by omega) k1' o.length 0 (by omega)
  rw [cp_20] at k0
  clear k1 k1' k2 k2' k3 fin
  have hF := hF1
  refine ar_aload_n (pc := 47) d_Mo_orders_47 rfl ?_
  refine ar_getIv (pc := 48) gf_Mo_234 d_Mo_orders_48 (by first | rfl | exact sh_wheel (by omega) | exact sh_milk (by omega)) e36 (fun r_48 => ?_)
  refine ar_if_ne (pc := 51) 254 d_Mo_orders_51 (by decide) ⟨by omega, by omega⟩ (fun h_51 => by exfalso; omega) (fun h_51 => ?_)
  refine ar_aload_n (pc := 54) d_Mo_orders_54 rfl ?_
  refine ar_getIv (pc := 55) gf_Mo_222 d_Mo_orders_55 (by first | rfl | exact sh_wheel (by omega) | exact sh_milk (by omega)) hs (fun r_55 => ?_)
  refine ar_if_eq (pc := 58) 254 d_Mo_orders_58 (by decide) ⟨by omega, by omega⟩ (fun h_58 => ?_) (fun h_58 => by exfalso; omega)
  refine ar_aload_n (pc := 254) d_Mo_orders_254 rfl ?_
  refine ar_getIv (pc := 255) gf_Mo_234 d_Mo_orders_255 (by first | rfl | exact sh_wheel (by omega) | exact sh_milk (by omega)) e36 (fun r_255 => ?_)
  refine ar_if_le (pc := 258) 263 d_Mo_orders_258 (by decide) ⟨by omega, by omega⟩ (fun h_258 => ?_) (fun h_258 => by exfalso; omega)
  refine ar_aload_n (pc := 263) d_Mo_orders_263 rfl ?_
  refine ar_getR (pc := 264) gf_Mo_83 d_Mo_orders_264 (by first | rfl | exact sh_wheel (by omega) | exact sh_milk (by omega)) (hF _ _ _ rfl) ?_
  refine ar_aload_n (pc := 267) d_Mo_orders_267 rfl ?_
  refine ar_getIv (pc := 268) gf_Mo_328 d_Mo_orders_268 (by first | rfl | exact sh_wheel (by omega) | exact sh_milk (by omega)) e31 (fun r_268 => ?_)
  refine ar_aload_n (pc := 271) d_Mo_orders_271 rfl ?_
  refine ar_getIv (pc := 272) gf_Mo_273 d_Mo_orders_272 (by first | rfl | exact sh_wheel (by omega) | exact sh_milk (by omega)) e32 (fun r_272 => ?_)
  refine ar_iast (pc := 275) d_Mo_orders_275 rfl (l) (by omega) (by omega) ⟨by omega, by omega⟩ ?_
  refine ar_iconst (pc := 276) d_Mo_orders_276 ?_
  refine ar_istore_n (pc := 277) d_Mo_orders_277 rfl (by decide) ?_
  rotate_left
  -- leaves: stop 278
  · exact ar_loc k0 ⟨rfl, rfl, trivial⟩
theorem lp_Mo_ordersk (X : gx_T) (d : Nat) {B : Nat → Int} {z n : Nat} {G : mm_T} {o' : List Int} {l' : Nat} {le' : Nat → Nat} {dd' : Nat → Int} (hF : fx_R G) (hz : mm_I G 60 39 = z) (bb : bb_B B z) (hB : mb_v G = B) (h0 : mm_I G 60 36 = 0) (hE : te_E B z n) : ∀ m i v o l le dd G1, dr_ok (tn_K B z) (pl_i B z) (tn_M B z) o' l' le' dd' m i v o l le dd → lq_I n i v o l le → mj_F B z G G1 i v o l l le l dd → aw_W X mt_Mo_orders (d + 6) 47 [(0, some (av_r (some 60)))] [] G1 0 0 (fun r G' => r = some (av_i (l' : Nat)) ∧ mf_F G G' o' l' le' dd') := by
  intro m
  induction m with
  | zero =>
    intro i v o l le dd G1 hd hI h
    obtain ⟨k301, rfl, rfl, rfl, rfl⟩ := hd
    exact lp_Mo_end X (d + 5) hF hz hB h0 hE h hI k301
  | succ m ih =>
    intro i v o l le dd G1 hd hI h
    obtain ⟨hl, k301, i1, v1, o1, q, hk, hd⟩ := hd
    exact mo_line X d hF hz bb hB h0 hE h hI hl hk (fun G2 h2 => ih _ _ _ _ _ _ G2 hd (ln_q bb hE hI hl hk).1 h2)
/-- the reference's memory as its orders() begins to read -/
def mi_G (G : mm_T) (z : Nat) : mm_T := ms_I (ms_I (ms_I (ms_I (ms_I (ms_I (ms_I (ms_I G 60 39 z) 60 35 0) 60 38 0) 60 36 0) 60 37 (-1)) 60 31 0) 60 32 0) 60 33 0
theorem mi_Gw {G : mm_T} {z : Nat} {B : Nat → Int} (hF : fx_R G) (hB : ∀ k, (if k < z then mm_I G 87 k else -1) = B k) : fx_R (mi_G G z) ∧ mm_I (mi_G G z) 60 39 = z ∧ mb_v (mi_G G z) = B ∧ mm_I (mi_G G z) 60 36 = 0 := by
  refine ⟨hF, rfl, ?_, rfl⟩
  funext k
  rw [← hB k]
  show (if (k : Int) < (z : Int) then mm_I G 87 k else -1) = _
  by_cases h : k < z
  · rw [if_pos (by omega), if_pos h]
  · rw [if_neg (by omega), if_neg h]
theorem mi_j {G G1 : mm_T} {z : Nat} {B : Nat → Int} (h : nx_F B z (mi_G G z) G1 (ps_k B z 0)) : mj_F B z (mi_G G z) G1 0 0 [] 0 0 z0_n 0 z0_i := by
  obtain ⟨g1, g2, g3, g4, g5, g6, g7⟩ := h
  refine ⟨g1, fun b j b1 b2 b3 b4 b5 b6 => g2 b j (by omega), g3, ⟨⟨g4, g5, g6, g7⟩, ?_, ?_, fun k hk => absurd hk (by simp)⟩, ?_, fun j hj => absurd hj (by omega), fun j hj => absurd hj (by omega)⟩
  · rw [g2 _ _ (by omega)]; rfl
  · rw [g2 _ _ (by omega)]; rfl
  · rw [g2 _ _ (by omega)]; rfl
theorem cm_Mo_orders (X : gx_T) (d : Nat) (G : mm_T) {B : Nat → Int} {z n : Nat} {Q : Option av_T → mm_T → Prop} (hF : fx_R G) (hz : mm_I G 60 35 = z) (bb : bb_B B z) (hB : ∀ k, (if k < z then mm_I G 87 k else -1) = B k)
    (kk : ∀ G1, mj_F B z (mi_G G z) G1 0 0 [] 0 0 z0_n 0 z0_i → aw_W X mt_Mo_orders (d + 6) 47 [(0, some (av_r (some 60)))] [] G1 0 0 Q) : aw_M X (d + 6) mt_Mo_orders [av_r (some 60)] G 0 0 Q := by
  obtain ⟨hF0, hz0, hB0, -⟩ := mi_Gw hF hB
  have z5 := bb.1
  have c44 := cm_Mo_next X (d + 3) (mi_G G z) (a := 0) hF0 hz0 bb hB0 rfl (by omega)
  unfold mi_G at c44
  refine aw_enter pf_Mo_orders (Nat.le_of_ble_eq_true rfl) ?_
  refine ar_aload_n (pc := 0) d_Mo_orders_0 rfl ?_
  refine ar_aload_n (pc := 1) d_Mo_orders_1 rfl ?_
  refine ar_getIv (pc := 2) gf_Mo_196 d_Mo_orders_2 (by first | rfl | exact sh_wheel (by omega) | exact sh_milk (by omega)) hz (fun r_2 => ?_)
  refine ar_putI (pc := 5) gf_Mo_206 d_Mo_orders_5 rfl (by first | rfl | exact sh_wheel (by omega) | exact sh_milk (by omega)) ⟨by omega, by omega⟩ ?_
  refine ar_aload_n (pc := 8) d_Mo_orders_8 rfl ?_
  refine ar_iconst (pc := 9) d_Mo_orders_9 ?_
  refine ar_putI (pc := 10) gf_Mo_196 d_Mo_orders_10 rfl (by first | rfl | exact sh_wheel (by omega) | exact sh_milk (by omega)) ⟨by omega, by omega⟩ ?_
  refine ar_aload_n (pc := 13) d_Mo_orders_13 rfl ?_
  refine ar_iconst (pc := 14) d_Mo_orders_14 ?_
  refine ar_putI (pc := 15) gf_Mo_203 d_Mo_orders_15 rfl (by first | rfl | exact sh_wheel (by omega) | exact sh_milk (by omega)) ⟨by omega, by omega⟩ ?_
  refine ar_aload_n (pc := 18) d_Mo_orders_18 rfl ?_
  refine ar_iconst (pc := 19) d_Mo_orders_19 ?_
  refine ar_putI (pc := 20) gf_Mo_234 d_Mo_orders_20 rfl (by first | rfl | exact sh_wheel (by omega) | exact sh_milk (by omega)) ⟨by omega, by omega⟩ ?_
  refine ar_aload_n (pc := 23) d_Mo_orders_23 rfl ?_
  refine ar_iconst (pc := 24) d_Mo_orders_24 ?_
  refine ar_putI (pc := 25) gf_Mo_92 d_Mo_orders_25 rfl (by first | rfl | exact sh_wheel (by omega) | exact sh_milk (by omega)) ⟨by omega, by omega⟩ ?_
  refine ar_aload_n (pc := 28) d_Mo_orders_28 rfl ?_
  refine ar_iconst (pc := 29) d_Mo_orders_29 ?_
  refine ar_putI (pc := 30) gf_Mo_328 d_Mo_orders_30 rfl (by first | rfl | exact sh_wheel (by omega) | exact sh_milk (by omega)) ⟨by omega, by omega⟩ ?_
  refine ar_aload_n (pc := 33) d_Mo_orders_33 rfl ?_
  refine ar_iconst (pc := 34) d_Mo_orders_34 ?_
  refine ar_putI (pc := 35) gf_Mo_273 d_Mo_orders_35 rfl (by first | rfl | exact sh_wheel (by omega) | exact sh_milk (by omega)) ⟨by omega, by omega⟩ ?_
  refine ar_aload_n (pc := 38) d_Mo_orders_38 rfl ?_
  refine ar_iconst (pc := 39) d_Mo_orders_39 ?_
  refine ar_putI (pc := 40) gf_Mo_315 d_Mo_orders_40 rfl (by first | rfl | exact sh_wheel (by omega) | exact sh_milk (by omega)) ⟨by omega, by omega⟩ ?_
  refine ar_aload_n (pc := 43) d_Mo_orders_43 rfl ?_
  refine ac_virt (pc := 44) (N := mt_Mo_next) _ _ mv_Mo_next ml_Mo_318 ck_12 d_Mo_orders_44 c44 (by first | rfl | exact sh_wheel (by omega) | exact sh_milk (by omega)) rfl rfl (Nat.le_of_ble_eq_true rfl) (Nat.le_of_eq (Nat.zero_add _)) (Nat.le_of_eq (Nat.zero_add _)) (fun r_44 G_44 h_44 => ?_)
  obtain ⟨rfl, q44⟩ := h_44
  rotate_left
  -- leaves: stop 47
  · exact ar_loc (kk _ (mi_j q44)) ⟨rfl, trivial⟩
theorem cm_Mo_ordersk (X : gx_T) (d : Nat) (G : mm_T) {B : Nat → Int} {z n m : Nat} {o : List Int} {l : Nat} {le : Nat → Nat} {dd : Nat → Int} (hF : fx_R G) (hz : mm_I G 60 35 = z) (bb : bb_B B z) (hB : ∀ k, (if k < z then mm_I G 87 k else -1) = B k) (hE : te_E B z n) (hd : dr_ok (tn_K B z) (pl_i B z) (tn_M B z) o l le dd m 0 0 [] 0 z0_n z0_i) : aw_M X (d + 6) mt_Mo_orders [av_r (some 60)] G 0 0 (fun r G' => r = some (av_i (l : Nat)) ∧ mf_F (mi_G G z) G' o l le dd) := by
  obtain ⟨hF0, hz0, hB0, h0⟩ := mi_Gw hF hB
  exact cm_Mo_orders X d G (n := n) hF hz bb hB (fun G1 h1 => lp_Mo_ordersk X d hF0 hz0 bb hB0 h0 hE m 0 0 [] 0 z0_n z0_i G1 hd ⟨by omega, by omega, by simp, by omega, rfl⟩ h1)
theorem cm_Mo_ordersb (X : gx_T) (d : Nat) (G : mm_T) {B : Nat → Int} {z n m : Nat} {k p : Int} (hF : fx_R G) (hz : mm_I G 60 35 = z) (bb : bb_B B z) (hB : ∀ k, (if k < z then mm_I G 87 k else -1) = B k) (hE : te_E B z n) (hd : dr_bad (tn_K B z) (pl_i B z) (tn_M B z) k p m 0 0 [] 0) : aw_M X (d + 6) mt_Mo_orders [av_r (some 60)] G 0 0 (fun r G' => r = some (av_i (-1)) ∧ mjb_F (mi_G G z) G' k p) := by
  obtain ⟨hF0, hz0, hB0, h0⟩ := mi_Gw hF hB
  exact cm_Mo_orders X d G (n := n) hF hz bb hB (fun G1 h1 => lp_Mo_ordersb X d hF0 hz0 bb hB0 h0 hE m 0 0 [] 0 z0_n z0_i G1 hd ⟨by omega, by omega, by simp, by omega, rfl⟩ h1)
/-- a program that was read can be worked out -/
theorem dr_pg {B : Nat → Int} {z n : Nat} {o' : List Int} {l' : Nat} {le' : Nat → Nat} {dd' : Nat → Int} {f : Nat → Int} (bb : bb_B B z) (hE : te_E B z n) (hf : ∀ k, k < o'.length → f k = o'.getD k 0) : ∀ m i v o l le dd, dr_ok (tn_K B z) (pl_i B z) (tn_M B z) o' l' le' dd' m i v o l le dd → lq_I n i v o l le → (∃ e, o' = o ++ e) ∧ (l ≤ l' ∧ l' ≤ 8) ∧ (∀ j, j ≤ l → le' j = le j) ∧ (∀ j, j < l → dd' j = dd j) ∧ o'.length ≤ 500 ∧ le' l' = o'.length ∧ ∀ j, l ≤ j → j < l' → le' j ≤ le' (j + 1) ∧ le' (j + 1) ≤ 500 ∧ wf_p f (le' (j + 1) - le' j) (le' j) 0 ∧ (dd' j = 2 ∨ dd' j = 3 ∨ dd' j = 4) := by
  intro m
  induction m with
  | zero =>
    intro i v o l le dd hd hI
    obtain ⟨k301, rfl, rfl, rfl, rfl⟩ := hd
    have := hE.1
    exact ⟨⟨[], by simp⟩, ⟨Nat.le_refl _, hI.2.2.2.1⟩, fun _ _ => rfl, fun _ _ => rfl, by have := hI.1; have := hI.2.2.1; omega, hI.2.2.2.2, fun j h1 h2 => by omega⟩
  | succ m ih =>
    intro i v o l le dd hd hI
    obtain ⟨hl, k301, i1, v1, o1, q, hk, hd⟩ := hd
    obtain ⟨hI2, e, he1, he2⟩ := ln_q bb hE hI hl hk
    obtain ⟨⟨e2, g1⟩, g2, g3, g4, g5, g6, g7⟩ := ih i1 v1 o1 (l + 1) _ _ hd hI2
    have hll : le' l = o.length := by rw [g3 l (by omega)]; unfold upn; rw [if_neg (by omega)]; exact hI.2.2.2.2
    have hl1 : le' (l + 1) = o1.length := by rw [g3 (l + 1) (by omega)]; unfold upn; rw [if_pos rfl]
    refine ⟨⟨e ++ e2, by rw [g1, he1, List.append_assoc]⟩, ⟨by omega, g2.2⟩, fun j hj => ?_, fun j hj => ?_, g5, g6, fun j h1 h2 => ?_⟩
    · rw [g3 j (by omega)]; unfold upn; rw [if_neg (by omega)]
    · rw [g4 j (by omega)]; unfold upp; rw [if_neg (by omega)]
    · by_cases ej : j = l
      · subst ej
        have ln1 : o1.length = o.length + e.length := by rw [he1, List.length_append]
        have ln2 : o'.length = o1.length + e2.length := by rw [g1, List.length_append]
        refine ⟨by omega, by omega, ?_, ?_⟩
        · rw [hl1, hll, show o1.length - o.length = e.length by omega]
          refine wq_p e o.length 0 (fun k hk => ?_) he2
          rw [hf _ (by omega), g1, he1]
          rw [List.getD_eq_getElem?_getD, List.getD_eq_getElem?_getD, List.append_assoc, List.getElem?_append_right (by omega), List.getElem?_append_left (by omega)]
          congr 2; omega
        · rw [g4 j (by omega)]
          unfold upp; rw [if_pos rfl]
          obtain ⟨-, i2, -, -, -, hq3, -⟩ := hk
          exact hq3
      · exact g7 j (by omega) h2
theorem dr_pg0 {B : Nat → Int} {z n m : Nat} {o : List Int} {l : Nat} {le : Nat → Nat} {dd : Nat → Int} {f : Nat → Int} (bb : bb_B B z) (hE : te_E B z n) (hf : ∀ k, k < o.length → f k = o.getD k 0) (hd : dr_ok (tn_K B z) (pl_i B z) (tn_M B z) o l le dd m 0 0 [] 0 z0_n z0_i) : pg_W f le dd l ∧ le l = o.length := by
  obtain ⟨-, h2, h3, -, -, h6, h7⟩ := dr_pg bb hE hf m 0 0 [] 0 z0_n z0_i hd ⟨by omega, by omega, by simp, by omega, rfl⟩
  exact ⟨⟨h2.2, h3 0 (by omega), fun j hj => h7 j (by omega) hj⟩, h6⟩
