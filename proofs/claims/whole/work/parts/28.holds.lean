/-! ===== working out a line: the reference ===== -/
def it_R (z a b : Int) : Prop := (0 ≤ z ∧ a = 0 ∧ b = z) ∨ ((-18 ≤ z ∧ z ≤ -9) ∧ a = 11 - z) ∨ (z = -8 ∧ a = 40) ∨ (z = -6 ∧ a = 41) ∨ (z = -7 ∧ a = 42) ∨ (z = -62 ∧ a = 43) ∨ (z = -61 ∧ a = 44) ∨ (z = -63 ∧ a = 45) ∨ (z = -44 ∧ a = 46) ∨ (z = -46 ∧ a = 47)
theorem rs_89 (G : mm_T) (p : Nat → Int) {j : Nat} (v : Int) (h : j < 300) : ms_I (ms_row G 89 300 p) 89 j v = ms_row G 89 300 (upp p j v) := row_set _ _ _ _ _ h
def hv_Q (G : mm_T) (f : Nat → Int) (n a : Nat) (p : Nat → Int) (h : Nat) (r : Option av_T) (G' : mm_T) : Prop := r = some (av_i (if ev_n (fun z => mm_I G 90 (-9 - z).toNat) f n a p h 0 = 0 then 0 else 1)) ∧ G' = ms_row G 89 300 (ev_n (fun z => mm_I G 90 (-9 - z).toNat) f n a p h)
theorem hv_s (G : mm_T) (f : Nat → Int) (n a : Nat) (p : Nat → Int) (h : Nat) : hv_Q G f (n + 1) a p h = hv_Q G f n (a + 1) (ev_s (fun z => mm_I G 90 (-9 - z).toNat) (f a) p h).1 (ev_s (fun z => mm_I G 90 (-9 - z).toNat) (f a) p h).2 := rfl
theorem lp_Mo_holds (X : gx_T) (d : Nat) (G : mm_T) {f : Nat → Int} {i e : Nat} (hF : fx_R G) (hi : i < 8) (he : mm_I G 81 (i + 1) = e) (he5 : e ≤ 500) : ∀ n a p h, a + n = e → h ≤ 80 → wf_p f n a h → (∀ k, a ≤ k → k < e → it_R (f k) (mm_I G 79 k) (mm_I G 80 k)) → aw_W X mt_Mo_holds (d + 1) 9 [(0, some (av_r (some 60))), (1, some (av_i (i : Int))), (2, some (av_i (h : Int))), (3, some (av_i (a : Int)))] [] (ms_row G 89 300 p) 0 0 (hv_Q G f n a p h) := by
  intro n
  induction n with
  | zero =>
    intro a p h ha hh hw hit
    have hw : h = 1 := hw
    subst hw
    have ha : a = e := by omega
    subst ha
    have r0 : mm_I (ms_row G 89 300 p) 89 0 = p 0 := row_at _ _ _ _ (by omega)
    refine ar_iload_n (pc := 9) d_Mo_holds_9 rfl ?_
    refine ar_aload_n (pc := 10) d_Mo_holds_10 rfl ?_
    refine ar_getR (pc := 11) gf_Mo_71 d_Mo_holds_11 (by first | rfl | exact sh_wheel (by omega) | exact sh_milk (by omega)) (hF _ _ _ rfl) ?_
    refine ar_iload_n (pc := 14) d_Mo_holds_14 rfl ?_
    refine ar_iconst (pc := 15) d_Mo_holds_15 ?_
    refine ar_iadd (pc := 16) d_Mo_holds_16 ?_
    refine ar_ialdv (pc := 17) d_Mo_holds_17 rfl (i+1) (by omega) (by omega) (show _ = (a : Int) from he) (fun r_17 => ?_)
    refine ar_icmp_ge (pc := 18) 324 d_Mo_holds_18 (by decide) ⟨by omega, by omega⟩ ⟨by omega, by omega⟩ (fun h_18 => ?_) (fun h_18 => by exfalso; omega)
    refine ar_aload_n (pc := 324) d_Mo_holds_324 rfl ?_
    refine ar_getR (pc := 325) gf_Mo_99 d_Mo_holds_325 (by first | rfl | exact sh_wheel (by omega) | exact sh_milk (by omega)) (hF _ _ _ rfl) ?_
    refine ar_iconst (pc := 328) d_Mo_holds_328 ?_
    refine ar_ialdv (pc := 329) d_Mo_holds_329 rfl (0) (by omega) (by omega) r0 (fun r_329 => ?_)
    refine ar_if_eq (pc := 330) 337 d_Mo_holds_330 (by decide) ⟨by omega, by omega⟩ (fun h_330 => ?_) (fun h_330 => ?_)
    refine ar_iconst (pc := 337) d_Mo_holds_337 ?_
    refine ar_zret (pc := 338) d_Mo_holds_338 rfl (by omega) ?_
    rotate_left
    refine ar_iconst (pc := 333) d_Mo_holds_333 ?_
    refine ar_goto (pc := 334) 338 d_Mo_holds_334 (by decide) ?_
    refine ar_zret (pc := 338) d_Mo_holds_338 rfl (by omega) ?_
    rotate_left
    -- leaves: ret 338, ret 338
    · refine ⟨?_, rfl⟩; show _ = some (av_i (if p 0 = 0 then 0 else 1)); rw [if_pos (by omega)]
    · refine ⟨?_, rfl⟩; show _ = some (av_i (if p 0 = 0 then 0 else 1)); rw [if_neg (by omega)]
  | succ n ih =>
    intro a p h ha hh hw hit
    rw [wf_p] at hw
    rw [hv_s]
    have ih := fun p h h1 h2 => ih (a + 1) p h (by omega) h1 h2 (fun k hk => hit k (by omega))
    have hi1 := hit a (by omega) (by omega)
    clear hit
    have e17 : mm_I (ms_row G 89 300 p) 81 (i + 1) = (e : Int) := he
    unfold it_R at hi1
    rcases hw with ⟨h1, h2, h3⟩ | ⟨h1, h2, h3⟩ | ⟨h1, h2, h3⟩
    · by_cases hz : 0 ≤ f a
      · have i1 := ih (upp p h (f a)) (h + 1) (by omega) h3
        have es : ev_s (fun z => mm_I G 90 (-9 - z).toNat) (f a) p h = (upp p h (f a), h + 1) := by unfold ev_s; rw [if_pos hz]
        rw [es]
        dsimp only
        have e1 : mm_I G 79 a = 0 := by omega
        have e2 : mm_I G 80 a = f a := by omega
        have rs := rs_89 G p (j := h) (f a) (by omega)
        clear ih es h3 hi1 h1
        refine ar_iload_n (pc := 9) d_Mo_holds_9 rfl ?_
        refine ar_aload_n (pc := 10) d_Mo_holds_10 rfl ?_
        refine ar_getR (pc := 11) gf_Mo_71 d_Mo_holds_11 (by first | rfl | exact sh_wheel (by omega) | exact sh_milk (by omega)) (hF _ _ _ rfl) ?_
        refine ar_iload_n (pc := 14) d_Mo_holds_14 rfl ?_
        refine ar_iconst (pc := 15) d_Mo_holds_15 ?_
        refine ar_iadd (pc := 16) d_Mo_holds_16 ?_
        refine ar_ialdv (pc := 17) d_Mo_holds_17 rfl (i+1) (by omega) (by omega) e17 (fun r_17 => ?_)
        refine ar_icmp_ge (pc := 18) 324 d_Mo_holds_18 (by decide) ⟨by omega, by omega⟩ ⟨by omega, by omega⟩ (fun h_18 => by exfalso; omega) (fun h_18 => ?_)
        refine ar_aload_n (pc := 21) d_Mo_holds_21 rfl ?_
        refine ar_getR (pc := 22) gf_Mo_65 d_Mo_holds_22 (by first | rfl | exact sh_wheel (by omega) | exact sh_milk (by omega)) (hF _ _ _ rfl) ?_
        refine ar_iload_n (pc := 25) d_Mo_holds_25 rfl ?_
        refine ar_ialdv (pc := 26) d_Mo_holds_26 rfl (a) (by omega) (by omega) (show _ = (0 : Int) from e1) (fun r_26 => ?_)
        refine ar_istore (pc := 27) d_Mo_holds_27 rfl (by decide) ?_
        refine ar_iload (pc := 29) d_Mo_holds_29 rfl ?_
        refine ar_bipush (pc := 31) d_Mo_holds_31 (by decide) ?_
        refine ar_icmp_ge (pc := 33) 72 d_Mo_holds_33 (by decide) ⟨by omega, by omega⟩ ⟨by omega, by omega⟩ (fun h_33 => by exfalso; omega) (fun h_33 => ?_)
        refine ar_aload_n (pc := 36) d_Mo_holds_36 rfl ?_
        refine ar_getR (pc := 37) gf_Mo_99 d_Mo_holds_37 (by first | rfl | exact sh_wheel (by omega) | exact sh_milk (by omega)) (hF _ _ _ rfl) ?_
        refine ar_iload_n (pc := 40) d_Mo_holds_40 rfl ?_
        refine ar_iload (pc := 41) d_Mo_holds_41 rfl ?_
        refine ar_if_ne (pc := 43) 55 d_Mo_holds_43 (by decide) ⟨by omega, by omega⟩ (fun h_43 => by exfalso; omega) (fun h_43 => ?_)
        refine ar_aload_n (pc := 46) d_Mo_holds_46 rfl ?_
        refine ar_getR (pc := 47) gf_Mo_68 d_Mo_holds_47 (by first | rfl | exact sh_wheel (by omega) | exact sh_milk (by omega)) (hF _ _ _ rfl) ?_
        refine ar_iload_n (pc := 50) d_Mo_holds_50 rfl ?_
        refine ar_ialdv (pc := 51) d_Mo_holds_51 rfl (a) (by omega) (by omega) (show _ = f a from e2) (fun r_51 => ?_)
        refine ar_goto (pc := 52) 65 d_Mo_holds_52 (by decide) ?_
        refine ar_iast (pc := 65) d_Mo_holds_65 rfl (h) (by omega) (by omega) ⟨by omega, by omega⟩ ?_
        rw [rs]
        refine ar_iinc (pc := 66) d_Mo_holds_66 rfl rfl (by decide) ?_
        refine ar_goto (pc := 69) 318 d_Mo_holds_69 (by decide) ?_
        refine ar_iinc (pc := 318) d_Mo_holds_318 rfl rfl (by decide) ?_
        refine ar_goto (pc := 321) 9 d_Mo_holds_321 (by decide) ?_
        rotate_left
        -- leaves: stop 9
        · exact ar_loc i1 ⟨rfl, rfl, li_i rfl (by omega), li_i rfl (by omega), trivial⟩
      · have i1 := ih (upp p h (mm_I G 90 (-9 - f a).toNat)) (h + 1) (by omega) h3
        have es : ev_s (fun z => mm_I G 90 (-9 - z).toNat) (f a) p h = (upp p h (mm_I G 90 (-9 - f a).toNat), h + 1) := by unfold ev_s; rw [if_neg hz, if_neg (by omega), if_pos (by omega)]
        rw [es]
        dsimp only
        have e1 : mm_I G 79 a = 11 - f a := by omega
        have rs := rs_89 G p (j := h) (mm_I G 90 (-9 - f a).toNat) (by omega)
        clear ih es h3 hi1
        refine ar_iload_n (pc := 9) d_Mo_holds_9 rfl ?_
        refine ar_aload_n (pc := 10) d_Mo_holds_10 rfl ?_
        refine ar_getR (pc := 11) gf_Mo_71 d_Mo_holds_11 (by first | rfl | exact sh_wheel (by omega) | exact sh_milk (by omega)) (hF _ _ _ rfl) ?_
        refine ar_iload_n (pc := 14) d_Mo_holds_14 rfl ?_
        refine ar_iconst (pc := 15) d_Mo_holds_15 ?_
        refine ar_iadd (pc := 16) d_Mo_holds_16 ?_
        refine ar_ialdv (pc := 17) d_Mo_holds_17 rfl (i+1) (by omega) (by omega) e17 (fun r_17 => ?_)
        refine ar_icmp_ge (pc := 18) 324 d_Mo_holds_18 (by decide) ⟨by omega, by omega⟩ ⟨by omega, by omega⟩ (fun h_18 => by exfalso; omega) (fun h_18 => ?_)
        refine ar_aload_n (pc := 21) d_Mo_holds_21 rfl ?_
        refine ar_getR (pc := 22) gf_Mo_65 d_Mo_holds_22 (by first | rfl | exact sh_wheel (by omega) | exact sh_milk (by omega)) (hF _ _ _ rfl) ?_
        refine ar_iload_n (pc := 25) d_Mo_holds_25 rfl ?_
        refine ar_ialdv (pc := 26) d_Mo_holds_26 rfl (a) (by omega) (by omega) (show _ = 11 - f a from e1) (fun r_26 => ?_)
        refine ar_istore (pc := 27) d_Mo_holds_27 rfl (by decide) ?_
        refine ar_iload (pc := 29) d_Mo_holds_29 rfl ?_
        refine ar_bipush (pc := 31) d_Mo_holds_31 (by decide) ?_
        refine ar_icmp_ge (pc := 33) 72 d_Mo_holds_33 (by decide) ⟨by omega, by omega⟩ ⟨by omega, by omega⟩ (fun h_33 => by exfalso; omega) (fun h_33 => ?_)
        refine ar_aload_n (pc := 36) d_Mo_holds_36 rfl ?_
        refine ar_getR (pc := 37) gf_Mo_99 d_Mo_holds_37 (by first | rfl | exact sh_wheel (by omega) | exact sh_milk (by omega)) (hF _ _ _ rfl) ?_
        refine ar_iload_n (pc := 40) d_Mo_holds_40 rfl ?_
        refine ar_iload (pc := 41) d_Mo_holds_41 rfl ?_
        refine ar_if_ne (pc := 43) 55 d_Mo_holds_43 (by decide) ⟨by omega, by omega⟩ (fun h_43 => ?_) (fun h_43 => by exfalso; omega)
        refine ar_aload_n (pc := 55) d_Mo_holds_55 rfl ?_
        refine ar_getR (pc := 56) gf_Mo_102 d_Mo_holds_56 (by first | rfl | exact sh_wheel (by omega) | exact sh_milk (by omega)) (hF _ _ _ rfl) ?_
        refine ar_iload (pc := 59) d_Mo_holds_59 rfl ?_
        refine ar_bipush (pc := 61) d_Mo_holds_61 (by decide) ?_
        refine ar_isub (pc := 63) d_Mo_holds_63 ?_
        refine ar_ialdv (pc := 64) d_Mo_holds_64 rfl ((-9-f a).toNat) (by omega) (by omega) (show _ = mm_I G 90 (-9 - f a).toNat from rfl) (fun r_64 => ?_)
        refine ar_iast (pc := 65) d_Mo_holds_65 rfl (h) (by omega) (by omega) ⟨by omega, by omega⟩ ?_
        rw [rs]
        refine ar_iinc (pc := 66) d_Mo_holds_66 rfl rfl (by decide) ?_
        refine ar_goto (pc := 69) 318 d_Mo_holds_69 (by decide) ?_
        refine ar_iinc (pc := 318) d_Mo_holds_318 rfl rfl (by decide) ?_
        refine ar_goto (pc := 321) 9 d_Mo_holds_321 (by decide) ?_
        rotate_left
        -- leaves: stop 9
        · exact ar_loc i1 ⟨rfl, rfl, li_i rfl (by omega), li_i rfl (by omega), trivial⟩
    · obtain ⟨k, rfl⟩ : ∃ k, h = k + 1 := ⟨h - 1, by omega⟩
      have i1 := ih (upp p k (if p k = 0 then 1 else 0)) (k + 1) (by omega) h3
      have es : ev_s (fun z => mm_I G 90 (-9 - z).toNat) (f a) p (k + 1) = (upp p k (if p k = 0 then 1 else 0), k + 1) := by unfold ev_s; rw [if_neg (by omega), if_pos (by omega)]; rfl
      rw [es]
      dsimp only
      have e1 : mm_I G 79 a = 40 := by omega
      have rs := fun v => rs_89 G p (j := k) v (by omega)
      have r0 : mm_I (ms_row G 89 300 p) 89 k = p k := row_at _ _ _ _ (by omega)
      clear ih es h3 hi1 h1
      refine ar_iload_n (pc := 9) d_Mo_holds_9 rfl ?_
      refine ar_aload_n (pc := 10) d_Mo_holds_10 rfl ?_
      refine ar_getR (pc := 11) gf_Mo_71 d_Mo_holds_11 (by first | rfl | exact sh_wheel (by omega) | exact sh_milk (by omega)) (hF _ _ _ rfl) ?_
      refine ar_iload_n (pc := 14) d_Mo_holds_14 rfl ?_
      refine ar_iconst (pc := 15) d_Mo_holds_15 ?_
      refine ar_iadd (pc := 16) d_Mo_holds_16 ?_
      refine ar_ialdv (pc := 17) d_Mo_holds_17 rfl (i+1) (by omega) (by omega) e17 (fun r_17 => ?_)
      refine ar_icmp_ge (pc := 18) 324 d_Mo_holds_18 (by decide) ⟨by omega, by omega⟩ ⟨by omega, by omega⟩ (fun h_18 => by exfalso; omega) (fun h_18 => ?_)
      refine ar_aload_n (pc := 21) d_Mo_holds_21 rfl ?_
      refine ar_getR (pc := 22) gf_Mo_65 d_Mo_holds_22 (by first | rfl | exact sh_wheel (by omega) | exact sh_milk (by omega)) (hF _ _ _ rfl) ?_
      refine ar_iload_n (pc := 25) d_Mo_holds_25 rfl ?_
      refine ar_ialdv (pc := 26) d_Mo_holds_26 rfl (a) (by omega) (by omega) (show _ = (40 : Int) from e1) (fun r_26 => ?_)
      refine ar_istore (pc := 27) d_Mo_holds_27 rfl (by decide) ?_
      refine ar_iload (pc := 29) d_Mo_holds_29 rfl ?_
      refine ar_bipush (pc := 31) d_Mo_holds_31 (by decide) ?_
      refine ar_icmp_ge (pc := 33) 72 d_Mo_holds_33 (by decide) ⟨by omega, by omega⟩ ⟨by omega, by omega⟩ (fun h_33 => ?_) (fun h_33 => by exfalso; omega)
      refine ar_iload (pc := 72) d_Mo_holds_72 rfl ?_
      refine ar_bipush (pc := 74) d_Mo_holds_74 (by decide) ?_
      refine ar_icmp_ne (pc := 76) 106 d_Mo_holds_76 (by decide) ⟨by omega, by omega⟩ ⟨by omega, by omega⟩ (fun h_76 => by exfalso; omega) (fun h_76 => ?_)
      refine ar_aload_n (pc := 79) d_Mo_holds_79 rfl ?_
      refine ar_getR (pc := 80) gf_Mo_99 d_Mo_holds_80 (by first | rfl | exact sh_wheel (by omega) | exact sh_milk (by omega)) (hF _ _ _ rfl) ?_
      refine ar_iload_n (pc := 83) d_Mo_holds_83 rfl ?_
      refine ar_iconst (pc := 84) d_Mo_holds_84 ?_
      refine ar_isub (pc := 85) d_Mo_holds_85 ?_
      refine ar_aload_n (pc := 86) d_Mo_holds_86 rfl ?_
      refine ar_getR (pc := 87) gf_Mo_99 d_Mo_holds_87 (by first | rfl | exact sh_wheel (by omega) | exact sh_milk (by omega)) (hF _ _ _ rfl) ?_
      refine ar_iload_n (pc := 90) d_Mo_holds_90 rfl ?_
      refine ar_iconst (pc := 91) d_Mo_holds_91 ?_
      refine ar_isub (pc := 92) d_Mo_holds_92 ?_
      refine ar_ialdv (pc := 93) d_Mo_holds_93 rfl (k) (by omega) (by omega) r0 (fun r_93 => ?_)
      refine ar_if_ne (pc := 94) 101 d_Mo_holds_94 (by decide) ⟨by omega, by omega⟩ (fun h_94 => ?_) (fun h_94 => ?_)
      refine ar_iconst (pc := 101) d_Mo_holds_101 ?_
      refine ar_iast (pc := 102) d_Mo_holds_102 rfl (k) (by omega) (by omega) ⟨by omega, by omega⟩ ?_
      rw [rs]
      refine ar_goto (pc := 103) 318 d_Mo_holds_103 (by decide) ?_
      refine ar_iinc (pc := 318) d_Mo_holds_318 rfl rfl (by decide) ?_
      refine ar_goto (pc := 321) 9 d_Mo_holds_321 (by decide) ?_
      rotate_left
      refine ar_iconst (pc := 97) d_Mo_holds_97 ?_
      refine ar_goto (pc := 98) 102 d_Mo_holds_98 (by decide) ?_
      refine ar_iast (pc := 102) d_Mo_holds_102 rfl (k) (by omega) (by omega) ⟨by omega, by omega⟩ ?_
      rw [rs]
      refine ar_goto (pc := 103) 318 d_Mo_holds_103 (by decide) ?_
      refine ar_iinc (pc := 318) d_Mo_holds_318 rfl rfl (by decide) ?_
      refine ar_goto (pc := 321) 9 d_Mo_holds_321 (by decide) ?_
      rotate_left
      -- leaves: stop 9, stop 9
      · rw [if_neg (show ¬ p k = 0 by omega)] at i1 ⊢
        exact ar_loc i1 ⟨rfl, rfl, li_i rfl (by omega), li_i rfl (by omega), trivial⟩
      · rw [if_pos (show p k = 0 by omega)] at i1 ⊢
        exact ar_loc i1 ⟨rfl, rfl, li_i rfl (by omega), li_i rfl (by omega), trivial⟩
    · obtain ⟨k, rfl⟩ : ∃ k, h = k + 2 := ⟨h - 2, by omega⟩
      have i1 := ih (upp p k (jn_v (-1 - f a) (p k) (p (k + 1)))) (k + 1) (by omega) h3
      unfold wf_b at h1
      have es : ev_s (fun z => mm_I G 90 (-9 - z).toNat) (f a) p (k + 2) = (upp p k (jn_v (-1 - f a) (p k) (p (k + 1))), k + 1) := by unfold ev_s; rw [if_neg (by omega), if_neg (by omega), if_neg (by omega)]; rfl
      rw [es]
      dsimp only
      have rs := fun v => rs_89 G p (j := k) v (by omega)
      have r0 : mm_I (ms_row G 89 300 p) 89 k = p k := row_at _ _ _ _ (by omega)
      have r1 : mm_I (ms_row G 89 300 p) 89 (k + 1) = p (k + 1) := row_at _ _ _ _ (by omega)
      obtain ⟨s, hs⟩ : ∃ s, mm_I G 79 a = s := ⟨_, rfl⟩
      rw [hs] at hi1
      have hs2 : (f a = -6 ∧ s = 41) ∨ (f a = -7 ∧ s = 42) ∨ (f a = -62 ∧ s = 43) ∨ (f a = -61 ∧ s = 44) ∨ (f a = -63 ∧ s = 45) ∨ (f a = -44 ∧ s = 46) ∨ (f a = -46 ∧ s = 47) := by omega
      have hs3 : 41 ≤ s ∧ s ≤ 47 := by omega
      have key : ∀ v, v = jn_v (-1 - f a) (p k) (p (k + 1)) → aw_W X mt_Mo_holds (d + 1) 9 [(0, some (av_r (some 60))), (1, some (av_i (i : Int))), (2, some (av_i ((k + 1 : Nat) : Int))), (3, some (av_i ((a + 1 : Nat) : Int)))] [] (ms_I (ms_row G 89 300 p) 89 k v) 0 0 (hv_Q G f n (a + 1) (upp p k (jn_v (-1 - f a) (p k) (p (k + 1)))) (k + 1)) := by
        intro v hv; rw [hv, rs]; exact i1
      generalize hv_Q G f n (a + 1) (upp p k (jn_v (-1 - f a) (p k) (p (k + 1)))) (k + 1) = Q at key ⊢
      unfold jn_v at key
      clear ih es h3 hi1 h1 i1 rs
      refine ar_iload_n (pc := 9) d_Mo_holds_9 rfl ?_
      refine ar_aload_n (pc := 10) d_Mo_holds_10 rfl ?_
      refine ar_getR (pc := 11) gf_Mo_71 d_Mo_holds_11 (by first | rfl | exact sh_wheel (by omega) | exact sh_milk (by omega)) (hF _ _ _ rfl) ?_
      refine ar_iload_n (pc := 14) d_Mo_holds_14 rfl ?_
      refine ar_iconst (pc := 15) d_Mo_holds_15 ?_
      refine ar_iadd (pc := 16) d_Mo_holds_16 ?_
      refine ar_ialdv (pc := 17) d_Mo_holds_17 rfl (i+1) (by omega) (by omega) e17 (fun r_17 => ?_)
      refine ar_icmp_ge (pc := 18) 324 d_Mo_holds_18 (by decide) ⟨by omega, by omega⟩ ⟨by omega, by omega⟩ (fun h_18 => by exfalso; omega) (fun h_18 => ?_)
      refine ar_aload_n (pc := 21) d_Mo_holds_21 rfl ?_
      refine ar_getR (pc := 22) gf_Mo_65 d_Mo_holds_22 (by first | rfl | exact sh_wheel (by omega) | exact sh_milk (by omega)) (hF _ _ _ rfl) ?_
      refine ar_iload_n (pc := 25) d_Mo_holds_25 rfl ?_
      refine ar_ialdv (pc := 26) d_Mo_holds_26 rfl (a) (by omega) (by omega) (show _ = s from hs) (fun r_26 => ?_)
      refine ar_istore (pc := 27) d_Mo_holds_27 rfl (by decide) ?_
      refine ar_iload (pc := 29) d_Mo_holds_29 rfl ?_
      refine ar_bipush (pc := 31) d_Mo_holds_31 (by decide) ?_
      refine ar_icmp_ge (pc := 33) 72 d_Mo_holds_33 (by decide) ⟨by omega, by omega⟩ ⟨by omega, by omega⟩ (fun h_33 => ?_) (fun h_33 => by exfalso; omega)
      refine ar_iload (pc := 72) d_Mo_holds_72 rfl ?_
      refine ar_bipush (pc := 74) d_Mo_holds_74 (by decide) ?_
      refine ar_icmp_ne (pc := 76) 106 d_Mo_holds_76 (by decide) ⟨by omega, by omega⟩ ⟨by omega, by omega⟩ (fun h_76 => ?_) (fun h_76 => by exfalso; omega)
      refine ar_iinc (pc := 106) d_Mo_holds_106 rfl rfl (by decide) ?_
      refine ar_aload_n (pc := 109) d_Mo_holds_109 rfl ?_
      refine ar_getR (pc := 110) gf_Mo_99 d_Mo_holds_110 (by first | rfl | exact sh_wheel (by omega) | exact sh_milk (by omega)) (hF _ _ _ rfl) ?_
      refine ar_iload_n (pc := 113) d_Mo_holds_113 rfl ?_
      refine ar_iconst (pc := 114) d_Mo_holds_114 ?_
      refine ar_isub (pc := 115) d_Mo_holds_115 ?_
      refine ar_ialdv (pc := 116) d_Mo_holds_116 rfl (k) (by omega) (by omega) r0 (fun r_116 => ?_)
      refine ar_istore (pc := 117) d_Mo_holds_117 rfl (by decide) ?_
      refine ar_aload_n (pc := 119) d_Mo_holds_119 rfl ?_
      refine ar_getR (pc := 120) gf_Mo_99 d_Mo_holds_120 (by first | rfl | exact sh_wheel (by omega) | exact sh_milk (by omega)) (hF _ _ _ rfl) ?_
      refine ar_iload_n (pc := 123) d_Mo_holds_123 rfl ?_
      refine ar_ialdv (pc := 124) d_Mo_holds_124 rfl (k+1) (by omega) (by omega) r1 (fun r_124 => ?_)
      refine ar_istore (pc := 125) d_Mo_holds_125 rfl (by decide) ?_
      refine ar_iload (pc := 127) d_Mo_holds_127 rfl ?_
      refine ar_case (s = 41) (fun hs_129_41 => ?_) (fun hn_129_41 => ?_)
      refine ar_tableIn (pc := 129) 168 d_Mo_holds_129 ⟨by omega, by omega⟩ (by omega) (by omega) (by rw [hs_129_41]; try rfl) (by decide) ?_
      refine ar_aload_n (pc := 168) d_Mo_holds_168 rfl ?_
      refine ar_getR (pc := 169) gf_Mo_99 d_Mo_holds_169 (by first | rfl | exact sh_wheel (by omega) | exact sh_milk (by omega)) (hF _ _ _ rfl) ?_
      refine ar_iload_n (pc := 172) d_Mo_holds_172 rfl ?_
      refine ar_iconst (pc := 173) d_Mo_holds_173 ?_
      refine ar_isub (pc := 174) d_Mo_holds_174 ?_
      refine ar_iload (pc := 175) d_Mo_holds_175 rfl ?_
      refine ar_if_ne (pc := 177) 185 d_Mo_holds_177 (by decide) ⟨by omega, by omega⟩ (fun h_177 => ?_) (fun h_177 => ?_)
      refine ar_iconst (pc := 185) d_Mo_holds_185 ?_
      refine ar_goto (pc := 186) 190 d_Mo_holds_186 (by decide) ?_
      refine ar_iast (pc := 190) d_Mo_holds_190 rfl (k) (by omega) (by omega) ⟨by omega, by omega⟩ ?_
      refine ar_goto (pc := 191) 318 d_Mo_holds_191 (by decide) ?_
      refine ar_iinc (pc := 318) d_Mo_holds_318 rfl rfl (by decide) ?_
      refine ar_goto (pc := 321) 9 d_Mo_holds_321 (by decide) ?_
      rotate_left
      refine ar_iload (pc := 180) d_Mo_holds_180 rfl ?_
      refine ar_if_eq (pc := 182) 189 d_Mo_holds_182 (by decide) ⟨by omega, by omega⟩ (fun h_182 => ?_) (fun h_182 => ?_)
      refine ar_iconst (pc := 189) d_Mo_holds_189 ?_
      refine ar_iast (pc := 190) d_Mo_holds_190 rfl (k) (by omega) (by omega) ⟨by omega, by omega⟩ ?_
      refine ar_goto (pc := 191) 318 d_Mo_holds_191 (by decide) ?_
      refine ar_iinc (pc := 318) d_Mo_holds_318 rfl rfl (by decide) ?_
      refine ar_goto (pc := 321) 9 d_Mo_holds_321 (by decide) ?_
      rotate_left
      refine ar_iconst (pc := 185) d_Mo_holds_185 ?_
      refine ar_goto (pc := 186) 190 d_Mo_holds_186 (by decide) ?_
      refine ar_iast (pc := 190) d_Mo_holds_190 rfl (k) (by omega) (by omega) ⟨by omega, by omega⟩ ?_
      refine ar_goto (pc := 191) 318 d_Mo_holds_191 (by decide) ?_
      refine ar_iinc (pc := 318) d_Mo_holds_318 rfl rfl (by decide) ?_
      refine ar_goto (pc := 321) 9 d_Mo_holds_321 (by decide) ?_
      rotate_left
      refine ar_case (s = 42) (fun hs_129_42 => ?_) (fun hn_129_42 => ?_)
      refine ar_tableIn (pc := 129) 194 d_Mo_holds_129 ⟨by omega, by omega⟩ (by omega) (by omega) (by rw [hs_129_42]; try rfl) (by decide) ?_
      refine ar_aload_n (pc := 194) d_Mo_holds_194 rfl ?_
      refine ar_getR (pc := 195) gf_Mo_99 d_Mo_holds_195 (by first | rfl | exact sh_wheel (by omega) | exact sh_milk (by omega)) (hF _ _ _ rfl) ?_
      refine ar_iload_n (pc := 198) d_Mo_holds_198 rfl ?_
      refine ar_iconst (pc := 199) d_Mo_holds_199 ?_
      refine ar_isub (pc := 200) d_Mo_holds_200 ?_
      refine ar_iload (pc := 201) d_Mo_holds_201 rfl ?_
      refine ar_if_eq (pc := 203) 215 d_Mo_holds_203 (by decide) ⟨by omega, by omega⟩ (fun h_203 => ?_) (fun h_203 => ?_)
      refine ar_iconst (pc := 215) d_Mo_holds_215 ?_
      refine ar_iast (pc := 216) d_Mo_holds_216 rfl (k) (by omega) (by omega) ⟨by omega, by omega⟩ ?_
      refine ar_goto (pc := 217) 318 d_Mo_holds_217 (by decide) ?_
      refine ar_iinc (pc := 318) d_Mo_holds_318 rfl rfl (by decide) ?_
      refine ar_goto (pc := 321) 9 d_Mo_holds_321 (by decide) ?_
      rotate_left
      refine ar_iload (pc := 206) d_Mo_holds_206 rfl ?_
      refine ar_if_eq (pc := 208) 215 d_Mo_holds_208 (by decide) ⟨by omega, by omega⟩ (fun h_208 => ?_) (fun h_208 => ?_)
      refine ar_iconst (pc := 215) d_Mo_holds_215 ?_
      refine ar_iast (pc := 216) d_Mo_holds_216 rfl (k) (by omega) (by omega) ⟨by omega, by omega⟩ ?_
      refine ar_goto (pc := 217) 318 d_Mo_holds_217 (by decide) ?_
      refine ar_iinc (pc := 318) d_Mo_holds_318 rfl rfl (by decide) ?_
      refine ar_goto (pc := 321) 9 d_Mo_holds_321 (by decide) ?_
      rotate_left
      refine ar_iconst (pc := 211) d_Mo_holds_211 ?_
      refine ar_goto (pc := 212) 216 d_Mo_holds_212 (by decide) ?_
      refine ar_iast (pc := 216) d_Mo_holds_216 rfl (k) (by omega) (by omega) ⟨by omega, by omega⟩ ?_
      refine ar_goto (pc := 217) 318 d_Mo_holds_217 (by decide) ?_
      refine ar_iinc (pc := 318) d_Mo_holds_318 rfl rfl (by decide) ?_
      refine ar_goto (pc := 321) 9 d_Mo_holds_321 (by decide) ?_
      rotate_left
      refine ar_case (s = 43) (fun hs_129_43 => ?_) (fun hn_129_43 => ?_)
      refine ar_tableIn (pc := 129) 220 d_Mo_holds_129 ⟨by omega, by omega⟩ (by omega) (by omega) (by rw [hs_129_43]; try rfl) (by decide) ?_
      refine ar_aload_n (pc := 220) d_Mo_holds_220 rfl ?_
      refine ar_getR (pc := 221) gf_Mo_99 d_Mo_holds_221 (by first | rfl | exact sh_wheel (by omega) | exact sh_milk (by omega)) (hF _ _ _ rfl) ?_
      refine ar_iload_n (pc := 224) d_Mo_holds_224 rfl ?_
      refine ar_iconst (pc := 225) d_Mo_holds_225 ?_
      refine ar_isub (pc := 226) d_Mo_holds_226 ?_
      refine ar_iload (pc := 227) d_Mo_holds_227 rfl ?_
      refine ar_iload (pc := 229) d_Mo_holds_229 rfl ?_
      refine ar_icmp_ne (pc := 231) 238 d_Mo_holds_231 (by decide) ⟨by omega, by omega⟩ ⟨by omega, by omega⟩ (fun h_231 => ?_) (fun h_231 => ?_)
      refine ar_iconst (pc := 238) d_Mo_holds_238 ?_
      refine ar_iast (pc := 239) d_Mo_holds_239 rfl (k) (by omega) (by omega) ⟨by omega, by omega⟩ ?_
      refine ar_goto (pc := 240) 318 d_Mo_holds_240 (by decide) ?_
      refine ar_iinc (pc := 318) d_Mo_holds_318 rfl rfl (by decide) ?_
      refine ar_goto (pc := 321) 9 d_Mo_holds_321 (by decide) ?_
      rotate_left
      refine ar_iconst (pc := 234) d_Mo_holds_234 ?_
      refine ar_goto (pc := 235) 239 d_Mo_holds_235 (by decide) ?_
      refine ar_iast (pc := 239) d_Mo_holds_239 rfl (k) (by omega) (by omega) ⟨by omega, by omega⟩ ?_
      refine ar_goto (pc := 240) 318 d_Mo_holds_240 (by decide) ?_
      refine ar_iinc (pc := 318) d_Mo_holds_318 rfl rfl (by decide) ?_
      refine ar_goto (pc := 321) 9 d_Mo_holds_321 (by decide) ?_
      rotate_left
      refine ar_case (s = 44) (fun hs_129_44 => ?_) (fun hn_129_44 => ?_)
      refine ar_tableIn (pc := 129) 243 d_Mo_holds_129 ⟨by omega, by omega⟩ (by omega) (by omega) (by rw [hs_129_44]; try rfl) (by decide) ?_
      refine ar_aload_n (pc := 243) d_Mo_holds_243 rfl ?_
      refine ar_getR (pc := 244) gf_Mo_99 d_Mo_holds_244 (by first | rfl | exact sh_wheel (by omega) | exact sh_milk (by omega)) (hF _ _ _ rfl) ?_
      refine ar_iload_n (pc := 247) d_Mo_holds_247 rfl ?_
      refine ar_iconst (pc := 248) d_Mo_holds_248 ?_
      refine ar_isub (pc := 249) d_Mo_holds_249 ?_
      refine ar_iload (pc := 250) d_Mo_holds_250 rfl ?_
      refine ar_iload (pc := 252) d_Mo_holds_252 rfl ?_
      refine ar_icmp_ge (pc := 254) 261 d_Mo_holds_254 (by decide) ⟨by omega, by omega⟩ ⟨by omega, by omega⟩ (fun h_254 => ?_) (fun h_254 => ?_)
      refine ar_iconst (pc := 261) d_Mo_holds_261 ?_
      refine ar_iast (pc := 262) d_Mo_holds_262 rfl (k) (by omega) (by omega) ⟨by omega, by omega⟩ ?_
      refine ar_goto (pc := 263) 318 d_Mo_holds_263 (by decide) ?_
      refine ar_iinc (pc := 318) d_Mo_holds_318 rfl rfl (by decide) ?_
      refine ar_goto (pc := 321) 9 d_Mo_holds_321 (by decide) ?_
      rotate_left
      refine ar_iconst (pc := 257) d_Mo_holds_257 ?_
      refine ar_goto (pc := 258) 262 d_Mo_holds_258 (by decide) ?_
      refine ar_iast (pc := 262) d_Mo_holds_262 rfl (k) (by omega) (by omega) ⟨by omega, by omega⟩ ?_
      refine ar_goto (pc := 263) 318 d_Mo_holds_263 (by decide) ?_
      refine ar_iinc (pc := 318) d_Mo_holds_318 rfl rfl (by decide) ?_
      refine ar_goto (pc := 321) 9 d_Mo_holds_321 (by decide) ?_
      rotate_left
      refine ar_case (s = 45) (fun hs_129_45 => ?_) (fun hn_129_45 => ?_)
      refine ar_tableIn (pc := 129) 266 d_Mo_holds_129 ⟨by omega, by omega⟩ (by omega) (by omega) (by rw [hs_129_45]; try rfl) (by decide) ?_
      refine ar_aload_n (pc := 266) d_Mo_holds_266 rfl ?_
      refine ar_getR (pc := 267) gf_Mo_99 d_Mo_holds_267 (by first | rfl | exact sh_wheel (by omega) | exact sh_milk (by omega)) (hF _ _ _ rfl) ?_
      refine ar_iload_n (pc := 270) d_Mo_holds_270 rfl ?_
      refine ar_iconst (pc := 271) d_Mo_holds_271 ?_
      refine ar_isub (pc := 272) d_Mo_holds_272 ?_
      refine ar_iload (pc := 273) d_Mo_holds_273 rfl ?_
      refine ar_iload (pc := 275) d_Mo_holds_275 rfl ?_
      refine ar_icmp_le (pc := 277) 284 d_Mo_holds_277 (by decide) ⟨by omega, by omega⟩ ⟨by omega, by omega⟩ (fun h_277 => ?_) (fun h_277 => ?_)
      refine ar_iconst (pc := 284) d_Mo_holds_284 ?_
      refine ar_iast (pc := 285) d_Mo_holds_285 rfl (k) (by omega) (by omega) ⟨by omega, by omega⟩ ?_
      refine ar_goto (pc := 286) 318 d_Mo_holds_286 (by decide) ?_
      refine ar_iinc (pc := 318) d_Mo_holds_318 rfl rfl (by decide) ?_
      refine ar_goto (pc := 321) 9 d_Mo_holds_321 (by decide) ?_
      rotate_left
      refine ar_iconst (pc := 280) d_Mo_holds_280 ?_
      refine ar_goto (pc := 281) 285 d_Mo_holds_281 (by decide) ?_
      refine ar_iast (pc := 285) d_Mo_holds_285 rfl (k) (by omega) (by omega) ⟨by omega, by omega⟩ ?_
      refine ar_goto (pc := 286) 318 d_Mo_holds_286 (by decide) ?_
      refine ar_iinc (pc := 318) d_Mo_holds_318 rfl rfl (by decide) ?_
      refine ar_goto (pc := 321) 9 d_Mo_holds_321 (by decide) ?_
      rotate_left
      refine ar_case (s = 46) (fun hs_129_46 => ?_) (fun hn_129_46 => ?_)
      refine ar_tableIn (pc := 129) 289 d_Mo_holds_129 ⟨by omega, by omega⟩ (by omega) (by omega) (by rw [hs_129_46]; try rfl) (by decide) ?_
      refine ar_aload_n (pc := 289) d_Mo_holds_289 rfl ?_
      refine ar_getR (pc := 290) gf_Mo_99 d_Mo_holds_290 (by first | rfl | exact sh_wheel (by omega) | exact sh_milk (by omega)) (hF _ _ _ rfl) ?_
      refine ar_iload_n (pc := 293) d_Mo_holds_293 rfl ?_
      refine ar_iconst (pc := 294) d_Mo_holds_294 ?_
      refine ar_isub (pc := 295) d_Mo_holds_295 ?_
      refine ar_iload (pc := 296) d_Mo_holds_296 rfl ?_
      refine ar_iload (pc := 298) d_Mo_holds_298 rfl ?_
      refine ar_iadd (pc := 300) d_Mo_holds_300 ?_
      refine ar_mod (w32_e _) ?_
      refine ar_iast (pc := 301) d_Mo_holds_301 rfl (k) (by omega) (by omega) (w32_in _) ?_
      refine ar_goto (pc := 302) 318 d_Mo_holds_302 (by decide) ?_
      refine ar_iinc (pc := 318) d_Mo_holds_318 rfl rfl (by decide) ?_
      refine ar_goto (pc := 321) 9 d_Mo_holds_321 (by decide) ?_
      rotate_left
      refine ar_tableOut (pc := 129) 305 d_Mo_holds_129 ⟨by omega, by omega⟩ (by omega) (by decide) ?_
      refine ar_aload_n (pc := 305) d_Mo_holds_305 rfl ?_
      refine ar_getR (pc := 306) gf_Mo_99 d_Mo_holds_306 (by first | rfl | exact sh_wheel (by omega) | exact sh_milk (by omega)) (hF _ _ _ rfl) ?_
      refine ar_iload_n (pc := 309) d_Mo_holds_309 rfl ?_
      refine ar_iconst (pc := 310) d_Mo_holds_310 ?_
      refine ar_isub (pc := 311) d_Mo_holds_311 ?_
      refine ar_iload (pc := 312) d_Mo_holds_312 rfl ?_
      refine ar_iload (pc := 314) d_Mo_holds_314 rfl ?_
      refine ar_isub (pc := 316) d_Mo_holds_316 ?_
      refine ar_mod (w32_e _) ?_
      refine ar_iast (pc := 317) d_Mo_holds_317 rfl (k) (by omega) (by omega) (w32_in _) ?_
      refine ar_iinc (pc := 318) d_Mo_holds_318 rfl rfl (by decide) ?_
      refine ar_goto (pc := 321) 9 d_Mo_holds_321 (by decide) ?_
      rotate_left
      -- leaves: stop 9, stop 9, stop 9, stop 9, stop 9, stop 9, stop 9, stop 9, stop 9, stop 9, stop 9, stop 9, stop 9, stop 9
      all_goals exact ar_loc (key _ (by repeat (first | rw [if_pos (by omega)] | rw [if_neg (by omega)]))) ⟨rfl, rfl, li_i rfl (by omega), li_i rfl (by omega), trivial⟩
