/-! ===== the plan, on both sides ===== -/
theorem gi_us {sh : Nat → Int} {gw a : Nat → Nat} {n : Nat} : gi_u sh gw a (n + 1) = upp (gi_u sh gw a n) (gw n) (a n : Nat) := by
  funext w
  unfold gi_u
  rw [kp_v]
  by_cases y : w = gw n
  · subst y; rw [upp_s, upp_s, if_neg (by omega)]
  · rw [upp_n _ y, upp_n _ y]
theorem gi_uc {sh : Nat → Int} {gw a : Nat → Nat} {wc : Nat} {t : Nat} : ∀ n, inc_P gw n → (∀ k, k < n → gw k < wc) → ct_n (gi_u sh gw a n) (t : Int) wc = ct_n sh t wc - rk_c sh gw t n + (cn_f a t n : Nat) := by
  intro n
  induction n with
  | zero =>
    intro _ _
    have : gi_u sh gw a 0 = sh := by funext w; unfold gi_u; rw [kp_v, if_pos rfl]
    rw [this, rk_c, cn_f]; omega
  | succ n ih =>
    intro h1 h2
    rw [gi_us, ct_upp, if_pos (h2 n (by omega)), ih (fun j k hj hk => h1 j k hj (by omega)) (fun k hk => h2 k (by omega))]
    have e : gi_u sh gw a n (gw n) = sh (gw n) := by
      unfold gi_u
      rw [if_pos (kp_no n (fun k hk x => by have := h1 k n hk (by omega); omega))]
    rw [e, rk_c, cn_f]
    by_cases y : a n = t
    · rw [if_pos (by omega), if_pos y]; omega
    · rw [if_neg (by omega), if_neg y]; omega
theorem gi_tw {G : mm_T} {wc c : Nat} {T : Int} (hD : gi_D G T) (hA : gi_A G) (hB : gi_B G) (hC : gi_C G wc c) (hE : gi_E G wc) (hN : gi_N G wc c T) : tw_P (su_x G) (su_m G) (fun w => mm_I G (300 + w) 4) (mm_I G 67) wc := by
  have c3 := hC.2.2.1
  refine ⟨fun w hw => ?_, fun w s hw hs => ?_⟩
  · have e4 := (hE w hw).2.2.2.1
    exact ⟨e4, by show -1 ≤ mm_I G (300 + w) 4 ∧ mm_I G (300 + w) 4 ≤ 23; rw [e4]; exact (hN.1 w (by omega)).2.1⟩
  · unfold su_x su_m
    rw [hB.1, hB.2.1, hB.2.2.1, hB.2.2.2.1, (hE w hw).2.1, (hE w hw).2.2.1, hD.1, hD.2.1, hA.1]
theorem gi_kw {G : mm_T} {mc wc c : Nat} {T : Int} (hF : fx_R G) (hD : gi_D G T) (hB : gi_B G) (hM : gi_M G mc wc) (hC : gi_C G wc c) (hX : gi_X G wc) (hE : gi_E G wc) (hN : gi_N G wc c T) (hL : gi_L G wc) : kw_I G wc := by
  have c1 := hC.1
  have c3 := hC.2.2.1
  exact ⟨hF, gi_W hC hM hX, ⟨c1, c3⟩, fun w hw => ⟨(hE w hw).1, gi_hsh hC hE hN w (by omega), gi_kd hC hE hN w (by omega), gi_ag hD hC hE hN w (by omega)⟩, hB.2.2.2.2, gi_hly hL⟩
/-- the reference's plan behind the class's: the memory G1 of the class's end differs from G in the class's planner alone -/
theorem gq_mplan (X : gx_T) (d : Nat) {G G1 : mm_T} {wc c : Nat} {T : Int} (hF1 : fx_R G1) (hD : gi_D G T) (hA : gi_A G) (hB : gi_B G) (hC : gi_C G wc c) (hE : gi_E G wc) (hN : gi_N G wc c T) (f1 : ∀ b j : Nat, 60 ≤ b → b < 107 → mm_I G1 b j = mm_I G b j) : aw_M X (d + 4) mt_Mo_plan [av_r (some 60)] G1 0 0 (mp_O G1 (gy_c (su_x G) (fun w => mm_I G (300 + w) 4) wc) (gy_w (su_x G) (fun w => mm_I G (300 + w) 4) wc) (mm_I G 67) (qm_v (su_m G) (mm_I G 67) (gy_w (su_x G) (fun w => mm_I G (300 + w) 4) wc) (gy_c (su_x G) (fun w => mm_I G (300 + w) 4) wc)) (fun s => 4 - ct_n (mm_I G 67) s wc + rk_c (mm_I G 67) (gy_w (su_x G) (fun w => mm_I G (300 + w) 4) wc) s (gy_c (su_x G) (fun w => mm_I G (300 + w) 4) wc))) := by
  have tw := gi_tw hD hA hB hC hE hN
  have c3 := hC.2.2.1
  have row : ∀ b, 60 ≤ b → b < 107 → mm_I G1 b = mm_I G b := fun b h1 h2 => funext fun j => f1 b j h1 h2
  have es : su_m G1 = su_m G := by
    funext w s
    unfold su_m
    rw [row 91 (by omega) (by omega), row 92 (by omega) (by omega), row 93 (by omega) (by omega), row 94 (by omega) (by omega), row 66 (by omega) (by omega), row 60 (by omega) (by omega), row 71 (by omega) (by omega), row 61 (by omega) (by omega)]
  have r67 := row 67 (by omega) (by omega)
  have H : mpl_I G1 wc := by
    refine ⟨hF1, ⟨by rw [f1 60 4 (by omega) (by omega)]; exact hC.2.1, c3⟩, fun w hw => ?_, ?_⟩
    · rw [f1 66 w (by omega) (by omega), f1 60 0 (by omega) (by omega), f1 71 w (by omega) (by omega), f1 67 w (by omega) (by omega)]
      exact ⟨(hN.1 w (by omega)).1, gi_agm hD hN w (by omega), (hN.1 w (by omega)).2.1⟩
    · rw [row 91 (by omega) (by omega), ← hB.1]; exact hB.2.2.2.2
  have g := cm_Mo_plan X d (G := G1) (wc := wc) (n := gy_c (su_x G) (fun w => mm_I G (300 + w) 4) wc) (gw := gy_w (su_x G) (fun w => mm_I G (300 + w) 4) wc) (q := qm_v (su_m G) (mm_I G 67) (gy_w (su_x G) (fun w => mm_I G (300 + w) 4) wc) (gy_c (su_x G) (fun w => mm_I G (300 + w) 4) wc)) (room := fun s => 4 - ct_n (mm_I G 67) s wc + rk_c (mm_I G 67) (gy_w (su_x G) (fun w => mm_I G (300 + w) 4) wc) s (gy_c (su_x G) (fun w => mm_I G (300 + w) 4) wc)) H (by rw [es, r67]; exact (tw_gy tw).1) (by rw [es, r67]; exact (tw_gy tw).2) (by rw [es, r67]) (fun s hs => by rw [r67])
  rw [r67] at g
  exact g
theorem gq_plan (X : gx_T) (d : Nat) {G : mm_T} {mc wc c kc z : Nat} {T : Int} (h : gi_G G mc wc c kc z T) : aw_M X (d + 59) mt_K_plan [av_r (some 0)] G 0 0 (gj_P X (d + 59) mt_Mo_plan [av_r (some 60)] (gi_J mc wc)) := by
  obtain ⟨hF, hD, hA, hFa, hT, hB, hM, hC, hX, hE, hN, hL, hI, hS, hK, hP, hO⟩ := id h
  have c3 := hC.2.2.1
  have tw := gi_tw hD hA hB hC hE hN
  have hr0 : ∀ s : Nat, s < 24 → (fun s => 4 - mm_I G 4 s) s = 4 - ct_n (mm_I G 67) s wc := fun s hs => by
    show 4 - mm_I G 4 s = _
    rw [(hL s hs).1]
  refine am_mono ?_ (cm_K_plan X (d + 53) (gi_kw hF hD hB hM hC hX hE hN hL))
  have Mo := fun G1 hF1 f1 => gq_mplan X (d + 55) (G := G) (G1 := G1) hF1 hD hA hB hC hE hN f1
  have p2 := tw_hh tw
  have inc : inc_P (gy_w (su_x G) (fun w => mm_I G (300 + w) 4) wc) (gy_c (su_x G) (fun w => mm_I G (300 + w) 4) wc) := fun j k hj hk => gy_inc wc j k hj hk
  have gp : ∀ k, k < gy_c (su_x G) (fun w => mm_I G (300 + w) 4) wc → gy_w (su_x G) (fun w => mm_I G (300 + w) 4) wc k < wc ∧ mm_I G 67 (gy_w (su_x G) (fun w => mm_I G (300 + w) 4) wc k) ≠ -1 := fun k hk => by
    have q := gy_p (su := su_x G) (sh := fun w => mm_I G (300 + w) 4) wc k hk
    refine ⟨q.1, ?_⟩
    rw [← (tw.1 _ q.1).1]; exact q.2.1
  have room := fun s (hs : s < 24) => tw_room (r0 := fun s => 4 - mm_I G 4 s) tw hr0 hs
  have none_ := fun hn b => tw_none (r0 := fun s => 4 - mm_I G 4 s) (room := fun s => 4 - ct_n (mm_I G 67) s wc + rk_c (mm_I G 67) (gy_w (su_x G) (fun w => mm_I G (300 + w) 4) wc) s (gy_c (su_x G) (fun w => mm_I G (300 + w) 4) wc)) tw hr0 hn (fun s hs => rfl) b
  have same_ := fun y a b hn => tw_same (r0 := fun s => 4 - mm_I G 4 s) (room := fun s => 4 - ct_n (mm_I G 67) s wc + rk_c (mm_I G 67) (gy_w (su_x G) (fun w => mm_I G (300 + w) 4) wc) s (gy_c (su_x G) (fun w => mm_I G (300 + w) 4) wc)) (y := y) (a := a) (b := b) tw hr0 hn (fun s hs => rfl)
  unfold kp_P
  generalize hn0 : gy_c (su_x G) (fun w => mm_I G (300 + w) 4) wc = n at *
  generalize hgw0 : gy_w (su_x G) (fun w => mm_I G (300 + w) 4) wc = gw at *
  generalize hr : gy_r (su_x G) (fun w => mm_I G (300 + w) 4) (fun s => 4 - mm_I G 4 s) wc = rr at *
  rintro r G1 (⟨h1, rfl, c', wl, hm, p, r', b1⟩ | ⟨h1, Gb, b1, h2⟩)
  · have f1 : ∀ b j : Nat, ¬ (b = 24 ∧ j = 8) → b ≠ 25 → b ≠ 26 → b ≠ 29 → mm_I G1 b j = mm_I G b j := b1.2.1
    have hF1 : fx_R G1 := fun a k b hb => by rw [b1.1.1]; exact hF a k b hb
    refine ⟨_, rfl, am_mono ?_ (Mo G1 hF1 (fun b j x y => f1 b j (by omega) (by omega) (by omega) (by omega)))⟩
    rintro r G2 ⟨⟨o1, o2⟩, o3, -, (⟨(⟨-, rfl⟩ | ⟨x, -⟩), o5⟩ | ⟨x, -⟩)⟩
    · refine ⟨rfl, c, kc, z, T, gi_sc h (fun b j x => ?_) (by rw [o1, b1.1.1]) (by rw [o2, b1.1.2])⟩
      by_cases y : b = 96 ∨ b = 97 ∨ (b = 60 ∧ (j = 53 ∨ j = 55))
      · rw [o5 b j (by omega), f1 b j (by omega) (by omega) (by omega) (by omega)]
      · rw [o3 b j (by omega) (by omega) (by omega) (by omega) (by omega), f1 b j (by omega) (by omega) (by omega) (by omega)]
    · omega
    · omega
  · rcases h2 with ⟨a, y, Gc, fa, fy, rfl, b2, e1⟩ | ⟨rfl, fn, b2⟩
    · have f1 : ∀ b j : Nat, ¬ (b = 24 ∧ (8 ≤ j ∧ j ≤ 11)) → ¬ (25 ≤ b ∧ b ≤ 32) → mm_I G1 b j = mm_I G b j := fun b j x1 x2 => by
        rw [e1, mi_n (by omega), mi_n (by omega), mi_n (by omega)]
        rw [ff_row (P := fun b _ => b ≠ 32) (ff_0 _ Gc) (fun j => by omega) b j (by omega), b2.2.1 b j (by omega) (by omega) (by omega), b1.2.1 b j (by omega) (by omega) (by omega) (by omega)]
      have hR1 : mm_R G1 = mm_R G := by rw [e1]; exact (b2.1.1).trans b1.1.1
      have hA1 : mm_A G1 = mm_A G := by rw [e1]; exact (b2.1.2).trans b1.1.2
      have hF1 : fx_R G1 := fun a k b hb => by rw [hR1]; exact hF a k b hb
      refine ⟨_, rfl, am_mono ?_ (Mo G1 hF1 (fun b j x y => f1 b j (by omega) (by omega)))⟩
      rintro r G2 ⟨⟨o1, o2⟩, o3, -, (⟨(⟨x, -⟩ | ⟨-, x, -⟩), -⟩ | ⟨-, b, df, dm, rfl, o55, o53, orow⟩)⟩
      · omega
      · exact absurd ((none_ h1 a).mp fa) (x a)
      · obtain ⟨sa, sb⟩ := same_ y a b h1 fa fy df dm
        refine ⟨by rw [← sb], c, kc, z, T, ?_⟩
        have hR2 : mm_R G2 = mm_R G := by rw [o1, hR1]
        have hA2 : mm_A G2 = mm_A G := by rw [o2, hA1]
        have e : ∀ b j : Nat, ¬ ((b = 24 ∧ (8 ≤ j ∧ j ≤ 11)) ∨ (25 ≤ b ∧ b ≤ 32) ∨ (95 ≤ b ∧ b ≤ 98) ∨ (b = 60 ∧ (j = 53 ∨ j = 54 ∨ j = 55))) → mm_I G2 b j = mm_I G b j := fun b j x => by
          rw [o3 b j (by omega) (by omega) (by omega) (by omega) (by omega), f1 b j (by omega) (by omega)]
        have k10 : mm_I G2 24 10 = 1 := by rw [o3 24 10 (by omega) (by omega) (by omega) (by omega) (by omega), e1]; rfl
        have k11 : mm_I G2 24 11 = 0 := by rw [o3 24 11 (by omega) (by omega) (by omega) (by omega) (by omega), e1]; rfl
        have k9 : mm_I G2 24 9 = n := by rw [o3 24 9 (by omega) (by omega) (by omega) (by omega) (by omega), e1]; rfl
        have r67 : mm_I G2 67 = mm_I G 67 := funext fun j => e 67 j (by omega)
        have hP2 : gi_P G2 wc := by
          refine ⟨n, ⟨o55, k9, h1⟩, ⟨fun _ => ⟨by rw [k10]; omega, k11⟩, fun _ => by rw [o53]; omega⟩, fun x => absurd x (by rw [k10]; omega), fun _ => ⟨gw, a, inc, fun k hk => ⟨by have := (gp k hk).1; omega, (fa.1 k hk).1⟩, fun k hk => by rw [sa k hk]; exact orow k hk, fun w hw => ?_, fun _ => ⟨fun k hk => by rw [r67]; exact gp k hk, fun t ht => ?_⟩⟩⟩
          · rw [o3 32 w (by omega) (by omega) (by omega) (by omega) (by omega), e1, mi_n (by omega), mi_n (by omega), mi_n (by omega)]
            show (if 32 = 32 ∧ w < 40 then kp_v gw a n w else mm_I Gc 32 w) = _
            rw [if_pos ⟨rfl, hw⟩]
          · rw [r67, gi_uc n inc (fun k hk => (gp k hk).1)]
            have q := fa.2 t ht
            rw [room t ht] at q
            omega
        exact ⟨(fun a k b hb => by rw [hR2]; exact hF a k b hb), gi_D_f hD (fun b j x => e b j (by omega)), gi_A_f hA (fun b j x => e b j (by omega)), gi_F_f hFa (fun b j x => e b j (by omega)), gi_T_f hT (fun b j x => e b j (by omega)), gi_B_f hB (fun b j x => e b j (by omega)), gi_M_f hM (fun b j x => e b j (by omega)) (fun k _ => by rw [hR2]) (fun k _ => by rw [hA2]), gi_C_f hC (fun b j x => e b j (by omega)), gi_X_f hX (fun k _ => by rw [hR2]) (fun k _ => by rw [hA2]), gi_E_f hE (fun b j x => e b j (by omega)), gi_N_f hN (fun b j x => e b j (by omega)), gi_L_f hL (fun b j x => e b j (by omega)), gi_I_f hI (fun b j x => e b j (by omega)), gi_S_f hS (fun b j x => e b j (by omega)), gi_K_f hK (fun b j x => e b j (by omega)), hP2, gi_O_f hO (fun b j x => e b j (by omega)) (by rw [hR2]) (by rw [hR2])⟩
    · have f1 : ∀ b j : Nat, ¬ (b = 24 ∧ j = 8) → ¬ (25 ≤ b ∧ b ≤ 31) → mm_I G1 b j = mm_I G b j := fun b j x1 x2 => by
        rw [b2.2.1 b j (by omega) (by omega) (by omega), b1.2.1 b j (by omega) (by omega) (by omega) (by omega)]
      have hR1 : mm_R G1 = mm_R G := (b2.1.1).trans b1.1.1
      have hA1 : mm_A G1 = mm_A G := (b2.1.2).trans b1.1.2
      have hF1 : fx_R G1 := fun a k b hb => by rw [hR1]; exact hF a k b hb
      refine ⟨_, rfl, am_mono ?_ (Mo G1 hF1 (fun b j x y => f1 b j (by omega) (by omega)))⟩
      rintro r G2 ⟨⟨o1, o2⟩, o3, -, (⟨(⟨x, -⟩ | ⟨-, -, rfl⟩), o5⟩ | ⟨-, b, df, -⟩)⟩
      · omega
      · refine ⟨rfl, c, kc, z, T, gi_sc h (fun b j x => ?_) (by rw [o1, hR1]) (by rw [o2, hA1])⟩
        by_cases y : b = 96 ∨ b = 97 ∨ (b = 60 ∧ (j = 53 ∨ j = 55))
        · rw [o5 b j (by omega), f1 b j (by omega) (by omega)]
        · rw [o3 b j (by omega) (by omega) (by omega) (by omega) (by omega), f1 b j (by omega) (by omega)]
      · exact absurd ((none_ h1 b).mpr df) (fn b)
