/-! ===== days: the pair ===== -/
theorem fxW_f {G G' : mm_T} (h : fx_W G) (e1 : mm_I G' 0 13 = mm_I G 0 13) (e2 : mm_I G' 0 14 = mm_I G 0 14) (hR : mm_R G' = mm_R G) : fx_W G' := by
  unfold fx_W; rw [e1, e2, hR]; exact h
theorem mp_R_g {G G' : mm_T} {f : Nat → Int} {le : Nat → Nat} {dd : Nat → Int} {L : Nat} (h : mp_R G f le dd L) (e : ff_F (fun b _ => 79 ≤ b ∧ b ≤ 82) G G') : mp_R G' f le dd L := by
  unfold mp_R
  rw [ff_w e 79 (fun j => by omega), ff_w e 80 (fun j => by omega), ff_w e 81 (fun j => by omega), ff_w e 82 (fun j => by omega)]; exact h
/-- a day of the class -/
theorem gd_Ks (X : gx_T) (d : Nat) {G G1 : mm_T} {mc wc c kc z L : Nat} {T : Int} {f : Nat → Int} {le : Nat → Nat} {dd : Nat → Int} {W : Nat → Nat → Int × (Int × Int × Int)} {t : Nat} (h : gi_G G mc wc c kc z T) (hWd : W = gd_W (mm_I G 66) (mm_I G 71) (mm_I G 67) (mm_I G 61) (mm_I G 62) T f le dd L (fun k => (mm_I G 68 k, mm_I G 69 k, mm_I G 70 k, mm_I G 72 k))) (hW : pg_W f le dd L) (ho : gi_o G f le dd L) (ht : T + t ≤ 99999) (hI : gd_K G G1 wc T W t) : aw_M X (d + 5) mt_K_passDay [av_r (some 0)] G1 0 0 (fun r G' => r = none ∧ gd_K G G' wc T W (t + 1)) := by
  obtain ⟨hF, hD, hA, hFa, hT, hB, hM, hC, hX, hE, hN, hL, hIb, hS, hK, hP, hO⟩ := id h
  obtain ⟨⟨i1, i2⟩, i3, i4, i5, i6⟩ := hI
  have c3 := hC.2.2.1
  have d3 := hD.2.2
  have rg : ∀ k, k < wc → gd_r (W t k) (T + t) := fun k hk => by
    rw [hWd]; have n := hN.1 k (by omega)
    exact gdw_rng ⟨n.2.2.2.2.1, n.2.2.2.2.2.1, n.2.2.2.2.2.2.1, n.2.2.2.2.2.2.2⟩ t
  have hF1 : fx_R G1 := fun a k b hb => by rw [i1]; exact hF a k b hb
  have row2 : mm_I G1 2 = mm_I G 2 := funext fun j => i3 2 j (by omega)
  have row3 : mm_I G1 3 = mm_I G 3 := funext fun j => i3 3 j (by omega)
  refine am_mono ?_ (gx_pass X d hF1 (fxW_f (gi_W hC hM hX) (i3 0 13 (by omega)) (i3 0 14 (by omega)) i1) (gi_o_f ho (fun b j x => i3 b j (by omega)) (by rw [i1]) (by rw [i1])) (by rw [i3 0 14 (by omega)]; exact hC.1) c3 (by rw [i4]; omega) (fun k hk => ?_) (by unfold sh_G; rw [row2, row3]; exact hA.2.2) hW)
  · rintro r G' ⟨rfl, G2, ⟨⟨x1, x2⟩, x3, x4⟩, e2⟩
    refine ⟨rfl, ⟨by rw [e2]; exact x1.trans i1, by rw [e2]; exact x2.trans i2⟩, fun b i y => ?_, by rw [e2, mi_n (by omega), mi_s, i4]; omega, by rw [e2, mi_s, if_neg (by omega)], fun k hk => ?_⟩
    · rw [e2, mi_n (by omega), mi_n (by omega), x3 b i (by omega) (fun ⟨k, k1, k2, k3, k4⟩ => by omega), i3 b i (by omega)]
    · have ek := hE k hk
      have g4 : mm_I G1 (300 + k) 4 = mm_I G 67 k := by rw [i3 _ _ (by omega)]; exact ek.2.2.2.1
      have g1 : mm_I G1 (300 + k) 1 = mm_I G 66 k := by rw [i3 _ _ (by omega)]; exact ek.2.1
      have g2 : mm_I G1 (300 + k) 2 = mm_I G 71 k := by rw [i3 _ _ (by omega)]; exact ek.2.2.1
      have n67 := (hN.1 k (by omega)).2.1
      rw [e2, mi_n (by omega), mi_n (by omega), mi_n (by omega), mi_n (by omega), mi_n (by omega), mi_n (by omega), mi_n (by omega), mi_n (by omega)]
      by_cases y : mm_I G 67 k = -1
      · have w1 : W (t + 1) k = W t k := by rw [hWd, gd_W, if_pos y]
        have fr : ∀ i, mm_I G2 (300 + k) i = mm_I G1 (300 + k) i := fun i => x3 _ _ (by omega) (fun ⟨k', k1, k2, k3, k4⟩ => k3 (by rw [show k' = k by omega, g4]; exact y))
        rw [w1, fr, fr, fr, fr]; exact i6 k hk
      · have w1 : xd4 G1 f le dd L k = W (t + 1) k := by
          have q := i6 k hk
          unfold xd4
          rw [q.1, q.2.1, q.2.2.1, q.2.2.2, g1, g2, g4, i4, row2, row3, hA.1, hA.2.1, show (mm_I G 67 k / 6).toNat = (mm_I G 67 k).toNat / 6 by omega]
          rw [hWd, gd_W, if_neg y]
        rw [← w1]; exact x4 k hk (by rw [g4]; exact y)
  · have ek := hE k hk
    have q := i6 k hk
    have n := hN.1 k (by omega)
    have rk := rg k hk
    refine ⟨by rw [i3 _ _ (by omega)]; exact gi_hsh hC hE hN k (by rw [hC.1]; omega), ?_, ?_, ?_⟩
    · rw [i3 _ _ (by omega), ek.2.2.1]; have := n.2.2.1; omega
    · rw [q.1]; exact rk.1
    · rw [q.2.1, q.2.2.1, q.2.2.2]
      exact ⟨rk.2.1, rk.2.2.1, rk.2.2.2.1, by have := rk.2.2.2.2; show (W t k).2.2.2 ≤ 100000; omega⟩
/-- a day of the reference -/
theorem gd_Ms {G1 G' G2 : mm_T} {wc L : Nat} {T : Int} {f : Nat → Int} {le : Nat → Nat} {dd : Nat → Int} {W : Nat → Nat → Int × (Int × Int × Int)} {t : Nat} (hWd : W = gd_W (mm_I G1 66) (mm_I G1 71) (mm_I G1 67) (mm_I G1 61) (mm_I G1 62) T f le dd L (fun k => (mm_I G1 68 k, mm_I G1 69 k, mm_I G1 70 k, mm_I G1 72 k))) (hsh : ∀ k, k < wc → -1 ≤ mm_I G1 67 k) (hI : gd_M G1 G' wc T W t) (hm : me_F G' G2 f le dd L wc) : gd_M G1 (ms_I (ms_I G2 60 0 (mm_I G' 60 0 + 1)) 60 53 0) wc T W (t + 1) := by
  obtain ⟨⟨i1, i2⟩, i3, i4, i5, i6⟩ := hI
  obtain ⟨⟨x1, -, x2⟩, x3, x4⟩ := hm
  refine ⟨⟨x1.trans i1, x2.trans i2⟩, fun b i y => ?_, by rw [mi_n (by omega), mi_s, i4]; omega, by rw [mi_s, if_neg (by omega)], fun k hk => ?_⟩
  · rw [mi_n (by omega), mi_n (by omega), x3 b i (by omega) (by omega) (by omega), i3 b i (by omega)]
  · have g67 : mm_I G' 67 k = mm_I G1 67 k := i3 67 k (by omega)
    have n67 := hsh k hk
    rw [mi_n (by omega), mi_n (by omega), mi_n (by omega), mi_n (by omega), mi_n (by omega), mi_n (by omega), mi_n (by omega), mi_n (by omega)]
    by_cases y : mm_I G1 67 k = -1
    · have w1 : W (t + 1) k = W t k := by rw [hWd, gd_W, if_pos y]
      have fr : ∀ b, b ≠ 89 → b ≠ 90 → mm_I G2 b k = mm_I G' b k := fun b h1 h2 => x3 b k h1 h2 (by rw [g67]; omega)
      rw [w1, fr 68 (by omega) (by omega), fr 69 (by omega) (by omega), fr 70 (by omega) (by omega), fr 72 (by omega) (by omega)]; exact i6 k hk
    · have w1 : me4 G' f le dd L k = W (t + 1) k := by
        have q := i6 k hk
        unfold me4
        rw [q.1, q.2.1, q.2.2.1, q.2.2.2, g67, i4, i3 66 k (by omega), i3 71 k (by omega), i3 61 _ (by omega), i3 62 _ (by omega), show (((mm_I G1 67 k).toNat : Nat) : Int) = mm_I G1 67 k by omega]
        rw [hWd, gd_W, if_neg y]
      rw [← w1]; exact x4 k hk (by rw [g67]; omega)
theorem gd_Mo (X : gx_T) (d : Nat) {G G1 : mm_T} {mc wc c kc z L N : Nat} {T n : Int} {f : Nat → Int} {le : Nat → Nat} {dd : Nat → Int} {W : Nat → Nat → Int × (Int × Int × Int)} (h : gi_G G mc wc c kc z T) (hn : i3_in n) (hNd : (N : Int) = max 0 (min n (100000 - T))) (hWd : gd_W (mm_I G 66) (mm_I G 71) (mm_I G 67) (mm_I G 61) (mm_I G 62) T f le dd L (fun k => (mm_I G 68 k, mm_I G 69 k, mm_I G 70 k, mm_I G 72 k)) = W) (hW : pg_W f le dd L) (hp : mp_R G f le dd L) (hl : mm_I G 60 26 = (L : Nat)) (hF1 : fx_R G1) (f1 : ∀ b j : Nat, 60 ≤ b → b < 107 → mm_I G1 b j = mm_I G b j) : aw_M X (d + 3) mt_Mo_days [av_r (some 60), av_i n] G1 0 0 (fun r G' => (0 ≤ n ∧ n ≤ 400) ∧ r = some (av_i (N : Int)) ∧ (N ≤ N ∧ gd_M G1 G' wc T W N) ∨ ¬ (0 ≤ n ∧ n ≤ 400) ∧ r = some (av_i (-1)) ∧ G' = G1) := by
  obtain ⟨hF, hD, hA, hFa, hT, hB, hM, hC, hX, hE, hN, hL, hIb, hS, hK, hP, hO⟩ := id h
  have c3 := hC.2.2.1
  obtain ⟨d1, d2, d3, d4⟩ := id hD
  have hTN : T + N ≤ 100000 := by omega
  have row : ∀ b, 60 ≤ b → b < 107 → mm_I G1 b = mm_I G b := fun b h1 h2 => funext fun j => f1 b j h1 h2
  have rg : ∀ t k, k < wc → gd_r (W t k) (T + t) := fun t k hk => by
    rw [← hWd]; have n := hN.1 k (by omega)
    exact gdw_rng ⟨n.2.2.2.2.1, n.2.2.2.2.2.1, n.2.2.2.2.2.2.1, n.2.2.2.2.2.2.2⟩ t
  have hWd1 : W = gd_W (mm_I G1 66) (mm_I G1 71) (mm_I G1 67) (mm_I G1 61) (mm_I G1 62) T f le dd L (fun k => (mm_I G1 68 k, mm_I G1 69 k, mm_I G1 70 k, mm_I G1 72 k)) := by
    rw [row 66 (by omega) (by omega), row 71 (by omega) (by omega), row 67 (by omega) (by omega), row 61 (by omega) (by omega), row 62 (by omega) (by omega), row 68 (by omega) (by omega), row 69 (by omega) (by omega), row 70 (by omega) (by omega), row 72 (by omega) (by omega)]; exact hWd.symm
  refine cm_Mo_days X d G1 (Inv := fun G' t => t ≤ N ∧ gd_M G1 G' wc T W t) hn ⟨d3, d4⟩ hNd c3 hW ?_ ?_ ?_
  · refine ⟨Nat.zero_le _, ⟨rfl, rfl⟩, fun _ _ _ => rfl, by rw [f1 60 0 (by omega) (by omega), d2]; omega, by rw [if_pos rfl], fun k hk => ?_⟩
    rw [hWd1]; exact ⟨rfl, rfl, rfl, rfl⟩
  · rintro G' t ⟨htN, ⟨i1, i2⟩, i3, i4, i5, i6⟩
    refine ⟨⟨fun a k b hb => by rw [i1]; exact hF1 a k b hb, by rw [i3 60 4 (by omega), f1 60 4 (by omega) (by omega)]; exact hC.2.1, by rw [i4]; omega, fun k hk hk2 => ?_, ?_, mp_R_g hp (fun b j x => by rw [i3 b j (by omega), f1 b j (by omega) (by omega)]), by rw [i3 60 26 (by omega), f1 60 26 (by omega) (by omega)]; exact hl⟩, i4⟩
    · have n := hN.1 k (by omega)
      have rk := rg t k hk
      have q := i6 k hk
      refine ⟨?_, ?_, ?_, ?_⟩
      · rw [i3 67 k (by omega), f1 67 k (by omega) (by omega)]; exact n.2.1.2
      · rw [i3 71 k (by omega), f1 71 k (by omega) (by omega)]; have := n.2.2.1; omega
      · rw [q.1]; exact rk.1
      · rw [q.2.1, q.2.2.1, q.2.2.2]
        exact ⟨rk.2.1, rk.2.2.1, rk.2.2.2.1, by have := rk.2.2.2.2; show (W t k).2.2.2 ≤ 100000; omega⟩
    · have q61 : mm_I G' 61 = mm_I G 2 := by rw [hA.1]; exact funext fun j => by rw [i3 61 j (by omega), f1 61 j (by omega) (by omega)]
      have q62 : mm_I G' 62 = mm_I G 3 := by rw [hA.2.1]; exact funext fun j => by rw [i3 62 j (by omega), f1 62 j (by omega) (by omega)]
      unfold mh_G
      rw [q61, q62]; exact hA.2.2
  · rintro G' t G2 ht ⟨-, hI⟩ hm
    exact ⟨ht, gd_Ms hWd1 (fun k hk => by rw [f1 67 k (by omega) (by omega)]; exact (hN.1 k (by omega)).2.1.1) hI hm⟩
theorem gq_days (X : gx_T) (d : Nat) {G : mm_T} {mc wc c kc z : Nat} {T : Int} (h : gi_G G mc wc c kc z T) {n : Int} (hn : i3_in n) : aw_M X (d + 59) mt_K_days [av_r (some 0), av_i n] G 0 0 (gj_P X (d + 59) mt_Mo_days [av_r (some 60), av_i n] (gi_J mc wc)) := by
  obtain ⟨hF, hD, hA, hFa, hT, hB, hM, hC, hX, hE, hN, hL, hI, hS, hK, hP, hO⟩ := id h
  obtain ⟨f, le, dd, L, hW, ho, hp, hl⟩ := id hO
  have c3 := hC.2.2.1
  obtain ⟨d1, d2, d3, d4⟩ := id hD
  obtain ⟨N, hNd⟩ : ∃ N : Nat, (N : Int) = max 0 (min n (100000 - T)) := ⟨(max 0 (min n (100000 - T))).toNat, by omega⟩
  have hTN : T + N ≤ 100000 := by omega
  generalize hWd : gd_W (mm_I G 66) (mm_I G 71) (mm_I G 67) (mm_I G 61) (mm_I G 62) T f le dd L (fun k => (mm_I G 68 k, mm_I G 69 k, mm_I G 70 k, mm_I G 72 k)) = W
  refine am_mono ?_ (cm_K_days X (d + 53) G (N := N) (Inv := fun G' t => gd_K G G' wc T W t) hn (by rw [d1]; omega) (by rw [d1]; exact hNd) ?_ (fun _ _ G1 t ht hI => gd_Ks X (d + 53) h hWd.symm hW ho (by omega) hI))
  · rintro r G1 (⟨h1, rfl, ⟨i1, i2⟩, i3, i4, i5, i6⟩ | ⟨h1, rfl, rfl⟩)
    · refine ⟨_, rfl, am_mono ?_ (gd_Mo X (d + 56) h hn hNd hWd hW hp hl (fun a k b hb => by rw [i1]; exact hF a k b hb) (fun b j x y => i3 b j (by omega)))⟩
      rintro r G2 (⟨-, rfl, -, ⟨j1, j2⟩, j3, j4, j5, j6⟩ | ⟨h2, -⟩)
      · refine ⟨rfl, c, kc, z, T + N, ?_⟩
        have hR2 : mm_R G2 = mm_R G := j1.trans i1
        have hA2 : mm_A G2 = mm_A G := j2.trans i2
        have e : ∀ b j : Nat, ¬ (b = 46 ∨ b = 47 ∨ b = 52 ∨ b = 53 ∨ (b = 42 ∧ j = 7) ∨ (b = 48 ∧ j = 7) ∨ (b = 0 ∧ j = 15) ∨ (b = 24 ∧ j = 11) ∨ (300 ≤ b ∧ 6 ≤ j ∧ j ≤ 9) ∨ b = 89 ∨ b = 90 ∨ (b = 60 ∧ (j = 0 ∨ j = 53)) ∨ (j < wc ∧ (b = 68 ∨ b = 69 ∨ b = 70 ∨ b = 72))) → mm_I G2 b j = mm_I G b j := fun b j x => (j3 b j (by omega)).trans (i3 b j (by omega))
        have rg : ∀ k, k < wc → gd_r (W N k) (T + N) := fun k hk => by
          rw [← hWd]; have n := hN.1 k (by omega)
          exact gdw_rng ⟨n.2.2.2.2.1, n.2.2.2.2.2.1, n.2.2.2.2.2.2.1, n.2.2.2.2.2.2.2⟩ N
        have hD2 : gi_D G2 (T + N) := ⟨by rw [j3 0 15 (by omega)]; exact i4, j4, by omega, hTN⟩
        have hE2 : gi_E G2 wc := by
          intro k hk
          have ek := hE k hk
          have q := i6 k hk
          have p := j6 k hk
          unfold gi_e at ek ⊢
          rw [e (300 + k) 0 (by omega), e (300 + k) 1 (by omega), e (300 + k) 2 (by omega), e (300 + k) 4 (by omega), e (300 + k) 5 (by omega), j3 (300 + k) 6 (by omega), j3 (300 + k) 7 (by omega), j3 (300 + k) 8 (by omega), j3 (300 + k) 9 (by omega), e 66 k (by omega), e 67 k (by omega), e 71 k (by omega), e 73 k (by omega), q.1, q.2.1, q.2.2.1, q.2.2.2, p.1, p.2.1, p.2.2.1, p.2.2.2]
          exact ⟨ek.1, ek.2.1, ek.2.2.1, ek.2.2.2.1, ek.2.2.2.2.1, rfl, rfl, rfl, rfl⟩
        have hN2 : gi_N G2 wc c (T + N) := by
          refine ⟨fun k hk => ?_, fun k hk => by rw [e 73 k (by omega)]; exact hN.2.1 k hk, fun k hk hk2 => by rw [e 70 k (by omega), e 68 k (by omega), e 69 k (by omega), e 72 k (by omega)]; exact hN.2.2 k hk hk2⟩
          have nk := hN.1 k hk
          unfold gi_n at nk ⊢
          rw [e 66 k (by omega), e 67 k (by omega), e 71 k (by omega), e 73 k (by omega)]
          by_cases y : k < wc
          · have p := j6 k y
            have rk := rg k y
            rw [p.1, p.2.1, p.2.2.1, p.2.2.2]
            exact ⟨nk.1, nk.2.1, ⟨nk.2.2.1.1, by have := nk.2.2.1.2; omega⟩, nk.2.2.2.1, rk.1, rk.2.1, rk.2.2.1, rk.2.2.2⟩
          · rw [e 68 k (by omega), e 69 k (by omega), e 70 k (by omega), e 72 k (by omega)]
            exact ⟨nk.1, nk.2.1, ⟨nk.2.2.1.1, by have := nk.2.2.1.2; omega⟩, nk.2.2.2.1, nk.2.2.2.2.1, nk.2.2.2.2.2.1, nk.2.2.2.2.2.2.1, nk.2.2.2.2.2.2.2.1, by have := nk.2.2.2.2.2.2.2.2; omega⟩
        have hS2 : gi_S G2 wc c (T + N) := by
          have q := gi_S_f hS (G' := G2) (fun b j x => e b j (by omega))
          exact ⟨q.1, q.2.1, q.2.2.1, q.2.2.2.1, fun k hk => by have := q.2.2.2.2 k hk; omega⟩
        have hP2 : gi_P G2 wc := by
          by_cases y : N = 0
          · rw [if_pos y] at i5 j5
            refine gi_P_f hP (fun b j x => ?_)
            by_cases u : b = 24 ∧ j = 11
            · rw [u.1, u.2, j3 24 11 (by omega)]; exact i5
            · by_cases v : b = 60 ∧ j = 53
              · rw [v.1, v.2, j5]; exact i3 60 53 (by omega)
              · exact e b j (by omega)
          · rw [if_neg y] at i5 j5
            exact gi_P_s hP (fun b j x => e b j (by omega)) (by rw [j3 24 11 (by omega)]; exact i5) j5
        exact ⟨(fun a k b hb => by rw [hR2]; exact hF a k b hb), hD2, gi_A_f hA (fun b j x => e b j (by omega)), gi_F_f hFa (fun b j x => e b j (by omega)), gi_T_f hT (fun b j x => e b j (by omega)), gi_B_f hB (fun b j x => e b j (by omega)), gi_M_f hM (fun b j x => e b j (by omega)) (fun k _ => by rw [hR2]) (fun k _ => by rw [hA2]), gi_C_f hC (fun b j x => e b j (by omega)), gi_X_f hX (fun k _ => by rw [hR2]) (fun k _ => by rw [hA2]), hE2, hN2, gi_L_f hL (fun b j x => e b j (by omega)), gi_I_f hI (fun b j x => e b j (by omega)), hS2, gi_K_f hK (fun b j x => e b j (by omega)), hP2, gi_O_f hO (fun b j x => e b j (by omega)) (by rw [hR2]) (by rw [hR2])⟩
      · exact absurd h1 h2
    · refine ⟨_, rfl, am_mono ?_ (gd_Mo X (d + 56) h hn hNd hWd hW hp hl hF (fun _ _ _ _ => rfl))⟩
      rintro r G2 (⟨h2, -⟩ | ⟨-, rfl, rfl⟩)
      · exact absurd h2 h1
      · exact ⟨rfl, c, kc, z, T, h⟩
  · refine ⟨⟨rfl, rfl⟩, fun _ _ _ => rfl, by rw [d1]; omega, by rw [if_pos rfl], fun k hk => ?_⟩
    have ek := hE k hk
    rw [← hWd]
    exact ⟨ek.2.2.2.2.2.1, ek.2.2.2.2.2.2.1, ek.2.2.2.2.2.2.2.1, ek.2.2.2.2.2.2.2.2⟩
