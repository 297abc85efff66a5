/-! ===== selling and moving ===== -/
theorem gi_hst {G : mm_T} {wc c : Nat} {T : Int} (hC : gi_C G wc c) (hE : gi_E G wc) (hN : gi_N G wc c T) : ∀ k : Nat, (k : Int) < mm_I G 0 14 → 0 ≤ mm_I G (300 + k) 5 ∧ mm_I G (300 + k) 5 < c := fun k hk => by
  have c1 := hC.1
  have c3 := hC.2.2.1
  rw [(hE k (by omega)).2.2.2.2.1]; exact ⟨(hN.1 k (by omega)).2.2.2.1.1, hN.2.1 k (by omega)⟩
theorem gi_hsh {G : mm_T} {wc c : Nat} {T : Int} (hC : gi_C G wc c) (hE : gi_E G wc) (hN : gi_N G wc c T) : ∀ k : Nat, (k : Int) < mm_I G 0 14 → -1 ≤ mm_I G (300 + k) 4 ∧ mm_I G (300 + k) 4 ≤ 23 := fun k hk => by
  have c1 := hC.1
  have c3 := hC.2.2.1
  rw [(hE k (by omega)).2.2.2.1]; exact (hN.1 k (by omega)).2.1
theorem gi_hly {G : mm_T} {wc : Nat} (hL : gi_L G wc) : ∀ k, k < 24 → 0 ≤ mm_I G 4 k ∧ mm_I G 4 k ≤ 4 := fun k hk => by
  have := hL k hk
  have := ct_rng (mm_I G 67) (k : Int) wc
  omega
theorem gq_sell (X : gx_T) (d : Nat) {G : mm_T} {mc wc c kc z : Nat} {T : Int} (h : gi_G G mc wc c kc z T) {w : Int} (hw : i3_in w) : aw_M X (d + 59) mt_K_sell [av_r (some 0), av_i w] G 0 0 (gj_P X (d + 59) mt_Mo_sell [av_r (some 60), av_i w] (gi_J mc wc)) := by
  obtain ⟨hF, hD, hA, hFa, hT, hB, hM, hC, hX, hE, hN, hL, hI, hS, hK, hP, hO⟩ := id h
  have c3 := hC.2.2.1
  have hcd : ((0 ≤ w ∧ w < mm_I G 0 14) ∧ mm_I G (300 + w.toNat) 4 ≠ -1) ↔ (0 ≤ w ∧ w < mm_I G 60 4 ∧ 0 ≤ mm_I G 67 w.toNat) := by
    rw [hC.1, hC.2.1]
    by_cases y : 0 ≤ w ∧ w < (wc : Int)
    · have e4 := (hE w.toNat (by omega)).2.2.2.1
      have n4 := (hN.1 w.toNat (by omega)).2.1
      rw [e4]
      exact ⟨fun x => ⟨y.1, y.2, by have := x.2; omega⟩, fun x => ⟨y, by omega⟩⟩
    · exact ⟨fun x => absurd x.1 y, fun x => absurd ⟨x.1, x.2.1⟩ y⟩
  refine am_mono ?_ (cm_K_sell X (d + 56) G hF (gi_W hC hM hX) hw (by rw [hC.2.2.2.1]; have := hC.2.2.2.2.2; omega) (fun k hk => by rw [hC.2.2.2.1]; exact gi_hst hC hE hN k hk) (gi_hsh hC hE hN) (gi_hly hL))
  rintro r G1 (⟨h1, rfl, e1⟩ | ⟨h1, rfl, rfl⟩)
  · have q1 := hcd.mp h1
    have c2 := hC.2.1
    have hk : w.toNat < wc := by omega
    have d3 := hD.2.2.1
    have ek := hE w.toNat hk
    have nk := hN.1 w.toNat (by omega)
    rw [ek.2.2.2.1, ek.2.2.2.2.1, hD.1] at e1
    have f1 : ∀ b j : Nat, ¬ (b = 16 ∨ b = 4 ∨ (b = 300 + w.toNat ∧ j = 4) ∨ (b = 24 ∧ j = 11)) → mm_I G1 b j = mm_I G b j := by rw [e1]; exact (ff_s (ff_s (ff_s (ff_s (ff_0 (fun b j : Nat => ¬ (b = 16 ∨ b = 4 ∨ (b = 300 + w.toNat ∧ j = 4) ∨ (b = 24 ∧ j = 11))) G) (by omega)) (by omega)) (by omega)) (by omega))
    have hR1 : mm_R G1 = mm_R G := by rw [e1]; rfl
    have hA1 : mm_A G1 = mm_A G := by rw [e1]; rfl
    have hF1 : fx_R G1 := fun a k b hb => by rw [hR1]; exact hF a k b hb
    refine ⟨_, rfl, am_mono ?_ (cm_Mo_sell X (d + 56) G1 hF1 hw (by rw [f1 60 4 (by omega), c2]; omega) (fun k hk => by rw [f1 73 k (by omega)]; exact (hN.1 k hk).2.2.2.1))⟩
    rintro r G2 (⟨-, rfl, e2⟩ | ⟨h2, -⟩)
    · refine ⟨rfl, c, kc, z, T, ?_⟩
      rw [f1 73 _ (by omega), f1 60 0 (by omega), hD.2.1] at e2
      have f2 : ∀ b j : Nat, ¬ (b = 78 ∨ b = 67 ∨ (b = 60 ∧ j = 53)) → mm_I G2 b j = mm_I G1 b j := by rw [e2]; exact (ff_s (ff_s (ff_s (ff_0 (fun b j : Nat => ¬ (b = 78 ∨ b = 67 ∨ (b = 60 ∧ j = 53))) G1) (by omega)) (by omega)) (by omega))
      have hR2 : mm_R G2 = mm_R G := by rw [e2]; exact hR1
      have hA2 : mm_A G2 = mm_A G := by rw [e2]; exact hA1
      have e : ∀ b j : Nat, ¬ ((b = 16 ∨ b = 4 ∨ (b = 300 + w.toNat ∧ j = 4) ∨ (b = 24 ∧ j = 11)) ∨ (b = 78 ∨ b = 67 ∨ (b = 60 ∧ j = 53))) → mm_I G2 b j = mm_I G b j := fun b j x => (f2 b j (by omega)).trans (f1 b j (by omega))
      have r16 : mm_I G2 16 = upp (mm_I G 16) (mm_I G 73 w.toNat).toNat T := by rw [e2, e1]; simp (disch := omega) only [mi_row, mi_up]
      have r78 : mm_I G2 78 = upp (mm_I G 78) (mm_I G 73 w.toNat).toNat T := by rw [e2, e1]; simp (disch := omega) only [mi_row, mi_up]
      have r67 : mm_I G2 67 = upp (mm_I G 67) w.toNat (-1) := by rw [e2, e1]; simp (disch := omega) only [mi_row, mi_up]
      have r4 : mm_I G2 4 = upp (mm_I G 4) (mm_I G 67 w.toNat).toNat (mm_I G 4 (mm_I G 67 w.toNat).toNat - 1) := by rw [e2, e1]; simp (disch := omega) only [mi_row, mi_up]
      have rw4 : mm_I G2 (300 + w.toNat) 4 = -1 := by rw [f2 _ _ (by omega), e1, mi_n (by omega), mi_s]
      have hE2 : gi_E G2 wc := by
        intro k hk
        have ek := hE k hk
        unfold gi_e at ek ⊢
        rw [e (300 + k) 0 (by omega), e (300 + k) 1 (by omega), e (300 + k) 2 (by omega), e (300 + k) 5 (by omega), e (300 + k) 6 (by omega), e (300 + k) 7 (by omega), e (300 + k) 8 (by omega), e (300 + k) 9 (by omega), e 66 k (by omega), e 68 k (by omega), e 69 k (by omega), e 70 k (by omega), e 71 k (by omega), e 72 k (by omega), e 73 k (by omega), r67]
        by_cases y : k = w.toNat
        · subst y
          rw [rw4, upp_s]; exact ⟨ek.1, ek.2.1, ek.2.2.1, rfl, ek.2.2.2.2⟩
        · rw [e (300 + k) 4 (by omega), upp_n _ y]; exact ek
      have hN2 : gi_N G2 wc c T := by
        refine ⟨fun k hk => ?_, fun k hk => by rw [e 73 k (by omega)]; exact hN.2.1 k hk, fun k hk hk2 => by rw [e 70 k (by omega), e 68 k (by omega), e 69 k (by omega), e 72 k (by omega)]; exact hN.2.2 k hk hk2⟩
        have nk := hN.1 k hk
        unfold gi_n at nk ⊢
        rw [e 66 k (by omega), e 68 k (by omega), e 69 k (by omega), e 70 k (by omega), e 71 k (by omega), e 72 k (by omega), e 73 k (by omega), r67]
        by_cases y : k = w.toNat
        · subst y
          rw [upp_s]; exact ⟨nk.1, ⟨by omega, by omega⟩, nk.2.2⟩
        · rw [upp_n _ y]; exact nk
      have hL2 : gi_L G2 wc := by
        intro t ht
        rw [r4, r67, ct_upp, if_pos hk]
        have q := hL t ht
        have n67 := nk.2.1
        by_cases x : t = (mm_I G 67 w.toNat).toNat
        · subst x
          rw [upp_s, if_neg (by omega), if_pos (by omega), ← q.1]; omega
        · rw [upp_n _ x, if_neg (by omega), if_neg (by omega), ← q.1]; omega
      have hS2 : gi_S G2 wc c T := by
        obtain ⟨s1, s2, s3, s4, s5⟩ := hS
        have r13 : mm_I G2 13 = mm_I G 13 := by rw [e2, e1]; simp (disch := omega) only [mi_row]
        have r14 : mm_I G2 14 = mm_I G 14 := by rw [e2, e1]; simp (disch := omega) only [mi_row]
        have r15 : mm_I G2 15 = mm_I G 15 := by rw [e2, e1]; simp (disch := omega) only [mi_row]
        have r75 : mm_I G2 75 = mm_I G 75 := by rw [e2, e1]; simp (disch := omega) only [mi_row]
        have r76 : mm_I G2 76 = mm_I G 76 := by rw [e2, e1]; simp (disch := omega) only [mi_row]
        have r77 : mm_I G2 77 = mm_I G 77 := by rw [e2, e1]; simp (disch := omega) only [mi_row]
        refine ⟨by rw [r13, r75, s1], by rw [r14, r76, s2], by rw [r15, r77, s3], by rw [r16, r78, s4], fun k hk => ?_⟩
        have s5 := s5 k hk
        rw [r13, r16]
        by_cases x : k = (mm_I G 73 w.toNat).toNat
        · subst x; rw [upp_s]; exact ⟨s5.1, by omega, by omega⟩
        · rw [upp_n _ x]; exact s5
      exact ⟨(fun a k b hb => by rw [hR2]; exact hF a k b hb), gi_D_f hD (fun b j x => e b j (by omega)), gi_A_f hA (fun b j x => e b j (by omega)), gi_F_f hFa (fun b j x => e b j (by omega)), gi_T_f hT (fun b j x => e b j (by omega)), gi_B_f hB (fun b j x => e b j (by omega)), gi_M_f hM (fun b j x => e b j (by omega)) (fun k _ => by rw [hR2]) (fun k _ => by rw [hA2]), gi_C_f hC (fun b j x => e b j (by omega)), gi_X_f hX (fun k _ => by rw [hR2]) (fun k _ => by rw [hA2]), hE2, hN2, hL2, gi_I_f hI (fun b j x => e b j (by omega)), hS2, gi_K_f hK (fun b j x => e b j (by omega)), gi_P_s hP (fun b j x => e b j (by omega)) (by rw [f2 24 11 (by omega), e1]; exact mi_s _ _ _ _) (by rw [e2]; exact mi_s _ _ _ _), gi_O_f hO (fun b j x => e b j (by omega)) (by rw [hR2]) (by rw [hR2])⟩
    · rw [f1 60 4 (by omega), f1 67 _ (by omega)] at h2
      exact absurd q1 h2
  · refine ⟨_, rfl, am_mono ?_ (cm_Mo_sell X (d + 56) _ hF hw (by rw [hC.2.1]; omega) (fun k hk => (hN.1 k hk).2.2.2.1))⟩
    rintro r G2 (⟨h2, -⟩ | ⟨-, rfl, rfl⟩)
    · exact absurd (hcd.mpr h2) h1
    · exact ⟨rfl, c, kc, z, T, h⟩
theorem gv_to {G : mm_T} {wc c : Nat} {T : Int} (h : gv_V G G wc c T) (hwc : wc ≤ 40) (hc : c ≤ 200) (h4 : ∀ t : Nat, t < 24 → ct_n (mm_I G 67) t wc ≤ 4) : gi_C G wc c ∧ gi_E G wc ∧ gi_N G wc c T ∧ gi_L G wc ∧ gi_S G wc c T := by
  obtain ⟨⟨c1, c2, c3, c4⟩, -, hE, hN, hL, hS⟩ := h
  exact ⟨⟨c1, c2, hwc, c3, c4, hc⟩, hE, hN, fun t ht => ⟨hL t ht, by rw [hL t ht]; exact h4 t ht⟩, hS⟩
theorem gq_move (X : gx_T) (d : Nat) {G : mm_T} {mc wc c kc z : Nat} {T : Int} (h : gi_G G mc wc c kc z T) {w s : Int} (hw : i3_in w) (hs : i3_in s) : aw_M X (d + 59) mt_K_move [av_r (some 0), av_i w, av_i s] G 0 0 (gj_P X (d + 59) mt_Mo_move [av_r (some 60), av_i w, av_i s] (gi_J mc wc)) := by
  obtain ⟨hF, hD, hA, hFa, hT, hB, hM, hC, hX, hE, hN, hL, hI, hS, hK, hP, hO⟩ := id h
  obtain ⟨c1, c2, c3, c4, c5, c6⟩ := id hC
  have hcd : (((0 ≤ w ∧ w < mm_I G 0 14) ∧ mm_I G (300 + w.toNat) 4 ≠ -1) ∧ mm_I G (300 + w.toNat) 4 ≠ s ∧ (0 ≤ s ∧ s ≤ 23 ∧ mm_I G 4 s.toNat < 4) ∧ c < 200) ↔ ((0 ≤ w ∧ w < wc ∧ 0 ≤ mm_I G 67 w.toNat) ∧ (0 ≤ s ∧ s ≤ 23) ∧ mm_I G 67 w.toNat ≠ s ∧ ct_n (mm_I G 67) s wc ≠ 4 ∧ c ≠ 200) := by
    rw [c1]
    by_cases y : (0 ≤ w ∧ w < (wc : Int)) ∧ 0 ≤ s ∧ s ≤ 23
    · have e4 := (hE w.toNat (by omega)).2.2.2.1
      have n4 := (hN.1 w.toNat (by omega)).2.1
      have l4 := hL s.toNat (by omega)
      rw [show ((s.toNat : Nat) : Int) = s by omega] at l4
      rw [e4, l4.1]
      exact ⟨fun x => ⟨⟨y.1.1, y.1.2, by have := x.1.2; omega⟩, y.2, x.2.1, by omega, by omega⟩, fun x => ⟨⟨y.1, by omega⟩, x.2.2.1, ⟨by omega, by omega, by have := x.2.2.2.1; omega⟩, by omega⟩⟩
    · exact ⟨fun x => absurd ⟨x.1.1, x.2.2.1.1, x.2.2.1.2.1⟩ y, fun x => absurd ⟨⟨x.1.1, x.1.2.1⟩, x.2.1⟩ y⟩
  refine am_mono ?_ (cm_K_move X (d + 54) G hF (gi_W hC hM hX) hw hs c4 c6 (fun k hk => (hE k (by omega)).1) (gi_hst hC hE hN) (gi_hsh hC hE hN) (gi_hly hL) ?_)
  · rintro r G1 (⟨h1, rfl, Gx, ex, e1⟩ | ⟨h1, rfl, rfl⟩)
    · have q1 := hcd.mp h1
      have hk : w.toNat < wc := by omega
      have ew : ((w.toNat : Nat) : Int) = w := by omega
      have e1 : G1 = ms_I (xt_v G w.toNat s) 24 11 1 := by
        rw [e1, ex]; unfold xt_v xt_1; rw [show (mm_I G 12 4).toNat = c by omega, ew]
      have f1 : ∀ b j : Nat, ¬ (b = 4 ∨ (13 ≤ b ∧ b ≤ 16) ∨ (b = 300 + w.toNat ∧ (j = 4 ∨ j = 5)) ∨ (b = 12 ∧ j = 4) ∨ (b = 24 ∧ j = 11)) → mm_I G1 b j = mm_I G b j := by
        rw [e1]; exact ff_s (P := fun b j => ¬ (b = 4 ∨ (13 ≤ b ∧ b ≤ 16) ∨ (b = 300 + w.toNat ∧ (j = 4 ∨ j = 5)) ∨ (b = 12 ∧ j = 4) ∨ (b = 24 ∧ j = 11))) (xt_ff (fun b j x => by omega)) (by omega)
      have hR1 : mm_R G1 = mm_R G := by rw [e1]; rfl
      have hA1 : mm_A G1 = mm_A G := by rw [e1]; rfl
      have hF1 : fx_R G1 := fun a k b hb => by rw [hR1]; exact hF a k b hb
      have r67 : mm_I G1 67 = mm_I G 67 := funext fun j => f1 67 j (by omega)
      refine ⟨_, rfl, am_mono ?_ (cm_Mo_move X (d + 56) G1 hF1 hw hs (by rw [f1 60 4 (by omega)]; exact c2) c3 (by rw [f1 60 5 (by omega)]; exact c5) c6 (fun k hk => by rw [f1 73 k (by omega)]; exact (hN.1 k hk).2.2.2.1))⟩
      rintro r G2 (⟨-, rfl, e2⟩ | ⟨h2, -⟩)
      · refine ⟨rfl, c + 1, kc, z, T, ?_⟩
        have e2 : G2 = ms_I (mgo_v G1 ((w.toNat : Nat) : Int) s) 60 53 0 := by
          rw [e2]; unfold mgo_v; rw [show (mm_I G1 60 5).toNat = c by rw [f1 60 5 (by omega)]; omega, ew]
        have f2 : ∀ b j : Nat, ¬ (b = 67 ∨ b = 73 ∨ (75 ≤ b ∧ b ≤ 78) ∨ (b = 60 ∧ (j = 5 ∨ j = 53))) → mm_I G2 b j = mm_I G1 b j := by
          rw [e2]; exact ff_s (P := fun b j => ¬ (b = 67 ∨ b = 73 ∨ (75 ≤ b ∧ b ≤ 78) ∨ (b = 60 ∧ (j = 5 ∨ j = 53)))) (mgo_ff (fun b j x => by omega)) (by omega)
        have hR2 : mm_R G2 = mm_R G := by rw [e2]; exact hR1
        have hA2 : mm_A G2 = mm_A G := by rw [e2]; exact hA1
        have e : ∀ b j : Nat, ¬ (b = 4 ∨ (13 ≤ b ∧ b ≤ 16) ∨ (b = 300 + w.toNat ∧ (j = 4 ∨ j = 5)) ∨ (b = 12 ∧ j = 4) ∨ (b = 24 ∧ j = 11) ∨ b = 67 ∨ b = 73 ∨ (75 ≤ b ∧ b ≤ 78) ∨ (b = 60 ∧ (j = 5 ∨ j = 53))) → mm_I G2 b j = mm_I G b j := fun b j x => (f2 b j (by omega)).trans (f1 b j (by omega))
        have V := gv_mv (s := s) (gv_f (gv_of hD hC hE hN hL hS) (ff_0 _ G) (fun b j x => f1 b j (by omega))) hk c3 (by rw [r67]; omega) ⟨by omega, by omega⟩ (by omega) hD.2.2.1
        have b67 := (mgo_rows (A := G1) (w := w.toNat) (s := s) (c := c) (by rw [f1 60 5 (by omega)]; exact c5)).2.2.2.2.1
        have V2 : gv_V G2 G2 wc (c + 1) T := gv_f V (fun b j x => by rw [f2 b j (by omega), e1]; exact mi_n (by omega)) (fun b j x => by rw [e2]; exact mi_n (by omega))
        have r67' : mm_I G2 67 = upp (mm_I G 67) w.toNat s := by rw [e2, mi_row (show 67 ≠ 60 by omega), b67, r67]
        obtain ⟨hC2, hE2, hN2, hL2, hS2⟩ := gv_to V2 c3 (by omega) (fun t ht => by
          rw [r67', ct_upp, if_pos hk]
          have l4 := hL t ht
          by_cases y : s = (t : Int)
          · have := q1.2.2.2.1
            have hs4 := h1.2.2.1.2.2
            rw [show s.toNat = t by omega] at hs4
            rw [if_pos y]; split <;> omega
          · rw [if_neg y]; split <;> omega)
        exact ⟨(fun a k b hb => by rw [hR2]; exact hF a k b hb), gi_D_f hD (fun b j x => e b j (by omega)), gi_A_f hA (fun b j x => e b j (by omega)), gi_F_f hFa (fun b j x => e b j (by omega)), gi_T_f hT (fun b j x => e b j (by omega)), gi_B_f hB (fun b j x => e b j (by omega)), gi_M_f hM (fun b j x => e b j (by omega)) (fun k _ => by rw [hR2]) (fun k _ => by rw [hA2]), hC2, gi_X_f hX (fun k _ => by rw [hR2]) (fun k _ => by rw [hA2]), hE2, hN2, hL2, gi_I_f hI (fun b j x => e b j (by omega)), hS2, gi_K_f hK (fun b j x => e b j (by omega)), gi_P_s hP (fun b j x => e b j (by omega)) (by rw [f2 24 11 (by omega), e1]; exact mi_s _ _ _ _) (by rw [e2]; exact mi_s _ _ _ _), gi_O_f hO (fun b j x => e b j (by omega)) (by rw [hR2]) (by rw [hR2])⟩
      · rw [r67] at h2
        exact absurd q1 h2
    · refine ⟨_, rfl, am_mono ?_ (cm_Mo_move X (d + 56) _ hF hw hs c2 c3 c5 c6 (fun k hk => (hN.1 k hk).2.2.2.1))⟩
      rintro r G2 (⟨h2, -⟩ | ⟨-, rfl, rfl⟩)
      · exact absurd (hcd.mpr h2) h1
      · exact ⟨rfl, c, kc, z, T, h⟩
  · intro k hk hne
    have e4 := (hE k (by omega)).2.2.2.1
    have n4 := (hN.1 k (by omega)).2.1
    rw [e4] at hne ⊢
    rw [(hL (mm_I G 67 k).toNat (by omega)).1, show (((mm_I G 67 k).toNat : Nat) : Int) = mm_I G 67 k by omega]
    exact ct_pos (by omega)
