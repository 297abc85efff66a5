/-! ===== a new wheel: the pair ===== -/
theorem gq_wheel_y (X : gx_T) (d : Nat) {G : mm_T} {mc wc c kc z : Nat} {T : Int} (h : gi_G G mc wc c kc z T) {kd s m1 l1 m2 l2 m3 l3 : Int} (h0 : i3_in kd) (hs : i3_in s) (h1 : i3_in m1) (h2 : i3_in l1) (h3 : i3_in m2) (h4 : i3_in l2) (h5 : i3_in m3) (h6 : i3_in l3) (hn : wk_K G wc c kd s m1 l1 m2 l2 m3 l3) : aw_M X (d + 59) mt_K_wheel [av_r (some 0), av_i kd, av_i s, av_i m1, av_i l1, av_i m2, av_i l2, av_i m3, av_i l3] G 1 10 (gj_P X (d + 59) mt_Mo_wheel [av_r (some 60), av_i kd, av_i s, av_i m1, av_i l1, av_i m2, av_i l2, av_i m3, av_i l3] (gi_J mc (wc + 1))) := by
  obtain ⟨hF, hD, hA, hFa, hT, hB, hM, hC, hX, hE, hN, hL, hI, hS, hK, hP, hO⟩ := id h
  obtain ⟨c1, c2, c3, c4, c5, c6⟩ := id hC
  obtain ⟨m_1, m_2, m_3, m_4, m_5, m_6⟩ := id hM
  have hn' := (wk_i hM hL).mp hn
  obtain ⟨a1, a2, a3, ⟨a4, a5⟩, a6, a7, b1, b2, b3, n1, n2, n3⟩ := id hn'
  have kk : ∀ m l : Int, (m = -1 ∨ (0 ≤ m ∧ m < mm_I G 60 3 ∧ 1 ≤ l ∧ l ≤ mm_I G 64 m.toNat)) → m = -1 ∨ (0 ≤ m ∧ m < (mc : Int) ∧ 1 ≤ l ∧ l ≤ 1000) := fun m l x => by
    rw [m_2] at x
    rcases x with x | x
    · exact Or.inl x
    · have := (m_6 m.toNat (by omega)).2.1
      exact Or.inr ⟨x.1, x.2.1, x.2.2.1, by omega⟩
  have k1 := kk m1 l1 b1
  have k2 := kk m2 l2 b2
  have k3 := kk m3 l3 b3
  have d3 := hD.2.2
  clear b1 b2 b3 n1 n2 n3
  refine am_mono ?_ (cm_K_wheel X (d + 54) G hF (gi_W hC hM hX) (fun q => hX.2 wc (Nat.le_refl _) q) c1 c3 h0 hs h1 h2 h3 h4 h5 h6 c4 c6 (gi_hly hL) (fun k hk => by rw [(m_6 k hk).1.2.1]; exact (m_6 k hk).2.1) (fun k hk => by rw [(m_6 k hk).1.2.2]; have := (m_6 k hk).2.2; omega))
  rintro r G1 (⟨-, rfl, e1⟩ | ⟨x, -⟩)
  · rw [hD.1] at e1
    obtain ⟨f1, ⟨a13, a14, a15, a16, a4', a12⟩, ⟨w0, w1, w2, w4, w5, w6, w7, w9⟩, ⟨q014, q2411⟩, R1, R6, A1, ffa⟩ := gw_K a1 (by omega) (by omega) (by omega) e1
    have hF1 : fx_R G1 := fx_by hF (fun a k q1 q2 q3 q4 => R1 a k (by omega) (by omega))
    refine ⟨_, rfl, am_mono ?_ (cm_Mo_wheel X (d + 56) G1 hF1 h0 hs h1 h2 h3 h4 h5 h6 (by rw [f1 60 4 (by omega)]; exact c2) c3 (by rw [f1 60 5 (by omega)]; exact c5) c6 (by rw [f1 60 3 (by omega), m_2]; omega) (fun k hk => by rw [f1 64 k (by omega)]; exact (m_6 k hk).2.1) (fun k hk => by rw [f1 65 k (by omega)]; have := (m_6 k hk).2.2; omega) (fun q => by rw [f1 70 wc (by omega)]; exact (hN.2.2 wc (Nat.le_refl _) q).1))⟩
    have r67 : mm_I G1 67 = mm_I G 67 := funext fun j => f1 67 j (by omega)
    have r64 : mm_I G1 64 = mm_I G 64 := funext fun j => f1 64 j (by omega)
    have r73 : mm_I G1 73 = mm_I G 73 := funext fun j => f1 73 j (by omega)
    have r66 : mm_I G1 66 = mm_I G 66 := funext fun j => f1 66 j (by omega)
    have r71 : mm_I G1 71 = mm_I G 71 := funext fun j => f1 71 j (by omega)
    have r75 : mm_I G1 75 = mm_I G 75 := funext fun j => f1 75 j (by omega)
    have r76 : mm_I G1 76 = mm_I G 76 := funext fun j => f1 76 j (by omega)
    have r77 : mm_I G1 77 = mm_I G 77 := funext fun j => f1 77 j (by omega)
    have r78 : mm_I G1 78 = mm_I G 78 := funext fun j => f1 78 j (by omega)
    rintro r G2 (⟨-, rfl, e2⟩ | ⟨x, -⟩)
    · refine ⟨rfl, c + 1, kc, z, T, ?_⟩
      have U0 : gu_R (xw_0 (xu_v G m1 l1 m2 l2 m3 l3) wc kd T) (ms_I (ms_I (ms_I G1 66 wc kd) 71 wc (mm_I G1 60 0)) 60 4 (wc + 1)) mc wc (3 * wc) 0 := by
        have x0 : ∀ k j, k < 30 → mm_I (xw_0 (xu_v G m1 l1 m2 l2 m3 l3) wc kd T) (200 + k) j = mm_I G (200 + k) j := fun k j hk => by
          rw [xw_o _ _ _ _ (by omega)]; unfold xu_v
          rw [mi_n (by omega), mi_n (by omega), mi_n (by omega), mi_n (by omega), mi_n (by omega), mi_n (by omega)]
        have y0 : ∀ b j : Nat, ¬ (b = 66 ∨ b = 71 ∨ b = 60) → (b = 63 ∨ b = 64 ∨ b = 65 ∨ b = 70 ∨ b = 74) → mm_I (ms_I (ms_I (ms_I G1 66 wc kd) 71 wc (mm_I G1 60 0)) 60 4 (wc + 1)) b j = mm_I G b j := fun b j h1 h2 => by
          rw [mi_n (by omega), mi_n (by omega), mi_n (by omega), f1 b j (by omega)]
        refine ⟨fun k hk => ?_, ?_, fun k => ?_, fun m hm => ?_⟩
        · rw [x0 k 0 hk, x0 k 1 hk, x0 k 2 hk, y0 63 k (by omega) (by omega), y0 64 k (by omega) (by omega), y0 65 k (by omega) (by omega)]
          exact m_6 k hk
        · rw [xw_w, y0 70 wc (by omega) (by omega), (hN.2.2 wc (Nat.le_refl _) a1).1]; exact ⟨rfl, by omega, by omega⟩
        · rw [y0 74 k (by omega) (by omega)]; exact hI.1 k
        · rw [xw_w, y0 74 _ (by omega) (by omega), hI.2.2 wc (Nat.le_refl _) a1 m hm]
          exact ⟨fun x => absurd x (by rw [show (if (3 : Nat) = 2 then T else if (3 : Nat) = 1 then kd else if (3 : Nat) = 0 then (wc : Int) else if (3 : Nat) = 5 then -1 else if (3 : Nat) = 4 then -1 else 0) = 0 from rfl, ib_0]; exact Bool.false_ne_true), fun x => absurd x (by omega)⟩
      have U3 := gu_s (gu_s (gu_s U0 m_3 k1) m_3 k2) m_3 k3
      obtain ⟨f2, ⟨b75, b76, b77, b78⟩, ⟨b66, b71, b67, b73⟩, ⟨q604, q605, q6053⟩, g70, g74, hR, hA2', ffb⟩ := gw_M a1 (by omega) (by omega) (by omega) e2
      have U : gu_R G2 G2 mc wc (3 * wc + 1 + 1 + 1) (0 + 100000 + 100000 + 100000) := gu_f U3 a1 (ff_t ffa (fun b j x => f2 b j (by omega))) ffb
      have e : ∀ b j : Nat, ¬ (b = 40 ∨ b = 41 ∨ b = 300 + wc ∨ (200 ≤ b ∧ b < 230) ∨ b = 4 ∨ (13 ≤ b ∧ b ≤ 16) ∨ (b = 12 ∧ j = 4) ∨ (b = 0 ∧ j = 14) ∨ (b = 24 ∧ j = 11) ∨ b = 64 ∨ b = 65 ∨ b = 66 ∨ b = 67 ∨ b = 70 ∨ b = 71 ∨ (73 ≤ b ∧ b ≤ 78) ∨ (b = 60 ∧ (j = 4 ∨ j = 5 ∨ j = 53))) → mm_I G2 b j = mm_I G b j := fun b j x => (f2 b j (by omega)).trans (f1 b j (by omega))
      rw [r66] at b66
      rw [r71, f1 60 0 (by omega), hD.2.1] at b71
      rw [r67] at b67
      rw [r73] at b73
      rw [r75] at b75
      rw [r76] at b76
      rw [r77, f1 60 0 (by omega), hD.2.1] at b77
      rw [r78] at b78
      have R2 : ∀ a k, a ≠ 300 + wc → ¬ (a = 6 ∧ k = wc) → mm_R G2 a k = mm_R G a k := fun a k h1 h2 => by rw [hR]; exact R1 a k h1 h2
      have A2 : ∀ a, a ≠ 300 + wc → mm_A G2 a = mm_A G a := fun a h1 => by rw [hA2']; exact A1 a h1
      have hF2 : fx_R G2 := fun a k b hb => by rw [hR]; exact hF1 a k b hb
      have row : ∀ b, b ≠ 60 → ¬ (b = 64 ∨ b = 65 ∨ b = 66 ∨ b = 67 ∨ b = 70 ∨ b = 71 ∨ (73 ≤ b ∧ b ≤ 78)) → mm_I G2 b = mm_I G1 b := fun b h1 h2 => funext fun j => f2 b j (by omega)
      have hM2 : gi_M G2 mc (wc + 1) := by
        refine ⟨by rw [e 0 13 (by omega)]; exact m_1, by rw [e 60 3 (by omega)]; exact m_2, m_3, fun k hk => by rw [R2 5 k (by omega) (by omega)]; exact m_4 k hk, fun k hk hk2 => by rw [A2 _ (by omega)]; exact m_5 k hk hk2, fun k hk => ?_⟩
        have q := U.1 k hk
        exact ⟨q.1, q.2.1, q.2.2.1, by have := q.2.2.2.1; omega, q.2.2.2.2⟩
      have hC2 : gi_C G2 (wc + 1) (c + 1) := ⟨by rw [f2 0 14 (by omega)]; exact q014, q604, by omega, by rw [f2 12 4 (by omega)]; exact a12, q605, by omega⟩
      have hX2 : gi_X G2 (wc + 1) := by
        refine ⟨fun k hk => ?_, fun k hk hk2 => ?_⟩
        · by_cases y : k = wc
          · subst y; rw [hR]; exact R6
          · rw [R2 6 k (by omega) (by omega)]; exact hX.1 k (by omega)
        · rw [A2 _ (by omega)]; exact hX.2 k (by omega) hk2
      have hE2 : gi_E G2 (wc + 1) := by
        intro k hk
        unfold gi_e
        rw [b66, b71, b67, b73]
        by_cases y : k = wc
        · subst y
          rw [upp_s, upp_s, upp_s, upp_s, row (300 + k) (by omega) (by omega), w0, w1, w2, w4, w5, w6, w7, w9, ← row (300 + k) (by omega) (by omega), U.2.1.1, e 68 k (by omega), e 69 k (by omega), e 72 k (by omega), (hN.2.2 k (Nat.le_refl _) a1).2.1, (hN.2.2 k (Nat.le_refl _) a1).2.2.1, (hN.2.2 k (Nat.le_refl _) a1).2.2.2]
          exact ⟨rfl, rfl, rfl, rfl, rfl, rfl, rfl, rfl, rfl⟩
        · have ek := hE k (by omega)
          unfold gi_e at ek
          rw [upp_n _ y, upp_n _ y, upp_n _ y, upp_n _ y, e (300 + k) 0 (by omega), e (300 + k) 1 (by omega), e (300 + k) 2 (by omega), e (300 + k) 4 (by omega), e (300 + k) 5 (by omega), e (300 + k) 6 (by omega), e (300 + k) 7 (by omega), e (300 + k) 8 (by omega), e (300 + k) 9 (by omega), e 68 k (by omega), e 69 k (by omega), e 72 k (by omega), g70 k y, f1 70 k (by omega)]
          exact ek
      have hN2 : gi_N G2 (wc + 1) (c + 1) T := by
        refine ⟨fun k hk => ?_, fun k hk => ?_, fun k hk hk2 => ?_⟩
        · have nk := hN.1 k hk
          unfold gi_n at nk ⊢
          rw [b66, b71, b67, b73, e 68 k (by omega), e 69 k (by omega), e 72 k (by omega)]
          by_cases y : k = wc
          · subst y
            have u := U.2.1.2
            rw [upp_s, upp_s, upp_s, upp_s]
            exact ⟨a3, ⟨by omega, by omega⟩, ⟨by omega, by omega⟩, ⟨by omega, by omega⟩, nk.2.2.2.2.1, nk.2.2.2.2.2.1, ⟨u.1, by omega⟩, nk.2.2.2.2.2.2.2⟩
          · rw [upp_n _ y, upp_n _ y, upp_n _ y, upp_n _ y, g70 k y, f1 70 k (by omega)]; exact nk
        · rw [b73]
          by_cases y : k = wc
          · subst y; rw [upp_s]; omega
          · rw [upp_n _ y]; have := hN.2.1 k (by omega); omega
        · rw [e 68 k (by omega), e 69 k (by omega), e 72 k (by omega), g70 k (by omega), f1 70 k (by omega)]; exact hN.2.2 k (by omega) hk2
      have hL2 : gi_L G2 (wc + 1) := by
        intro t ht
        have l4 := hL t ht
        have e67 : ct_n (upp (mm_I G 67) wc s) (t : Int) wc = ct_n (mm_I G 67) t wc := ct_eq _ (fun k hk => upp_n _ (by omega))
        rw [row 4 (by omega) (by omega), a4', b67, ct_n, upp_s, e67]
        by_cases y : t = s.toNat
        · have l5 := hn.2.2.2.1.2.2
          rw [y, upp_s, if_pos (by omega), ← y, l4.1]
          rw [← y, l4.1] at l5
          omega
        · rw [upp_n _ y, if_neg (by omega)]
          omega
      have hI2 : gi_I G2 (wc + 1) := by
        refine ⟨U.2.2.1, fun k hk m hm => ?_, fun k hk hk2 m hm => ?_⟩
        · by_cases y : k = wc
          · subst y; exact U.2.2.2 m hm
          · rw [e (300 + k) 3 (by omega), g74 m k y (by omega), f1 74 _ (by omega)]; exact hI.2.1 k (by omega) m hm
        · rw [g74 m k (by omega) hk2, f1 74 _ (by omega)]; exact hI.2.2 k (by omega) hk2 m hm
      have hS2 : gi_S G2 (wc + 1) (c + 1) T := by
        obtain ⟨s1, s2, s3, s4, s5⟩ := hS
        refine ⟨by rw [row 13 (by omega) (by omega), a13, b75, s1], by rw [row 14 (by omega) (by omega), a14, b76, s2], by rw [row 15 (by omega) (by omega), a15, b77, s3], by rw [row 16 (by omega) (by omega), a16, b78, s4], fun k hk => ?_⟩
        rw [row 13 (by omega) (by omega), row 16 (by omega) (by omega), a13, a16]
        by_cases y : k = c
        · subst y; rw [upp_s, upp_s]; omega
        · rw [upp_n _ y, upp_n _ y]; have := s5 k (by omega); omega
      exact ⟨hF2, gi_D_f hD (fun b j x => e b j (by omega)), gi_A_f hA (fun b j x => e b j (by omega)), gi_F_f hFa (fun b j x => e b j (by omega)), gi_T_f hT (fun b j x => e b j (by omega)), gi_B_f hB (fun b j x => e b j (by omega)), hM2, hC2, hX2, hE2, hN2, hL2, hI2, hS2, gi_K_f hK (fun b j x => e b j (by omega)), gi_P_s hP (fun b j x => e b j (by omega)) (by rw [f2 24 11 (by omega)]; exact q2411) q6053, gi_O_f hO (fun b j x => e b j (by omega)) (by rw [R2 0 11 (by omega) (by omega)]) (by rw [R2 0 12 (by omega) (by omega)])⟩
    · exfalso
      rw [r67, r64, f1 60 3 (by omega)] at x
      exact x hn'
  · exact absurd hn x
