/-! ===== orders, on both sides ===== -/
theorem gq_orders_a (X : gx_T) (d : Nat) {G : mm_T} {mc wc c kc z : Nat} {T : Int} (h : gi_G G mc wc c kc z T) {f0 : Nat → Int} {le0 : Nat → Nat} {dd0 : Nat → Int} {L0 : Nat} (hn : mm_R G 0 12 = some 42) (hw : mm_R G 0 11 = some 48) (hpg : pg_W f0 le0 dd0 L0) (hxp : xp_R_b G f0 le0 dd0 L0) (hxl : mm_I G 48 6 = (L0 : Nat)) (hmp : mp_R G f0 le0 dd0 L0) (hml : mm_I G 60 26 = (L0 : Nat)) : aw_M X (d + 59) mt_K_orders [av_r (some 0)] G 0 0 (gj_P X (d + 59) mt_Mo_orders [av_r (some 60)] (gi_J mc wc)) := by
  obtain ⟨hF, hD, hA, hFa, hT, hB, hM, hC, hX, hE, hN, hL, hI, hS, hK, hP, hO⟩ := id h
  obtain ⟨t1, t2, t3, t4, t5⟩ := id hT
  have bb : bb_B (tb_v G) z := by
    refine ⟨t3, fun k hk => ?_, fun k hk => ?_⟩
    · unfold tb_v; rw [if_pos (by omega)]; exact t5 k
    · unfold tb_v; rw [if_neg (by omega)]
  refine am_mono ?_ (cm_K_orders_a X (d + 4) G hF t1 bb rfl hn hw)
  rintro r G1 ⟨n, hE', (⟨m, o, l, le, dd, Ga, rfl, hd, ⟨⟨p1, p2⟩, p3, p4, p5, p6⟩, ⟨⟨q1, -, q3⟩, q4⟩, ⟨u1, u2⟩, e1⟩ | ⟨m, k, p, Ga, rfl, hd, ⟨⟨q1, -, q3⟩, q4⟩, ⟨u1, u2⟩, e1⟩)⟩
  · have f1 : ∀ b j : Nat, ¬ ((b = 33 ∧ j = 1) ∨ (b = 35 ∧ 1 ≤ j ∧ j ≤ 7) ∨ (36 ≤ b ∧ b ≤ 39) ∨ (b = 42 ∧ (j = 5 ∨ j = 6)) ∨ (43 ≤ b ∧ b ≤ 45)) → mm_I G1 b j = mm_I G b j := fun b j x => by
      rw [e1, mr_I, mr_I, mi_n (by omega)]
      exact q4 b j (by omega) (by omega) (by omega) (by omega) (by omega) (by omega) (by omega) (by omega) (by omega)
    have g1 : ∀ b j : Nat, ¬ (b = 33 ∧ j = 1) → mm_I G1 b j = mm_I Ga b j := fun b j x => by rw [e1, mr_I, mr_I, mi_n x]
    have R1 : ∀ a k, ¬ (a = 0 ∧ (k = 11 ∨ k = 12)) → mm_R G1 a k = mm_R G a k := fun a k x => by
      rw [e1, rr_n (by omega), rr_n (by omega), ← q1]; rfl
    have R11 : mm_R G1 0 11 = some 42 := by rw [e1, rr_n (by omega), rr_s]
    have R12 : mm_R G1 0 12 = some 48 := by rw [e1, rr_s]
    have hA1 : mm_A G1 = mm_A G := by rw [e1]; exact q3
    have hF1 : fx_R G1 := fx_by hF (fun a k _ _ _ x => R1 a k x)
    refine ⟨_, rfl, am_mono ?_ (cm_Mo_ordersk X (d + 53) G1 hF1 (by rw [f1 60 35 (by omega)]; exact t2) bb (fun k => ?_) hE' hd)⟩
    · rintro r G2 ⟨rfl, ⟨o1, o2⟩, o3, -, o5, o6, o7, o8⟩
      refine ⟨rfl, c, kc, 0, T, ?_⟩
      have f2 : ∀ b j : Nat, ¬ ((b = 60 ∧ (j = 26 ∨ (31 ≤ j ∧ j ≤ 33) ∨ (35 ≤ j ∧ j ≤ 46))) ∨ (79 ≤ b ∧ b ≤ 88 ∧ b ≠ 87)) → mm_I G2 b j = mm_I G1 b j := fun b j x => by
        rw [o3 b j (by omega) (by omega) (by omega) (by omega) (by omega) (by omega) (by omega) (by omega) (by omega) (by omega)]
        unfold mi_G
        rw [mi_n (by omega), mi_n (by omega), mi_n (by omega), mi_n (by omega), mi_n (by omega), mi_n (by omega), mi_n (by omega), mi_n (by omega)]
      have v35 : mm_I G2 60 35 = 0 := by rw [o3 60 35 (by omega) (by omega) (by omega) (by omega) (by omega) (by omega) (by omega) (by omega) (by omega) (by omega)]; rfl
      have v36 : mm_I G2 60 36 = 0 := by rw [o3 60 36 (by omega) (by omega) (by omega) (by omega) (by omega) (by omega) (by omega) (by omega) (by omega) (by omega)]; rfl
      have v37 : mm_I G2 60 37 = -1 := by rw [o3 60 37 (by omega) (by omega) (by omega) (by omega) (by omega) (by omega) (by omega) (by omega) (by omega) (by omega)]; rfl
      have R2 : mm_R G2 = mm_R G1 := o1
      have A2 : mm_A G2 = mm_A G := o2.trans hA1
      have e : ∀ b j : Nat, ¬ ((b = 33 ∧ j = 1) ∨ (b = 35 ∧ 1 ≤ j ∧ j ≤ 7) ∨ (36 ≤ b ∧ b ≤ 39) ∨ (b = 42 ∧ (j = 5 ∨ j = 6)) ∨ (43 ≤ b ∧ b ≤ 45) ∨ (b = 60 ∧ (j = 26 ∨ (31 ≤ j ∧ j ≤ 33) ∨ (35 ≤ j ∧ j ≤ 46))) ∨ (79 ≤ b ∧ b ≤ 88 ∧ b ≠ 87)) → mm_I G2 b j = mm_I G b j := fun b j x => (f2 b j (by omega)).trans (f1 b j (by omega))
      have hF2 : fx_R G2 := fun a k b hb => by rw [R2]; exact hF1 a k b hb
      have hT2 : gi_T G2 0 := ⟨by rw [f2 33 1 (by omega), e1]; rfl, v35, by omega, by rw [show mm_I G2 34 = mm_I G 34 from funext fun j => e 34 j (by omega), show mm_I G2 87 = mm_I G 87 from funext fun j => e 87 j (by omega)]; exact t4, fun k => by rw [e 34 k (by omega)]; exact t5 k⟩
      have hFa2 : gi_F G2 := ⟨by rw [f2 35 6 (by omega), g1 35 6 (by omega), u1, v36], by rw [f2 35 7 (by omega), g1 35 7 (by omega), u2, v37]⟩
      have r1 : ∀ j, mm_I G2 43 j = mm_I Ga 43 j := fun j => by rw [f2 _ _ (by omega), g1 _ _ (by omega)]
      obtain ⟨w1, w2⟩ := dr_pg0 (f := mm_I G2 43) bb hE' (fun k hk => by rw [r1]; exact p3 k hk) hd
      have hO2 : gi_O G2 := by
        refine ⟨mm_I G2 43, le, dd, l, w1, Or.inl ⟨by rw [R2]; exact R11, by rw [R2]; exact R12, ⟨rfl, fun j hj => ?_, fun j hj => ?_⟩, ?_⟩, ⟨o6, o7, fun k hk => ?_⟩, o5⟩
        · rw [f2 _ _ (by omega), g1 _ _ (by omega)]; exact p5 j hj
        · rw [f2 _ _ (by omega), g1 _ _ (by omega)]; exact p6 j hj
        · rw [f2 _ _ (by omega), g1 _ _ (by omega)]; exact p4
        · rw [w2] at hk
          rw [r1, p3 k hk]; exact o8 k hk
      exact ⟨hF2, gi_D_f hD (fun b j x => e b j (by omega)), gi_A_f hA (fun b j x => e b j (by omega)), hFa2, hT2, gi_B_f hB (fun b j x => e b j (by omega)), gi_M_f hM (fun b j x => e b j (by omega)) (fun k _ => by rw [R2, R1 5 k (by omega)]) (fun k _ => by rw [A2]), gi_C_f hC (fun b j x => e b j (by omega)), gi_X_f hX (fun k _ => by rw [R2, R1 6 k (by omega)]) (fun k _ => by rw [A2]), gi_E_f hE (fun b j x => e b j (by omega)), gi_N_f hN (fun b j x => e b j (by omega)), gi_L_f hL (fun b j x => e b j (by omega)), gi_I_f hI (fun b j x => e b j (by omega)), gi_S_f hS (fun b j x => e b j (by omega)), gi_K_f hK (fun b j x => e b j (by omega)), gi_P_f hP (fun b j x => e b j (by omega)), hO2⟩
    · rw [f1 87 k (by omega), ← t4]
      unfold tb_v
      by_cases y : k < z
      · rw [if_pos y, if_pos (by omega)]
      · rw [if_neg y, if_neg (by omega)]
  · have f1 : ∀ b j : Nat, ¬ ((b = 33 ∧ j = 1) ∨ (b = 35 ∧ 1 ≤ j ∧ j ≤ 7) ∨ (36 ≤ b ∧ b ≤ 39) ∨ (b = 42 ∧ (j = 5 ∨ j = 6)) ∨ (43 ≤ b ∧ b ≤ 45)) → mm_I G1 b j = mm_I G b j := fun b j x => by
      rw [e1, mi_n (by omega)]
      exact q4 b j (by omega) (by omega) (by omega) (by omega) (by omega) (by omega) (by omega) (by omega) (by omega)
    have g1 : ∀ b j : Nat, ¬ (b = 33 ∧ j = 1) → mm_I G1 b j = mm_I Ga b j := fun b j x => by rw [e1, mi_n x]
    have hR1 : mm_R G1 = mm_R G := by rw [e1]; exact q1
    have hA1 : mm_A G1 = mm_A G := by rw [e1]; exact q3
    have hF1 : fx_R G1 := fun a k b hb => by rw [hR1]; exact hF a k b hb
    refine ⟨_, rfl, am_mono ?_ (cm_Mo_ordersb X (d + 53) G1 hF1 (by rw [f1 60 35 (by omega)]; exact t2) bb (fun k => ?_) hE' hd)⟩
    · rintro r G2 ⟨rfl, ⟨o1, o2⟩, o3, -, o5, o6⟩
      refine ⟨rfl, c, kc, 0, T, ?_⟩
      have f2 : ∀ b j : Nat, ¬ ((b = 60 ∧ ((31 ≤ j ∧ j ≤ 33) ∨ (35 ≤ j ∧ j ≤ 46))) ∨ (83 ≤ b ∧ b ≤ 88 ∧ b ≠ 87)) → mm_I G2 b j = mm_I G1 b j := fun b j x => by
        rw [o3 b j (by omega) (by omega) (by omega) (by omega) (by omega) (by omega)]
        unfold mi_G
        rw [mi_n (by omega), mi_n (by omega), mi_n (by omega), mi_n (by omega), mi_n (by omega), mi_n (by omega), mi_n (by omega), mi_n (by omega)]
      have v35 : mm_I G2 60 35 = 0 := by rw [o3 60 35 (by omega) (by omega) (by omega) (by omega) (by omega) (by omega)]; rfl
      have hR2 : mm_R G2 = mm_R G := o1.trans hR1
      have hA2 : mm_A G2 = mm_A G := o2.trans hA1
      have e : ∀ b j : Nat, ¬ ((b = 33 ∧ j = 1) ∨ (b = 35 ∧ 1 ≤ j ∧ j ≤ 7) ∨ (36 ≤ b ∧ b ≤ 39) ∨ (b = 42 ∧ (j = 5 ∨ j = 6)) ∨ (43 ≤ b ∧ b ≤ 45) ∨ (b = 60 ∧ ((31 ≤ j ∧ j ≤ 33) ∨ (35 ≤ j ∧ j ≤ 46))) ∨ (83 ≤ b ∧ b ≤ 88 ∧ b ≠ 87)) → mm_I G2 b j = mm_I G b j := fun b j x => (f2 b j (by omega)).trans (f1 b j (by omega))
      have hT2 : gi_T G2 0 := ⟨by rw [f2 33 1 (by omega), e1]; rfl, v35, by omega, by rw [show mm_I G2 34 = mm_I G 34 from funext fun j => e 34 j (by omega), show mm_I G2 87 = mm_I G 87 from funext fun j => e 87 j (by omega)]; exact t4, fun k => by rw [e 34 k (by omega)]; exact t5 k⟩
      have hFa2 : gi_F G2 := ⟨by rw [f2 35 6 (by omega), g1 35 6 (by omega), u1, o5], by rw [f2 35 7 (by omega), g1 35 7 (by omega), u2, o6]⟩
      have hO2 : gi_O G2 := by
        refine ⟨f0, le0, dd0, L0, hpg, Or.inr ⟨by rw [hR2]; exact hw, by rw [hR2]; exact hn, ?_, by rw [e _ _ (by omega)]; exact hxl⟩, mp_R_g hmp (fun b j x => e b j (by omega)), by rw [e 60 26 (by omega)]; exact hml⟩
        unfold xp_R_b
        rw [show mm_I G2 49 = mm_I G 49 from funext fun j => e _ j (by omega), show mm_I G2 50 = mm_I G 50 from funext fun j => e _ j (by omega), show mm_I G2 51 = mm_I G 51 from funext fun j => e _ j (by omega)]
        exact hxp
      exact ⟨(fun a k b hb => by rw [hR2]; exact hF a k b hb), gi_D_f hD (fun b j x => e b j (by omega)), gi_A_f hA (fun b j x => e b j (by omega)), hFa2, hT2, gi_B_f hB (fun b j x => e b j (by omega)), gi_M_f hM (fun b j x => e b j (by omega)) (fun k _ => by rw [hR2]) (fun k _ => by rw [hA2]), gi_C_f hC (fun b j x => e b j (by omega)), gi_X_f hX (fun k _ => by rw [hR2]) (fun k _ => by rw [hA2]), gi_E_f hE (fun b j x => e b j (by omega)), gi_N_f hN (fun b j x => e b j (by omega)), gi_L_f hL (fun b j x => e b j (by omega)), gi_I_f hI (fun b j x => e b j (by omega)), gi_S_f hS (fun b j x => e b j (by omega)), gi_K_f hK (fun b j x => e b j (by omega)), gi_P_f hP (fun b j x => e b j (by omega)), hO2⟩
    · rw [f1 87 k (by omega), ← t4]
      unfold tb_v
      by_cases y : k < z
      · rw [if_pos y, if_pos (by omega)]
      · rw [if_neg y, if_neg (by omega)]
theorem gq_orders_b (X : gx_T) (d : Nat) {G : mm_T} {mc wc c kc z : Nat} {T : Int} (h : gi_G G mc wc c kc z T) {f0 : Nat → Int} {le0 : Nat → Nat} {dd0 : Nat → Int} {L0 : Nat} (hn : mm_R G 0 12 = some 48) (hw : mm_R G 0 11 = some 42) (hpg : pg_W f0 le0 dd0 L0) (hxp : xp_R_a G f0 le0 dd0 L0) (hxl : mm_I G 42 6 = (L0 : Nat)) (hmp : mp_R G f0 le0 dd0 L0) (hml : mm_I G 60 26 = (L0 : Nat)) : aw_M X (d + 59) mt_K_orders [av_r (some 0)] G 0 0 (gj_P X (d + 59) mt_Mo_orders [av_r (some 60)] (gi_J mc wc)) := by
  obtain ⟨hF, hD, hA, hFa, hT, hB, hM, hC, hX, hE, hN, hL, hI, hS, hK, hP, hO⟩ := id h
  obtain ⟨t1, t2, t3, t4, t5⟩ := id hT
  have bb : bb_B (tb_v G) z := by
    refine ⟨t3, fun k hk => ?_, fun k hk => ?_⟩
    · unfold tb_v; rw [if_pos (by omega)]; exact t5 k
    · unfold tb_v; rw [if_neg (by omega)]
  refine am_mono ?_ (cm_K_orders_b X (d + 4) G hF t1 bb rfl hn hw)
  rintro r G1 ⟨n, hE', (⟨m, o, l, le, dd, Ga, rfl, hd, ⟨⟨p1, p2⟩, p3, p4, p5, p6⟩, ⟨⟨q1, -, q3⟩, q4⟩, ⟨u1, u2⟩, e1⟩ | ⟨m, k, p, Ga, rfl, hd, ⟨⟨q1, -, q3⟩, q4⟩, ⟨u1, u2⟩, e1⟩)⟩
  · have f1 : ∀ b j : Nat, ¬ ((b = 33 ∧ j = 1) ∨ (b = 35 ∧ 1 ≤ j ∧ j ≤ 7) ∨ (36 ≤ b ∧ b ≤ 39) ∨ (b = 48 ∧ (j = 5 ∨ j = 6)) ∨ (49 ≤ b ∧ b ≤ 51)) → mm_I G1 b j = mm_I G b j := fun b j x => by
      rw [e1, mr_I, mr_I, mi_n (by omega)]
      exact q4 b j (by omega) (by omega) (by omega) (by omega) (by omega) (by omega) (by omega) (by omega) (by omega)
    have g1 : ∀ b j : Nat, ¬ (b = 33 ∧ j = 1) → mm_I G1 b j = mm_I Ga b j := fun b j x => by rw [e1, mr_I, mr_I, mi_n x]
    have R1 : ∀ a k, ¬ (a = 0 ∧ (k = 11 ∨ k = 12)) → mm_R G1 a k = mm_R G a k := fun a k x => by
      rw [e1, rr_n (by omega), rr_n (by omega), ← q1]; rfl
    have R11 : mm_R G1 0 11 = some 48 := by rw [e1, rr_n (by omega), rr_s]
    have R12 : mm_R G1 0 12 = some 42 := by rw [e1, rr_s]
    have hA1 : mm_A G1 = mm_A G := by rw [e1]; exact q3
    have hF1 : fx_R G1 := fx_by hF (fun a k _ _ _ x => R1 a k x)
    refine ⟨_, rfl, am_mono ?_ (cm_Mo_ordersk X (d + 53) G1 hF1 (by rw [f1 60 35 (by omega)]; exact t2) bb (fun k => ?_) hE' hd)⟩
    · rintro r G2 ⟨rfl, ⟨o1, o2⟩, o3, -, o5, o6, o7, o8⟩
      refine ⟨rfl, c, kc, 0, T, ?_⟩
      have f2 : ∀ b j : Nat, ¬ ((b = 60 ∧ (j = 26 ∨ (31 ≤ j ∧ j ≤ 33) ∨ (35 ≤ j ∧ j ≤ 46))) ∨ (79 ≤ b ∧ b ≤ 88 ∧ b ≠ 87)) → mm_I G2 b j = mm_I G1 b j := fun b j x => by
        rw [o3 b j (by omega) (by omega) (by omega) (by omega) (by omega) (by omega) (by omega) (by omega) (by omega) (by omega)]
        unfold mi_G
        rw [mi_n (by omega), mi_n (by omega), mi_n (by omega), mi_n (by omega), mi_n (by omega), mi_n (by omega), mi_n (by omega), mi_n (by omega)]
      have v35 : mm_I G2 60 35 = 0 := by rw [o3 60 35 (by omega) (by omega) (by omega) (by omega) (by omega) (by omega) (by omega) (by omega) (by omega) (by omega)]; rfl
      have v36 : mm_I G2 60 36 = 0 := by rw [o3 60 36 (by omega) (by omega) (by omega) (by omega) (by omega) (by omega) (by omega) (by omega) (by omega) (by omega)]; rfl
      have v37 : mm_I G2 60 37 = -1 := by rw [o3 60 37 (by omega) (by omega) (by omega) (by omega) (by omega) (by omega) (by omega) (by omega) (by omega) (by omega)]; rfl
      have R2 : mm_R G2 = mm_R G1 := o1
      have A2 : mm_A G2 = mm_A G := o2.trans hA1
      have e : ∀ b j : Nat, ¬ ((b = 33 ∧ j = 1) ∨ (b = 35 ∧ 1 ≤ j ∧ j ≤ 7) ∨ (36 ≤ b ∧ b ≤ 39) ∨ (b = 48 ∧ (j = 5 ∨ j = 6)) ∨ (49 ≤ b ∧ b ≤ 51) ∨ (b = 60 ∧ (j = 26 ∨ (31 ≤ j ∧ j ≤ 33) ∨ (35 ≤ j ∧ j ≤ 46))) ∨ (79 ≤ b ∧ b ≤ 88 ∧ b ≠ 87)) → mm_I G2 b j = mm_I G b j := fun b j x => (f2 b j (by omega)).trans (f1 b j (by omega))
      have hF2 : fx_R G2 := fun a k b hb => by rw [R2]; exact hF1 a k b hb
      have hT2 : gi_T G2 0 := ⟨by rw [f2 33 1 (by omega), e1]; rfl, v35, by omega, by rw [show mm_I G2 34 = mm_I G 34 from funext fun j => e 34 j (by omega), show mm_I G2 87 = mm_I G 87 from funext fun j => e 87 j (by omega)]; exact t4, fun k => by rw [e 34 k (by omega)]; exact t5 k⟩
      have hFa2 : gi_F G2 := ⟨by rw [f2 35 6 (by omega), g1 35 6 (by omega), u1, v36], by rw [f2 35 7 (by omega), g1 35 7 (by omega), u2, v37]⟩
      have r1 : ∀ j, mm_I G2 49 j = mm_I Ga 49 j := fun j => by rw [f2 _ _ (by omega), g1 _ _ (by omega)]
      obtain ⟨w1, w2⟩ := dr_pg0 (f := mm_I G2 49) bb hE' (fun k hk => by rw [r1]; exact p3 k hk) hd
      have hO2 : gi_O G2 := by
        refine ⟨mm_I G2 49, le, dd, l, w1, Or.inr ⟨by rw [R2]; exact R11, by rw [R2]; exact R12, ⟨rfl, fun j hj => ?_, fun j hj => ?_⟩, ?_⟩, ⟨o6, o7, fun k hk => ?_⟩, o5⟩
        · rw [f2 _ _ (by omega), g1 _ _ (by omega)]; exact p5 j hj
        · rw [f2 _ _ (by omega), g1 _ _ (by omega)]; exact p6 j hj
        · rw [f2 _ _ (by omega), g1 _ _ (by omega)]; exact p4
        · rw [w2] at hk
          rw [r1, p3 k hk]; exact o8 k hk
      exact ⟨hF2, gi_D_f hD (fun b j x => e b j (by omega)), gi_A_f hA (fun b j x => e b j (by omega)), hFa2, hT2, gi_B_f hB (fun b j x => e b j (by omega)), gi_M_f hM (fun b j x => e b j (by omega)) (fun k _ => by rw [R2, R1 5 k (by omega)]) (fun k _ => by rw [A2]), gi_C_f hC (fun b j x => e b j (by omega)), gi_X_f hX (fun k _ => by rw [R2, R1 6 k (by omega)]) (fun k _ => by rw [A2]), gi_E_f hE (fun b j x => e b j (by omega)), gi_N_f hN (fun b j x => e b j (by omega)), gi_L_f hL (fun b j x => e b j (by omega)), gi_I_f hI (fun b j x => e b j (by omega)), gi_S_f hS (fun b j x => e b j (by omega)), gi_K_f hK (fun b j x => e b j (by omega)), gi_P_f hP (fun b j x => e b j (by omega)), hO2⟩
    · rw [f1 87 k (by omega), ← t4]
      unfold tb_v
      by_cases y : k < z
      · rw [if_pos y, if_pos (by omega)]
      · rw [if_neg y, if_neg (by omega)]
  · have f1 : ∀ b j : Nat, ¬ ((b = 33 ∧ j = 1) ∨ (b = 35 ∧ 1 ≤ j ∧ j ≤ 7) ∨ (36 ≤ b ∧ b ≤ 39) ∨ (b = 48 ∧ (j = 5 ∨ j = 6)) ∨ (49 ≤ b ∧ b ≤ 51)) → mm_I G1 b j = mm_I G b j := fun b j x => by
      rw [e1, mi_n (by omega)]
      exact q4 b j (by omega) (by omega) (by omega) (by omega) (by omega) (by omega) (by omega) (by omega) (by omega)
    have g1 : ∀ b j : Nat, ¬ (b = 33 ∧ j = 1) → mm_I G1 b j = mm_I Ga b j := fun b j x => by rw [e1, mi_n x]
    have hR1 : mm_R G1 = mm_R G := by rw [e1]; exact q1
    have hA1 : mm_A G1 = mm_A G := by rw [e1]; exact q3
    have hF1 : fx_R G1 := fun a k b hb => by rw [hR1]; exact hF a k b hb
    refine ⟨_, rfl, am_mono ?_ (cm_Mo_ordersb X (d + 53) G1 hF1 (by rw [f1 60 35 (by omega)]; exact t2) bb (fun k => ?_) hE' hd)⟩
    · rintro r G2 ⟨rfl, ⟨o1, o2⟩, o3, -, o5, o6⟩
      refine ⟨rfl, c, kc, 0, T, ?_⟩
      have f2 : ∀ b j : Nat, ¬ ((b = 60 ∧ ((31 ≤ j ∧ j ≤ 33) ∨ (35 ≤ j ∧ j ≤ 46))) ∨ (83 ≤ b ∧ b ≤ 88 ∧ b ≠ 87)) → mm_I G2 b j = mm_I G1 b j := fun b j x => by
        rw [o3 b j (by omega) (by omega) (by omega) (by omega) (by omega) (by omega)]
        unfold mi_G
        rw [mi_n (by omega), mi_n (by omega), mi_n (by omega), mi_n (by omega), mi_n (by omega), mi_n (by omega), mi_n (by omega), mi_n (by omega)]
      have v35 : mm_I G2 60 35 = 0 := by rw [o3 60 35 (by omega) (by omega) (by omega) (by omega) (by omega) (by omega)]; rfl
      have hR2 : mm_R G2 = mm_R G := o1.trans hR1
      have hA2 : mm_A G2 = mm_A G := o2.trans hA1
      have e : ∀ b j : Nat, ¬ ((b = 33 ∧ j = 1) ∨ (b = 35 ∧ 1 ≤ j ∧ j ≤ 7) ∨ (36 ≤ b ∧ b ≤ 39) ∨ (b = 48 ∧ (j = 5 ∨ j = 6)) ∨ (49 ≤ b ∧ b ≤ 51) ∨ (b = 60 ∧ ((31 ≤ j ∧ j ≤ 33) ∨ (35 ≤ j ∧ j ≤ 46))) ∨ (83 ≤ b ∧ b ≤ 88 ∧ b ≠ 87)) → mm_I G2 b j = mm_I G b j := fun b j x => (f2 b j (by omega)).trans (f1 b j (by omega))
      have hT2 : gi_T G2 0 := ⟨by rw [f2 33 1 (by omega), e1]; rfl, v35, by omega, by rw [show mm_I G2 34 = mm_I G 34 from funext fun j => e 34 j (by omega), show mm_I G2 87 = mm_I G 87 from funext fun j => e 87 j (by omega)]; exact t4, fun k => by rw [e 34 k (by omega)]; exact t5 k⟩
      have hFa2 : gi_F G2 := ⟨by rw [f2 35 6 (by omega), g1 35 6 (by omega), u1, o5], by rw [f2 35 7 (by omega), g1 35 7 (by omega), u2, o6]⟩
      have hO2 : gi_O G2 := by
        refine ⟨f0, le0, dd0, L0, hpg, Or.inl ⟨by rw [hR2]; exact hw, by rw [hR2]; exact hn, ?_, by rw [e _ _ (by omega)]; exact hxl⟩, mp_R_g hmp (fun b j x => e b j (by omega)), by rw [e 60 26 (by omega)]; exact hml⟩
        unfold xp_R_a
        rw [show mm_I G2 43 = mm_I G 43 from funext fun j => e _ j (by omega), show mm_I G2 44 = mm_I G 44 from funext fun j => e _ j (by omega), show mm_I G2 45 = mm_I G 45 from funext fun j => e _ j (by omega)]
        exact hxp
      exact ⟨(fun a k b hb => by rw [hR2]; exact hF a k b hb), gi_D_f hD (fun b j x => e b j (by omega)), gi_A_f hA (fun b j x => e b j (by omega)), hFa2, hT2, gi_B_f hB (fun b j x => e b j (by omega)), gi_M_f hM (fun b j x => e b j (by omega)) (fun k _ => by rw [hR2]) (fun k _ => by rw [hA2]), gi_C_f hC (fun b j x => e b j (by omega)), gi_X_f hX (fun k _ => by rw [hR2]) (fun k _ => by rw [hA2]), gi_E_f hE (fun b j x => e b j (by omega)), gi_N_f hN (fun b j x => e b j (by omega)), gi_L_f hL (fun b j x => e b j (by omega)), gi_I_f hI (fun b j x => e b j (by omega)), gi_S_f hS (fun b j x => e b j (by omega)), gi_K_f hK (fun b j x => e b j (by omega)), gi_P_f hP (fun b j x => e b j (by omega)), hO2⟩
    · rw [f1 87 k (by omega), ← t4]
      unfold tb_v
      by_cases y : k < z
      · rw [if_pos y, if_pos (by omega)]
      · rw [if_neg y, if_neg (by omega)]
theorem gq_orders (X : gx_T) (d : Nat) {G : mm_T} {mc wc c kc z : Nat} {T : Int} (h : gi_G G mc wc c kc z T) : aw_M X (d + 59) mt_K_orders [av_r (some 0)] G 0 0 (gj_P X (d + 59) mt_Mo_orders [av_r (some 60)] (gi_J mc wc)) := by
  obtain ⟨f0, le0, dd0, L0, w, (⟨o1, o2, o3, o4⟩ | ⟨o1, o2, o3, o4⟩), p, l⟩ := h.2.2.2.2.2.2.2.2.2.2.2.2.2.2.2.2
  · exact gq_orders_b X d h o2 o1 w o3 o4 p l
  · exact gq_orders_a X d h o2 o1 w o3 o4 p l
