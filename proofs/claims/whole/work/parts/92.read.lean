/-! ===== pairs of calls that change nothing ===== -/
theorem ff_row {P : Nat → Nat → Prop} {G G' : mm_T} {a n : Nat} {f : Nat → Int} (h : ff_F P G G') (hn : ∀ j, ¬ P a j) : ff_F P G (ms_row G' a n f) := fun b j hb => by
  show (if b = a ∧ j < n then f j else mm_I G' b j) = _
  rw [if_neg (fun z => hn j (by rw [← z.1]; exact hb))]; exact h b j hb
/-- cells that only serve within a call -/
abbrev sc_b (b j : Nat) : Prop := b = 23 ∨ b = 106 ∨ b = 40 ∨ b = 41 ∨ (25 ≤ b ∧ b ≤ 31) ∨ (b = 24 ∧ j = 8) ∨ (b = 35 ∧ 1 ≤ j ∧ j ≤ 5) ∨ (36 ≤ b ∧ b ≤ 39) ∨ b = 46 ∨ b = 47 ∨ b = 52 ∨ b = 53 ∨ (b = 42 ∧ (j = 5 ∨ j = 7)) ∨ (b = 48 ∧ (j = 5 ∨ j = 7)) ∨ (83 ≤ b ∧ b ≤ 86) ∨ (88 ≤ b ∧ b ≤ 90) ∨ b = 95 ∨ (98 ≤ b ∧ b ≤ 100) ∨ (b = 60 ∧ ((31 ≤ j ∧ j ≤ 33) ∨ (38 ≤ j ∧ j ≤ 46) ∨ j = 54))
theorem gi_sc {G G' : mm_T} {mc wc c kc z : Nat} {T : Int} (h : gi_G G mc wc c kc z T) (e : ∀ b j, ¬ sc_b b j → mm_I G' b j = mm_I G b j) (hR : mm_R G' = mm_R G) (hA : mm_A G' = mm_A G) : gi_G G' mc wc c kc z T := by
  obtain ⟨hF, hD, hAi, hFa, hT, hB, hM, hC, hX, hE, hN, hL, hI, hS, hK, hP, hO⟩ := h
  refine ⟨fun a k b hb => by rw [hR]; exact hF a k b hb, gi_D_f hD (fun b j x => e b j (by omega)), gi_A_f hAi (fun b j x => e b j (by omega)), gi_F_f hFa (fun b j x => e b j (by omega)), gi_T_f hT (fun b j x => e b j (by omega)), gi_B_f hB (fun b j x => e b j (by omega)), gi_M_f hM (fun b j x => e b j (by omega)) (fun k _ => by rw [hR]) (fun k _ => by rw [hA]), gi_C_f hC (fun b j x => e b j (by omega)), gi_X_f hX (fun k _ => by rw [hR]) (fun k _ => by rw [hA]), gi_E_f hE (fun b j x => e b j (by omega)), gi_N_f hN (fun b j x => e b j (by omega)), gi_L_f hL (fun b j x => e b j (by omega)), gi_I_f hI (fun b j x => e b j (by omega)), gi_S_f hS (fun b j x => e b j (by omega)), gi_K_f hK (fun b j x => e b j (by omega)), gi_P_f hP (fun b j x => e b j (by omega)), gi_O_f hO (fun b j x => e b j (by omega)) (by rw [hR]) (by rw [hR])⟩
theorem gi_W {G : mm_T} {mc wc c : Nat} (hC : gi_C G wc c) (hM : gi_M G mc wc) (hX : gi_X G wc) : fx_W G := by
  obtain ⟨c1, -, c3, -⟩ := hC
  obtain ⟨m1, -, m3, m4, -⟩ := hM
  refine ⟨by omega, by omega, fun k hk => m4 k (by omega), fun k hk => hX.1 k (by omega)⟩
theorem gq_fault (X : gx_T) (d : Nat) {G : mm_T} {mc wc c kc z : Nat} {T w : Int} (h : gi_G G mc wc c kc z T) (hw : i3_in w) : aw_M X (d + 59) mt_K_fault [av_r (some 0), av_i w] G 0 0 (gj_P X (d + 59) mt_Mo_fault [av_r (some 60), av_i w] (gi_J mc wc)) := by
  refine am_mono ?_ (cm_K_fault X (d + 58) G h.1 hw)
  rintro r G1 ⟨rfl, rfl⟩
  refine ⟨_, rfl, am_mono ?_ (cm_Mo_fault X (d + 58) _ hw)⟩
  rintro r G2 ⟨rfl, rfl⟩
  have hF := h.2.2.2.1
  exact ⟨by rw [hF.1, hF.2], _, _, _, _, h⟩
theorem gi_kd {G : mm_T} {wc c : Nat} {T : Int} (hC : gi_C G wc c) (hE : gi_E G wc) (hN : gi_N G wc c T) : ∀ k : Nat, (k : Int) < mm_I G 0 14 → 0 ≤ mm_I G (300 + k) 1 ∧ mm_I G (300 + k) 1 ≤ 2 := fun k hk => by
  have c1 := hC.1
  have c3 := hC.2.2.1
  rw [(hE k (by omega)).2.1]; exact (hN.1 k (by omega)).1
theorem gi_ag {G : mm_T} {wc c : Nat} {T : Int} (hD : gi_D G T) (hC : gi_C G wc c) (hE : gi_E G wc) (hN : gi_N G wc c T) : ∀ k : Nat, (k : Int) < mm_I G 0 14 → i3_in (mm_I G 0 15 - mm_I G (300 + k) 2) := fun k hk => by
  have c1 := hC.1
  have c3 := hC.2.2.1
  obtain ⟨d1, -, d3, d4⟩ := hD
  have n := (hN.1 k (by omega)).2.2.1
  rw [(hE k (by omega)).2.2.1, d1]; omega
theorem gi_agm {G : mm_T} {wc c : Nat} {T : Int} (hD : gi_D G T) (hN : gi_N G wc c T) : ∀ w, w < 40 → i3_in (mm_I G 60 0 - mm_I G 71 w) := fun k hk => by
  obtain ⟨-, d2, d3, d4⟩ := hD
  have n := (hN.1 k hk).2.2.1
  rw [d2]; omega
theorem gq_of (X : gx_T) (d : Nat) {G : mm_T} {mc wc c kc z : Nat} {T w q : Int} (h : gi_G G mc wc c kc z T) (hw : i3_in w) (hq : i3_in q) : aw_M X (d + 59) mt_K_of [av_r (some 0), av_i w, av_i q] G 0 0 (gj_P X (d + 59) mt_Mo_of [av_r (some 60), av_i w, av_i q] (gi_J mc wc)) := by
  obtain ⟨hF, hD, hA, hFa, hT, hB, hM, hC, hX, hE, hN, hL, hI, hS, hK, hP, hO⟩ := id h
  refine am_mono ?_ (cm_K_of X (d + 54) G hF (gi_W hC hM hX) hw hq (gi_kd hC hE hN) (gi_ag hD hC hE hN) hB.2.2.2.2)
  rintro r G1 ⟨rfl, rfl⟩
  refine ⟨_, rfl, am_mono ?_ (cm_Mo_of X (d + 57) _ hF hw hq (by rw [hC.2.1]; have := hC.2.2.1; omega) (fun w hw => (hN.1 w hw).2.1.2) (fun w hw => (hN.1 w hw).1) (gi_agm hD hN) (by rw [← hB.1]; exact hB.2.2.2.2))⟩
  rintro r G2 ⟨rfl, rfl⟩
  refine ⟨?_, _, _, _, _, h⟩
  have c3 := hC.2.2.1
  rw [hC.1, hC.2.1]
  by_cases hh : 0 ≤ w ∧ w < (wc : Int)
  · rw [if_pos hh, if_pos hh]
    obtain ⟨e0, e1, e2, e4, e5, e6, e7, e8, e9⟩ := hE w.toNat (by omega)
    have n := (hN.1 w.toNat (by omega)).2.1
    rw [e1, e2, e4, e6, e7, e8, e9, hD.1, hD.2.1, hA.1, hB.1, hB.2.1, hB.2.2.1, hB.2.2.2.1]
    by_cases y : 0 ≤ mm_I G2 67 w.toNat
    · rw [if_pos y, if_pos (show 0 ≤ mm_I G2 67 w.toNat ∧ mm_I G2 67 w.toNat ≤ 23 from ⟨y, n.2⟩)]
    · rw [if_neg y, if_neg (show ¬ (0 ≤ mm_I G2 67 w.toNat ∧ mm_I G2 67 w.toNat ≤ 23) from fun x => y x.1)]
  · rw [if_neg hh, if_neg hh]
theorem gq_from (X : gx_T) (d : Nat) {G : mm_T} {mc wc c kc z : Nat} {T w q : Int} (h : gi_G G mc wc c kc z T) (hw : i3_in w) (hq : i3_in q) : aw_M X (d + 59) mt_K_from [av_r (some 0), av_i w, av_i q] G 0 0 (gj_P X (d + 59) mt_Mo_from [av_r (some 60), av_i w, av_i q] (gi_J mc wc)) := by
  obtain ⟨hF, hD, hA, hFa, hT, hB, hM, hC, hX, hE, hN, hL, hI, hS, hK, hP, hO⟩ := id h
  have m3 := hM.2.2.1
  refine am_mono ?_ (cm_K_from X (d + 57) G hF (gi_W hC hM hX) hw hq)
  rintro r G1 ⟨rfl, rfl⟩
  refine ⟨_, rfl, am_mono ?_ (cm_Mo_from X (d + 58) _ hF hw hq (by rw [hM.2.1]; omega))⟩
  rintro r G2 ⟨rfl, rfl⟩
  refine ⟨?_, _, _, _, _, h⟩
  rw [hM.1, hM.2.1]
  by_cases hh : 0 ≤ w ∧ w < (mc : Int)
  · rw [if_pos hh, if_pos hh]
    obtain ⟨⟨e0, e1, e2⟩, -⟩ := hM.2.2.2.2.2 w.toNat (by omega)
    rw [e0, e1, e2]
  · rw [if_neg hh, if_neg hh]
theorem gq_suits (X : gx_T) (d : Nat) {G : mm_T} {mc wc c kc z : Nat} {T w s : Int} (h : gi_G G mc wc c kc z T) (hw : i3_in w) (hs : i3_in s) : aw_M X (d + 59) mt_K_suits [av_r (some 0), av_i w, av_i s] G 0 0 (gj_P X (d + 59) mt_Mo_suits [av_r (some 60), av_i w, av_i s] (gi_J mc wc)) := by
  obtain ⟨hF, hD, hA, hFa, hT, hB, hM, hC, hX, hE, hN, hL, hI, hS, hK, hP, hO⟩ := id h
  refine am_mono ?_ (cm_K_suits X (d + 54) G hF (gi_W hC hM hX) hw hs (gi_kd hC hE hN) (gi_ag hD hC hE hN) hB.2.2.2.2)
  rintro r G1 ⟨rfl, rfl⟩
  refine ⟨_, rfl, am_mono ?_ (cm_Mo_suits X (d + 56) _ hF hw hs (by rw [hC.2.1]; have := hC.2.2.1; omega) (fun w hw => (hN.1 w hw).1) (gi_agm hD hN) (by rw [← hB.1]; exact hB.2.2.2.2))⟩
  rintro r G2 ⟨rfl, rfl⟩
  refine ⟨?_, _, _, _, _, h⟩
  have c3 := hC.2.2.1
  rw [hC.1, hC.2.1]
  by_cases hh : 0 ≤ w ∧ w < (wc : Int)
  · obtain ⟨e0, e1, e2, e4, e5, e6, e7, e8, e9⟩ := hE w.toNat (by omega)
    have n := (hN.1 w.toNat (by omega)).2.1
    rw [e1, e2, e4, hD.1, hD.2.1, hA.1, hB.1, hB.2.1, hB.2.2.1, hB.2.2.2.1]
    by_cases y : 0 ≤ mm_I G2 67 w.toNat ∧ 0 ≤ s ∧ s ≤ 23
    · rw [if_pos ⟨⟨hh.1, hh.2, y.1⟩, y.2⟩, if_pos ⟨⟨hh, by omega⟩, y.2⟩]
    · rw [if_neg (fun x => y ⟨x.1.2.2, x.2⟩), if_neg (fun x => y ⟨by have := x.1.2; omega, x.2⟩)]
  · rw [if_neg (fun x => hh ⟨x.1.1, x.1.2.1⟩), if_neg (fun x => hh x.1.1)]
theorem gq_planned (X : gx_T) (d : Nat) {G : mm_T} {mc wc c kc z : Nat} {T w : Int} (h : gi_G G mc wc c kc z T) (hw : i3_in w) : aw_M X (d + 59) mt_K_planned [av_r (some 0), av_i w] G 0 0 (gj_P X (d + 59) mt_Mo_planned [av_r (some 60), av_i w] (gi_J mc wc)) := by
  obtain ⟨hF, hD, hA, hFa, hT, hB, hM, hC, hX, hE, hN, hL, hI, hS, hK, hP, hO⟩ := id h
  refine am_mono ?_ (cm_K_planned X (d + 56) G hF hw)
  rintro r G1 ⟨rfl, rfl⟩
  obtain ⟨n, ⟨n1, n2, n3⟩, n4, n5, n6⟩ := hP
  refine ⟨_, rfl, am_mono ?_ (cm_Mo_planned X (d + 58) _ hF hw n1 n3)⟩
  rintro r G2 ⟨rfl, rfl⟩
  refine ⟨?_, _, _, _, _, h⟩
  by_cases hk : mm_I G2 24 10 = 0
  · rw [if_neg (fun x => x.1 hk), n5 hk]; rfl
  · obtain ⟨gw, a, p1, p2, p3, p4, -⟩ := n6 hk
    by_cases hh : 0 ≤ w ∧ w ≤ 39
    · rw [if_pos ⟨hk, hh⟩, p4 w.toNat (by omega), ← pl_kp p1 p3 w.toNat, show ((w.toNat : Nat) : Int) = w by omega]
    · rw [if_neg (fun x => hh x.2), pl_out p3 (fun k hk => (p2 k hk).1) hh]
theorem gq_about (X : gx_T) (d : Nat) {G : mm_T} {mc wc c kc z : Nat} {T q : Int} (h : gi_G G mc wc c kc z T) (hq : i3_in q) : aw_M X (d + 59) mt_K_about [av_r (some 0), av_i q] G 0 0 (gj_P X (d + 59) mt_Mo_about [av_r (some 60), av_i q] (gi_J mc wc)) := by
  obtain ⟨hF, hD, hA, hFa, hT, hB, hM, hC, hX, hE, hN, hL, hI, hS, hK, hP, hO⟩ := id h
  have key : ∃ o, mm_R G 0 11 = some o ∧ sh_t o = (3, 8) ∧ mm_I G o 6 = mm_I G 60 26 := by
    obtain ⟨f, le, dd, L, w, o, p, l⟩ := hO
    rcases o with ⟨o1, o2, o3, o4⟩ | ⟨o1, o2, o3, o4⟩
    · exact ⟨42, o1, rfl, by rw [o4, l]⟩
    · exact ⟨48, o1, rfl, by rw [o4, l]⟩
  obtain ⟨o, k1, k2, k3⟩ := key
  refine am_mono ?_ (cm_K_about X (d + 58) G hF hq k1 k2)
  rintro r G1 ⟨rfl, rfl⟩
  refine ⟨_, rfl, am_mono ?_ (cm_Mo_about X (d + 58) _ hq)⟩
  rintro r G2 ⟨rfl, rfl⟩
  refine ⟨?_, _, _, _, _, h⟩
  rw [hD.1, hD.2.1, hM.1, hM.2.1, hC.1, hC.2.1, k3, hK.1, hK.2.1, hC.2.2.2.1, hC.2.2.2.2.1, hT.1, hT.2.1]
theorem gq_beside (X : gx_T) (d : Nat) {G : mm_T} {mc wc c kc z : Nat} {T a e : Int} (h : gi_G G mc wc c kc z T) (ha : i3_in a) (he : i3_in e) : aw_M X (d + 59) mt_K_beside [av_r (some 0), av_i a, av_i e] G 0 0 (gj_P X (d + 59) mt_Mo_beside [av_r (some 60), av_i a, av_i e] (gi_J mc wc)) := by
  obtain ⟨hF, hD, hA, hFa, hT, hB, hM, hC, hX, hE, hN, hL, hI, hS, hK, hP, hO⟩ := id h
  obtain ⟨s1, s2, s3, s4, s5⟩ := hS
  have c3 := hC.2.2.1
  refine am_mono ?_ (cm_K_beside X (d + 54) G hF (gi_W hC hM hX) ha he hC.2.2.2.1 hC.2.2.2.2.2 (fun k hk => by have := (s5 k hk).1; omega))
  rintro r G1 ⟨rfl, rfl⟩
  refine ⟨_, rfl, am_mono ?_ (cm_Mo_beside X (d + 57) _ hF ha he hC.2.2.2.2.1 hC.2.2.2.2.2 hD.2.1 (fun k hk => by rw [← s4]; exact (s5 k hk).2))⟩
  rintro r G2 ⟨rfl, rfl⟩
  refine ⟨?_, _, _, _, _, h⟩
  rw [hC.1, hC.2.1, hD.1, s1, s2, s3, s4]
theorem gq_grade (X : gx_T) (d : Nat) {G : mm_T} {mc wc c kc z : Nat} {T w dy : Int} (h : gi_G G mc wc c kc z T) (hw : i3_in w) (hdy : i3_in dy) : aw_M X (d + 59) mt_K_grade [av_r (some 0), av_i w, av_i dy] G 0 0 (gj_P X (d + 59) mt_Mo_grade [av_r (some 60), av_i w, av_i dy] (gi_J mc wc)) := by
  obtain ⟨hF, hD, hA, hFa, hT, hB, hM, hC, hX, hE, hN, hL, hI, hS, hK, hP, hO⟩ := id h
  obtain ⟨k1, k2, k3, ⟨k4, k5, k6, k7, k8⟩, k9⟩ := hK
  refine am_mono ?_ (cm_K_grade X (d + 55) G hF (gi_W hC hM hX) hw hdy k1 k3 (fun k hk => (k9 k hk).1) (fun k hk => (k9 k hk).2.1) rfl)
  generalize hf : (fun g : Nat => gd_last (mm_I G 18) (mm_I G 19) (mm_I G 20) (mm_I G 21) (mm_I G 22) w dy (g : Int) kc) = f
  have hf2 : f = fun g : Nat => gd_last (mm_I G 101) (mm_I G 102) (mm_I G 103) (mm_I G 104) (mm_I G 105) w dy (g : Int) kc := by rw [← hf, k4, k5, k6, k7, k8]
  rintro r G1 (⟨x1, rfl, rfl⟩ | ⟨x1, x2, rfl⟩)
  · refine ⟨_, rfl, am_mono ?_ (cm_Mo_grade X (d + 57) _ hF hw hdy k2 k3 (fun k hk => by rw [← k8]; exact (k9 k hk).2.2) (fun k hk => by rw [← k6]; exact (k9 k hk).2.1) rfl)⟩
    rintro r G2 (⟨y1, rfl, rfl⟩ | ⟨y1, -⟩)
    · exact ⟨rfl, _, _, _, _, h⟩
    · rw [hC.2.1, ← hC.1] at y1; exact absurd y1 x1
  · have g1 := fun r : Option av_T => cm_Mo_grade X (d + 57) (ms_row G 23 5 f) (w := w) (dy := dy) (c := kc) (f := f) (by exact hF) hw hdy (by exact k2) k3 (fun k hk => show -1 ≤ mm_I G 105 k by rw [← k8]; exact (k9 k hk).2.2) (fun k hk => show 0 ≤ mm_I G 103 k ∧ mm_I G 103 k ≤ 20 by rw [← k6]; exact (k9 k hk).2.1) (by exact hf2)
    have fin : ∀ r, gi_J mc wc (ms_row (ms_row G 23 5 f) 106 5 r) := fun r => ⟨_, _, _, _, gi_sc h (fun b j hb => (ff_row (P := fun b j => ¬ sc_b b j) (ff_row (ff_0 _ G) (fun j => by omega)) (fun j => by omega)) b j hb) rfl rfl⟩
    have e60 : mm_I (ms_row G 23 5 f) 60 4 = mm_I G 0 14 := by rw [hC.1]; exact hC.2.1
    rcases x2 with ⟨z0, rfl⟩ | ⟨z0, u, rfl, u0, u1, u2⟩
    · refine ⟨_, rfl, am_mono ?_ (g1 none)⟩
      rintro r G2 (⟨y1, -⟩ | ⟨y1, n, rr, y2, rfl, rfl⟩)
      · rw [e60] at y1; exact absurd x1 y1
      · exact ⟨by rw [gr_none y2 z0], fin rr⟩
    · refine ⟨_, rfl, am_mono ?_ (g1 none)⟩
      rintro r G2 (⟨y1, -⟩ | ⟨y1, n, rr, y2, rfl, rfl⟩)
      · rw [e60] at y1; exact absurd x1 y1
      · exact ⟨by rw [gr_same y2 z0 u0 u1 u2], fin rr⟩
/-- the same with a long -/
def gj_L (X : gx_T) (d : Nat) (M : mt_T) (as : List av_T) (J : mm_T → Prop) : Option av_T → mm_T → Prop := fun r G1 => ∃ y, r = some (av_l y) ∧ j6_in y ∧ aw_M X d M as G1 0 0 (fun r' G2 => r' = some (av_l y) ∧ J G2)
theorem gq_rb {w s b l : Nat → Int} {t : Int} {c wc e : Nat} {M N : Nat → Prop} (hw : ∀ k, k < c → 0 ≤ w k ∧ w k < wc) (hwc : wc ≤ 40) (hMN : ∀ v, v < wc → (M v ↔ N v)) : ((e < wc ∧ M e) ∨ ∃ q, q < c ∧ ((w q).toNat < wc ∧ M (w q).toNat) ∧ ∃ k, k < c ∧ sy_B w s b l t q k e) ↔ e < wc ∧ rc_P N (fun v w' => ∃ j, j < c ∧ ∃ k, k < c ∧ sy_P w s b l t (v : Int) (w' : Int) j k) wc e := by
  have hw4 : ∀ k, k < c → 0 ≤ w k ∧ w k < 40 := fun k hk => by have := hw k hk; omega
  constructor
  · rintro (⟨h1, h2⟩ | ⟨q, hq, ⟨h1, h2⟩, k, hk, hb⟩)
    · exact ⟨h1, Or.inl ((hMN e h1).mp h2)⟩
    · have b1 : w k = e := hb.1
      have b2 : w k ≠ w q := hb.2.1
      have w1 := hw k hk
      have w2 := hw q hq
      have ne : (w q).toNat ≠ e := by omega
      refine ⟨by omega, Or.inr ⟨(w q).toNat, h1, ne, (hMN _ h1).mp h2, ?_⟩⟩
      exact (sy_key hw4 (by omega) ne).mp ⟨q, hq, by rw [lb_shl (by omega)]; exact decide_eq_true rfl, k, hk, hb⟩
  · rintro ⟨h1, h2 | ⟨v, hv, ne, h2, h3⟩⟩
    · exact Or.inl ⟨h1, (hMN e h1).mpr h2⟩
    · obtain ⟨q, hq, hl, k, hk, hb⟩ := (sy_key hw4 (show v < 64 by omega) ne).mpr h3
      rw [lb_shl (by omega)] at hl
      have hl := of_decide_eq_true hl
      exact Or.inr ⟨q, hq, by rw [← hl]; exact ⟨hv, (hMN v hv).mpr h2⟩, k, hk, hb⟩
theorem gq_reached (X : gx_T) (d : Nat) {G : mm_T} {mc wc c kc z : Nat} {T m : Int} (h : gi_G G mc wc c kc z T) (hm : i3_in m) : aw_M X (d + 59) mt_K_reached [av_r (some 0), av_i m] G 0 0 (gj_L X (d + 59) mt_Mo_reached [av_r (some 60), av_i m] (gi_J mc wc)) := by
  obtain ⟨hF, hD, hA, hFa, hT, hB, hM, hC, hX, hE, hN, hL, hI, hS, hK, hP, hO⟩ := id h
  obtain ⟨s1, s2, s3, s4, s5⟩ := hS
  have c3 := hC.2.2.1
  have m3 := hM.2.2.1
  have d3 := hD.2.2
  refine am_mono ?_ (cm_K_reached X (d + 54) G hF (gi_W hC hM hX) hm hC.1 c3 hC.2.2.2.1 hC.2.2.2.2.2 hD.1 ⟨by omega, by omega⟩ (fun k hk => by have := (s5 k hk).1; omega))
  rintro r G1 ⟨⟨y, rfl, y1, y2, y3⟩, rfl⟩
  refine ⟨y, rfl, y1, am_mono ?_ (cm_Mo_reached X (d + 57) _ hF hm (by rw [hM.2.1]; omega) hC.2.1 c3 hC.2.2.2.2.1 hC.2.2.2.2.2 hD.2.1 (fun k hk => by rw [← s4]; exact (s5 k hk).2) hI.1)⟩
  rintro r G2 ⟨⟨x, rfl, x1, x2, x3⟩, rfl⟩
  refine ⟨?_, _, _, _, _, h⟩
  rw [hM.1] at y2 y3
  rw [hM.2.1] at x2 x3
  by_cases hh : 0 ≤ m ∧ m < (mc : Int)
  · refine congrArg _ (congrArg _ (lb_ext x1 y1 fun i hi => ?_))
    have a := x3 hh i hi
    have b := y3 hh i hi
    rw [← s1, ← s2, ← s3, ← s4] at a
    have k := gq_rb (e := i) (s := mm_I G2 14) (b := mm_I G2 15) (l := mm_I G2 16) (t := T) (M := fun e => ib_b (mm_I G2 (300 + e) 3) m.toNat = true) (N := fun v => mm_I G2 74 (40 * m.toNat + v) = 1) (fun k hk => (s5 k hk).1) c3 (fun v hv => hI.2.1 v hv m.toNat (by omega))
    have e := a.trans (k.symm.trans b.symm)
    cases q1 : lb_b x i <;> cases q2 : lb_b y i <;> simp_all
  · rw [x2 hh, y2 hh]
