/-! ===== carrying out the plan, on both sides ===== -/
theorem xcar_ff {P : Nat → Nat → Prop} {G : mm_T} (h : ∀ b j, P b j → ¬ (b = 4 ∨ (13 ≤ b ∧ b ≤ 16) ∨ (300 ≤ b ∧ (j = 4 ∨ j = 5)) ∨ (b = 12 ∧ j = 4))) : ∀ w, ff_F P G (xcar G w) := by
  intro w
  induction w with
  | zero => exact ff_0 P G
  | succ w ih =>
    unfold xcar
    split
    · exact ff_t ih (xt_ff (fun b j x => by have := h b j x; omega))
    · exact ih
theorem mcar_ff {P : Nat → Nat → Prop} {G : mm_T} (h : ∀ b j, P b j → ¬ (b = 67 ∨ b = 73 ∨ (75 ≤ b ∧ b ≤ 78) ∨ (b = 60 ∧ j = 5))) : ∀ i, ff_F P G (mcar G i) := by
  intro i
  induction i with
  | zero => exact ff_0 P G
  | succ i ih => exact ff_t ih (mgo_ff h)
theorem gv_lock {G G1 : mm_T} {wc c n : Nat} {T : Int} {gw a : Nat → Nat} (V : gv_V G G1 wc c T) (hwc : wc ≤ 40) (hT : 0 ≤ T) (hcn : c + n ≤ 200) (p1 : inc_P gw n) (p2 : ∀ k, k < n → gw k < 40 ∧ a k < 24) (p3 : ∀ k, k < n → mm_I G1 96 k = (gw k : Nat) ∧ mm_I G1 97 k = (a k : Nat)) (p4 : ∀ w, w < 40 → mm_I G 32 w = kp_v gw a n w) (p5 : ∀ k, k < n → gw k < wc ∧ mm_I G1 67 (gw k) ≠ -1)
    (hk : ∀ w, w < wc → ((mm_I G (300 + w) 4 ≠ -1 ∧ mm_I G 32 w ≠ -1) ↔ ∃ k, k < n ∧ gw k = w)) : ∀ w, w ≤ wc → gv_V (xcar G w) (mcar G1 (mv_n G w)) wc (c + mv_n G w) T ∧ ∀ k, k < 40 → mm_I (mcar G1 (mv_n G w)) 67 k = if k < w then gi_u (mm_I G1 67) gw a n k else mm_I G1 67 k := by
  intro w
  induction w with
  | zero => intro _; exact ⟨V, fun k _ => (if_neg (Nat.not_lt_zero k)).symm⟩
  | succ w ih =>
    intro hw
    obtain ⟨ih1, ih2⟩ := ih (by omega)
    by_cases y : mm_I G (300 + w) 4 ≠ -1 ∧ mm_I G 32 w ≠ -1
    · obtain ⟨k, k1, k2⟩ := (hk w (by omega)).mp y
      have ek : mv_n G w = k := by rw [← k2]; exact mv_at p1 hk k1 (by omega)
      have es : mv_n G (w + 1) = k + 1 := by rw [mv_n, if_pos y, ek]
      have ex : xcar G (w + 1) = xt_v (xcar G w) w (mm_I G 32 w) := by rw [xcar, if_pos y]
      have e32 : mm_I G 32 w = (a k : Nat) := by rw [p4 w (by omega), ← k2, kp_at n p1 k k1]
      have em : mcar G1 (k + 1) = mgo_v (mcar G1 k) ((w : Nat) : Int) (mm_I G 32 w) := by rw [mcar, (p3 k k1).1, (p3 k k1).2, k2, e32]
      rw [ek] at ih1 ih2
      have a24 := (p2 k k1).2
      have V' := gv_mv (s := mm_I G 32 w) ih1 (show w < wc by omega) hwc (by rw [ih2 w (by omega), if_neg (by omega), ← k2]; exact (p5 k k1).2) ⟨by omega, by omega⟩ (by omega) hT
      rw [es, ex, em]
      refine ⟨V', fun i hi => ?_⟩
      have r := (mgo_rows (A := mcar G1 k) (w := w) (s := mm_I G 32 w) (c := c + k) ih1.1.2.2.2).2.2.2.2.1
      rw [r]
      by_cases q : i = w
      · subst q
        rw [upp_s, if_pos (by omega), p4 i hi]
        unfold gi_u
        rw [if_neg (by rw [← p4 i hi]; exact y.2)]
      · rw [upp_n _ q, ih2 i hi]
        by_cases u : i < w
        · rw [if_pos u, if_pos (by omega)]
        · rw [if_neg u, if_neg (by omega)]
    · have es : mv_n G (w + 1) = mv_n G w := by rw [mv_n, if_neg y, Nat.add_zero]
      have ex : xcar G (w + 1) = xcar G w := by rw [xcar, if_neg y]
      rw [es, ex]
      refine ⟨ih1, fun i hi => ?_⟩
      rw [ih2 i hi]
      by_cases q : i = w
      · subst q
        rw [if_neg (by omega), if_pos (by omega)]
        unfold gi_u
        by_cases u : kp_v gw a n i = -1
        · rw [if_pos u]
        · exfalso
          have : ∃ k, k < n ∧ gw k = i := Classical.byContradiction fun z => u (kp_no n (fun k hk e => z ⟨k, hk, e⟩))
          exact y ((hk i (by omega)).mpr this)
      · by_cases u : i < w
        · rw [if_pos u, if_pos (by omega)]
        · rw [if_neg u, if_neg (by omega)]
theorem gi_xk {G : mm_T} {mc wc c : Nat} {T : Int} (hF : fx_R G) (hM : gi_M G mc wc) (hC : gi_C G wc c) (hX : gi_X G wc) (hE : gi_E G wc) (hN : gi_N G wc c T) (hL : gi_L G wc) : xk_I G wc c := by
  have c1 := hC.1
  have c3 := hC.2.2.1
  refine ⟨hF, gi_W hC hM hX, c1, hC.2.2.2.1, fun k hk => ⟨(hE k hk).1, gi_hst hC hE hN k (by omega), gi_hsh hC hE hN k (by omega)⟩, fun t ht => ?_⟩
  rw [(hL t ht).1]
  exact ct_eq _ (fun k hk => ((hE k hk).2.2.2.1).symm)
theorem gq_carry (X : gx_T) (d : Nat) {G : mm_T} {mc wc c kc z : Nat} {T : Int} (h : gi_G G mc wc c kc z T) : aw_M X (d + 59) mt_K_carry [av_r (some 0)] G 0 0 (gj_P X (d + 59) mt_Mo_carry [av_r (some 60)] (gi_J mc wc)) := by
  obtain ⟨hF, hD, hA, hFa, hT, hB, hM, hC, hX, hE, hN, hL, hI, hS, hK, hP, hO⟩ := id h
  obtain ⟨c1, c2, c3, c4, c5, c6⟩ := id hC
  obtain ⟨n, ⟨n1, n2, n3⟩, n4, n5, n6⟩ := id hP
  have hs73 : ∀ k, k < 40 → 0 ≤ mm_I G 73 k ∧ mm_I G 73 k < 200 := fun k hk => (hN.1 k hk).2.2.2.1
  have key : mm_I G 24 10 ≠ 0 → mm_I G 24 11 = 0 → ∃ gw a, gi_p G wc n gw a ∧ ((∀ k, k < n → gw k < wc ∧ mm_I G 67 (gw k) ≠ -1) ∧ ∀ t : Nat, t < 24 → ct_n (gi_u (mm_I G 67) gw a n) t wc ≤ 4) ∧ ∀ w, w < wc → ((mm_I G (300 + w) 4 ≠ -1 ∧ mm_I G 32 w ≠ -1) ↔ ∃ k, k < n ∧ gw k = w) := by
    intro x1 x2
    obtain ⟨gw, a, p⟩ := n6 x1
    have p5 := p.2.2.2.2 (n4.mpr ⟨x1, x2⟩)
    refine ⟨gw, a, p, p5, fun w hw => ⟨fun x => ?_, fun x => ?_⟩⟩
    · exact Classical.byContradiction fun y => x.2 (by rw [p.2.2.2.1 w (by omega)]; exact kp_no n (fun k hk e => y ⟨k, hk, e⟩))
    · obtain ⟨k, k1, rfl⟩ := x
      refine ⟨by rw [(hE (gw k) hw).2.2.2.1]; exact (p5.1 k k1).2, ?_⟩
      rw [p.2.2.2.1 _ (by omega), kp_at n p.1 k k1]; omega
  refine am_mono ?_ (cm_K_carry X (d + 54) G (gi_xk hF hM hC hX hE hN hL) c3 c6 n2 (by omega) ?_)
  · rintro r G1 (⟨h1, rfl, e1⟩ | ⟨h1, rfl, rfl⟩)
    · obtain ⟨gw, a, p, p5, hk⟩ := key h1.1.1 h1.1.2
      have f1 : ∀ b j : Nat, ¬ ((b = 4 ∨ (13 ≤ b ∧ b ≤ 16) ∨ (300 ≤ b ∧ (j = 4 ∨ j = 5)) ∨ (b = 12 ∧ j = 4)) ∨ (b = 24 ∧ (j = 9 ∨ j = 10))) → mm_I G1 b j = mm_I G b j := by
        rw [e1]; exact ff_s (P := fun b j => ¬ ((b = 4 ∨ (13 ≤ b ∧ b ≤ 16) ∨ (300 ≤ b ∧ (j = 4 ∨ j = 5)) ∨ (b = 12 ∧ j = 4)) ∨ (b = 24 ∧ (j = 9 ∨ j = 10)))) (ff_s (xcar_ff (fun b j x => by omega) wc) (by omega)) (by omega)
      have hR1 : mm_R G1 = mm_R G := by rw [e1]; exact (xcar_f G wc).1
      have hA1 : mm_A G1 = mm_A G := by rw [e1]; exact (xcar_f G wc).2.2.2.2
      have hF1 : fx_R G1 := fun a k b hb => by rw [hR1]; exact hF a k b hb
      have r67 : mm_I G1 67 = mm_I G 67 := funext fun j => f1 67 j (by omega)
      have h53 : mm_I G1 60 53 ≠ 0 := by rw [f1 60 53 (by omega)]; exact n4.mpr h1.1
      have p3 : ∀ k, k < n → mm_I G1 96 k = (gw k : Nat) ∧ mm_I G1 97 k = (a k : Nat) := fun k hk => by rw [f1 96 k (by omega), f1 97 k (by omega)]; exact p.2.2.1 k hk
      refine ⟨_, rfl, am_mono ?_ (cm_Mo_carry X (d + 56) G1 hF1 (by rw [f1 60 55 (by omega)]; exact n1) n3 (by rw [f1 60 5 (by omega)]; exact c5) c6 (fun _ i hi => by rw [(p3 i hi).1]; have := p.2.1 i hi; omega) (fun _ i hi => by rw [(p3 i hi).2]; have := p.2.1 i hi; omega) (fun k hk => by rw [f1 73 k (by omega)]; exact hs73 k hk))⟩
      rintro r G2 (⟨-, rfl, e2⟩ | ⟨h2, -⟩)
      · refine ⟨rfl, c + n, kc, z, T, ?_⟩
        have f2 : ∀ b j : Nat, ¬ ((b = 67 ∨ b = 73 ∨ (75 ≤ b ∧ b ≤ 78) ∨ (b = 60 ∧ j = 5)) ∨ (b = 60 ∧ (j = 53 ∨ j = 55))) → mm_I G2 b j = mm_I G1 b j := by
          rw [e2]; exact ff_s (P := fun b j => ¬ ((b = 67 ∨ b = 73 ∨ (75 ≤ b ∧ b ≤ 78) ∨ (b = 60 ∧ j = 5)) ∨ (b = 60 ∧ (j = 53 ∨ j = 55)))) (ff_s (mcar_ff (fun b j x => by omega) n) (by omega)) (by omega)
        have hR2 : mm_R G2 = mm_R G := by rw [e2]; exact (mcar_f G1 n).1.trans hR1
        have hA2 : mm_A G2 = mm_A G := by rw [e2]; exact (mcar_f G1 n).2.2.2.2.trans hA1
        have e : ∀ b j : Nat, ¬ (b = 4 ∨ (13 ≤ b ∧ b ≤ 16) ∨ (300 ≤ b ∧ (j = 4 ∨ j = 5)) ∨ (b = 12 ∧ j = 4) ∨ (b = 24 ∧ (j = 9 ∨ j = 10)) ∨ b = 67 ∨ b = 73 ∨ (75 ≤ b ∧ b ≤ 78) ∨ (b = 60 ∧ (j = 5 ∨ j = 53 ∨ j = 55))) → mm_I G2 b j = mm_I G b j := fun b j x => (f2 b j (by omega)).trans (f1 b j (by omega))
        have hmv : mv_n G wc = n := mv_all p.1 hk (fun k hk => (p5.1 k hk).1)
        have V := gv_lock (gv_f (gv_of hD hC hE hN hL hS) (ff_0 _ G) (fun b j x => f1 b j (by omega))) c3 hD.2.2.1 h1.2 p.1 p.2.1 p3 p.2.2.2.1 (by rw [r67]; exact p5.1) hk wc (Nat.le_refl _)
        rw [hmv] at V
        obtain ⟨V, V67⟩ := V
        have V2 : gv_V G2 G2 wc (c + n) T := gv_f V (fun b j x => by rw [f2 b j (by omega), e1]; rw [mi_n (by omega), mi_n (by omega)]) (fun b j x => by rw [e2]; rw [mi_n (by omega), mi_n (by omega)])
        have r67' : mm_I G2 67 = mm_I (mcar G1 n) 67 := by rw [e2, mi_row (show 67 ≠ 60 by omega), mi_row (show 67 ≠ 60 by omega)]
        obtain ⟨hC2, hE2, hN2, hL2, hS2⟩ := gv_to V2 c3 (by omega) (fun t ht => by
          rw [r67', ct_eq (g := gi_u (mm_I G 67) gw a n) _ (fun k hk => by rw [V67 k (by omega), if_pos hk, r67])]
          exact p5.2 t ht)
        have hP2 : gi_P G2 wc := by
          have q1 : mm_I G2 24 10 = 0 := by rw [f2 24 10 (by omega), e1, mi_n (by omega), mi_s]
          have q2 : mm_I G2 24 9 = 0 := by rw [f2 24 9 (by omega), e1, mi_s]
          have q3 : mm_I G2 60 53 = 0 := by rw [e2, mi_s]
          have q4 : mm_I G2 60 55 = 0 := by rw [e2, mi_n (by omega), mi_s]
          exact ⟨0, ⟨by rw [q4]; rfl, by rw [q2]; rfl, by omega⟩, ⟨fun x => absurd q3 x, fun x => absurd q1 x.1⟩, fun _ => rfl, fun x => absurd q1 x⟩
        exact ⟨(fun a k b hb => by rw [hR2]; exact hF a k b hb), gi_D_f hD (fun b j x => e b j (by omega)), gi_A_f hA (fun b j x => e b j (by omega)), gi_F_f hFa (fun b j x => e b j (by omega)), gi_T_f hT (fun b j x => e b j (by omega)), gi_B_f hB (fun b j x => e b j (by omega)), gi_M_f hM (fun b j x => e b j (by omega)) (fun k _ => by rw [hR2]) (fun k _ => by rw [hA2]), hC2, gi_X_f hX (fun k _ => by rw [hR2]) (fun k _ => by rw [hA2]), hE2, hN2, hL2, gi_I_f hI (fun b j x => e b j (by omega)), hS2, gi_K_f hK (fun b j x => e b j (by omega)), hP2, gi_O_f hO (fun b j x => e b j (by omega)) (by rw [hR2]) (by rw [hR2])⟩
      · exact absurd ⟨h53, h1.2⟩ h2
    · refine ⟨_, rfl, am_mono ?_ (cm_Mo_carry X (d + 56) _ hF n1 n3 c5 c6 ?_ ?_ hs73)⟩
      · rintro r G2 (⟨h2, -⟩ | ⟨-, rfl, rfl⟩)
        · exact absurd ⟨n4.mp h2.1, h2.2⟩ h1
        · exact ⟨rfl, c, kc, z, T, h⟩
      · intro x i hi
        obtain ⟨gw, a, p, -⟩ := key (n4.mp x).1 (n4.mp x).2
        rw [(p.2.2.1 i hi).1]; have := p.2.1 i hi; omega
      · intro x i hi
        obtain ⟨gw, a, p, -⟩ := key (n4.mp x).1 (n4.mp x).2
        rw [(p.2.2.1 i hi).2]; have := p.2.1 i hi; omega
  · intro x1 x2
    obtain ⟨gw, a, p, p5, hk⟩ := key x1 x2
    refine ⟨fun k hk2 => ?_, mv_all p.1 hk (fun k hk => (p5.1 k hk).1)⟩
    rw [p.2.2.2.1 k (by omega)]
    by_cases y : ∃ i, i < n ∧ gw i = k
    · obtain ⟨i, i1, rfl⟩ := y
      rw [kp_at n p.1 i i1]; have := p.2.1 i i1; omega
    · rw [kp_no n (fun i hi e => y ⟨i, hi, e⟩)]; omega
