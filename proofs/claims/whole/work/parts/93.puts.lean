/-! ===== pairs of calls that write a row ===== -/
theorem up_rng {f : Nat → Int} {k n : Nat} {v lo hi : Int} (h : ∀ j, j < n → lo ≤ f j ∧ f j ≤ hi) (hv : lo ≤ v ∧ v ≤ hi) : ∀ j, j < n → lo ≤ upp f k v j ∧ upp f k v j ≤ hi := fun j hj => by
  unfold upp
  by_cases e : j = k
  · rw [if_pos e]; exact hv
  · rw [if_neg e]; exact h j hj
theorem upp_s (f : Nat → Int) (k : Nat) (v : Int) : upp f k v k = v := by unfold upp; rw [if_pos rfl]
theorem upp_n {f : Nat → Int} {k j : Nat} (v : Int) (h : j ≠ k) : upp f k v j = f j := by unfold upp; rw [if_neg h]
theorem gq_air (X : gx_T) (d : Nat) {G : mm_T} {mc wc c kc z : Nat} {T : Int} (h : gi_G G mc wc c kc z T) {s a : Int} (hs : i3_in s) (ha : i3_in a) : aw_M X (d + 59) mt_K_air [av_r (some 0), av_i s, av_i a] G 0 0 (gj_P X (d + 59) mt_Mo_air [av_r (some 60), av_i s, av_i a] (gi_J mc wc)) := by
  obtain ⟨hF, hD, hA, hFa, hT, hB, hM, hC, hX, hE, hN, hL, hI, hS, hK, hP, hO⟩ := id h
  refine am_mono ?_ (cm_K_air X (d + 57) G hF hs ha)
  rintro r G1 (⟨h1, rfl, rfl⟩ | ⟨h1, rfl, rfl⟩)
  · refine ⟨_, rfl, am_mono ?_ (cm_Mo_air X (d + 57) _ (by exact hF) hs ha)⟩
    rintro r G2 (⟨-, rfl, e2⟩ | ⟨h2, -⟩)
    · refine ⟨rfl, c, kc, z, T, ?_⟩
      have e : ∀ b j : Nat, ¬ (b = 2 ∨ b = 61 ∨ (b = 24 ∧ j = 11) ∨ (b = 60 ∧ j = 53)) → mm_I G2 b j = mm_I G b j := by rw [e2]; exact (ff_s (ff_s (ff_s (ff_s (ff_0 (fun b j : Nat => ¬ (b = 2 ∨ b = 61 ∨ (b = 24 ∧ j = 11) ∨ (b = 60 ∧ j = 53))) G) (by omega)) (by omega)) (by omega)) (by omega))
      have hR2 : mm_R G2 = mm_R G := by rw [e2]; rfl
      have hA2 : mm_A G2 = mm_A G := by rw [e2]; rfl
      have r2 : mm_I G2 2 = upp (mm_I G 2) s.toNat a := by rw [e2]; exact mi_up G 2 _ _
      have r61 : mm_I G2 61 = upp (mm_I G 61) s.toNat a := by rw [e2]; exact mi_up G 61 _ _
      have r3 : mm_I G2 3 = mm_I G 3 := by rw [e2]; rfl
      have r62 : mm_I G2 62 = mm_I G 62 := by rw [e2]; rfl
      exact ⟨(fun a k b hb => by rw [hR2]; exact hF a k b hb), gi_D_f hD (fun b j x => e b j (by omega)), ⟨by rw [r2, r61, hA.1], by rw [r3, r62, hA.2.1], by unfold sh_G; rw [r2, r3]; exact ⟨up_rng hA.2.2.1 ⟨by omega, by omega⟩, hA.2.2.2⟩⟩, gi_F_f hFa (fun b j x => e b j (by omega)), gi_T_f hT (fun b j x => e b j (by omega)), gi_B_f hB (fun b j x => e b j (by omega)), gi_M_f hM (fun b j x => e b j (by omega)) (fun k _ => by rw [hR2]) (fun k _ => by rw [hA2]), gi_C_f hC (fun b j x => e b j (by omega)), gi_X_f hX (fun k _ => by rw [hR2]) (fun k _ => by rw [hA2]), gi_E_f hE (fun b j x => e b j (by omega)), gi_N_f hN (fun b j x => e b j (by omega)), gi_L_f hL (fun b j x => e b j (by omega)), gi_I_f hI (fun b j x => e b j (by omega)), gi_S_f hS (fun b j x => e b j (by omega)), gi_K_f hK (fun b j x => e b j (by omega)), gi_P_s hP (fun b j x => e b j (by omega)) (by rw [e2]; rfl) (by rw [e2]; rfl), gi_O_f hO (fun b j x => e b j (by omega)) (by rw [hR2]) (by rw [hR2])⟩
    · exact absurd h1 h2
  · refine ⟨_, rfl, am_mono ?_ (cm_Mo_air X (d + 57) _ hF hs ha)⟩
    rintro r G2 (⟨h2, -⟩ | ⟨-, rfl, rfl⟩)
    · exact absurd h2 h1
    · exact ⟨rfl, c, kc, z, T, h⟩
theorem gq_damp (X : gx_T) (d : Nat) {G : mm_T} {mc wc c kc z : Nat} {T : Int} (h : gi_G G mc wc c kc z T) {s a : Int} (hs : i3_in s) (ha : i3_in a) : aw_M X (d + 59) mt_K_damp [av_r (some 0), av_i s, av_i a] G 0 0 (gj_P X (d + 59) mt_Mo_damp [av_r (some 60), av_i s, av_i a] (gi_J mc wc)) := by
  obtain ⟨hF, hD, hA, hFa, hT, hB, hM, hC, hX, hE, hN, hL, hI, hS, hK, hP, hO⟩ := id h
  refine am_mono ?_ (cm_K_damp X (d + 57) G hF hs ha)
  rintro r G1 (⟨h1, rfl, rfl⟩ | ⟨h1, rfl, rfl⟩)
  · refine ⟨_, rfl, am_mono ?_ (cm_Mo_damp X (d + 58) _ (by exact hF) hs ha)⟩
    rintro r G2 (⟨-, rfl, e2⟩ | ⟨h2, -⟩)
    · refine ⟨rfl, c, kc, z, T, ?_⟩
      have e : ∀ b j : Nat, ¬ (b = 3 ∨ b = 62) → mm_I G2 b j = mm_I G b j := by rw [e2]; exact (ff_s (ff_s (ff_0 (fun b j : Nat => ¬ (b = 3 ∨ b = 62)) G) (by omega)) (by omega))
      have hR2 : mm_R G2 = mm_R G := by rw [e2]; rfl
      have hA2 : mm_A G2 = mm_A G := by rw [e2]; rfl
      have r3 : mm_I G2 3 = upp (mm_I G 3) s.toNat a := by rw [e2]; exact mi_up G 3 _ _
      have r62 : mm_I G2 62 = upp (mm_I G 62) s.toNat a := by rw [e2]; exact mi_up G 62 _ _
      have r2 : mm_I G2 2 = mm_I G 2 := by rw [e2]; rfl
      have r61 : mm_I G2 61 = mm_I G 61 := by rw [e2]; rfl
      exact ⟨(fun a k b hb => by rw [hR2]; exact hF a k b hb), gi_D_f hD (fun b j x => e b j (by omega)), ⟨by rw [r2, r61, hA.1], by rw [r3, r62, hA.2.1], by unfold sh_G; rw [r2, r3]; exact ⟨hA.2.2.1, up_rng hA.2.2.2 ⟨by omega, by omega⟩⟩⟩, gi_F_f hFa (fun b j x => e b j (by omega)), gi_T_f hT (fun b j x => e b j (by omega)), gi_B_f hB (fun b j x => e b j (by omega)), gi_M_f hM (fun b j x => e b j (by omega)) (fun k _ => by rw [hR2]) (fun k _ => by rw [hA2]), gi_C_f hC (fun b j x => e b j (by omega)), gi_X_f hX (fun k _ => by rw [hR2]) (fun k _ => by rw [hA2]), gi_E_f hE (fun b j x => e b j (by omega)), gi_N_f hN (fun b j x => e b j (by omega)), gi_L_f hL (fun b j x => e b j (by omega)), gi_I_f hI (fun b j x => e b j (by omega)), gi_S_f hS (fun b j x => e b j (by omega)), gi_K_f hK (fun b j x => e b j (by omega)), gi_P_f hP (fun b j x => e b j (by omega)), gi_O_f hO (fun b j x => e b j (by omega)) (by rw [hR2]) (by rw [hR2])⟩
    · exact absurd h1 h2
  · refine ⟨_, rfl, am_mono ?_ (cm_Mo_damp X (d + 58) _ hF hs ha)⟩
    rintro r G2 (⟨h2, -⟩ | ⟨-, rfl, rfl⟩)
    · exact absurd h2 h1
    · exact ⟨rfl, c, kc, z, T, h⟩
theorem gq_end (X : gx_T) (d : Nat) {G : mm_T} {mc wc c kc z : Nat} {T : Int} (h : gi_G G mc wc c kc z T) {n : Int} (hn : i3_in n) : aw_M X (d + 59) mt_K_end [av_r (some 0), av_i n] G 0 0 (gj_P X (d + 59) mt_Mo_end [av_r (some 60), av_i n] (gi_J mc wc)) := by
  obtain ⟨hF, hD, hA, hFa, hT, hB, hM, hC, hX, hE, hN, hL, hI, hS, hK, hP, hO⟩ := id h
  have t1 := hT.1
  have t2 := hT.2.1
  have t3 := hT.2.2.1
  refine am_mono ?_ (cm_K_end X (d + 57) G hF hn)
  rintro r G1 (⟨h1, rfl, rfl⟩ | ⟨h1, rfl, rfl⟩)
  · refine ⟨_, rfl, am_mono ?_ (cm_Mo_end X (d + 58) _ hn)⟩
    rintro r G2 (⟨-, rfl, e2⟩ | ⟨h2, -⟩)
    · refine ⟨rfl, c, kc, n.toNat, T, ?_⟩
      have e : ∀ b j : Nat, ¬ ((b = 33 ∧ j = 1) ∨ (b = 60 ∧ j = 35)) → mm_I G2 b j = mm_I G b j := by rw [e2]; exact (ff_s (ff_s (ff_0 (fun b j : Nat => ¬ ((b = 33 ∧ j = 1) ∨ (b = 60 ∧ j = 35))) G) (by omega)) (by omega))
      have hR2 : mm_R G2 = mm_R G := by rw [e2]; rfl
      have hA2 : mm_A G2 = mm_A G := by rw [e2]; rfl
      have r34 : mm_I G2 34 = mm_I G 34 := by rw [e2]; rfl
      have r87 : mm_I G2 87 = mm_I G 87 := by rw [e2]; rfl
      have q1 : mm_I G2 33 1 = n := by rw [e2]; rfl
      have q2 : mm_I G2 60 35 = n := by rw [e2]; rfl
      exact ⟨(fun a k b hb => by rw [hR2]; exact hF a k b hb), gi_D_f hD (fun b j x => e b j (by omega)), gi_A_f hA (fun b j x => e b j (by omega)), gi_F_f hFa (fun b j x => e b j (by omega)), ⟨by rw [q1]; omega, by rw [q2]; omega, by omega, by rw [r34, r87]; exact hT.2.2.2.1, by rw [r34]; exact hT.2.2.2.2⟩, gi_B_f hB (fun b j x => e b j (by omega)), gi_M_f hM (fun b j x => e b j (by omega)) (fun k _ => by rw [hR2]) (fun k _ => by rw [hA2]), gi_C_f hC (fun b j x => e b j (by omega)), gi_X_f hX (fun k _ => by rw [hR2]) (fun k _ => by rw [hA2]), gi_E_f hE (fun b j x => e b j (by omega)), gi_N_f hN (fun b j x => e b j (by omega)), gi_L_f hL (fun b j x => e b j (by omega)), gi_I_f hI (fun b j x => e b j (by omega)), gi_S_f hS (fun b j x => e b j (by omega)), gi_K_f hK (fun b j x => e b j (by omega)), gi_P_f hP (fun b j x => e b j (by omega)), gi_O_f hO (fun b j x => e b j (by omega)) (by rw [hR2]) (by rw [hR2])⟩
    · exact absurd (show 0 ≤ n ∧ n ≤ mm_I G 60 35 by omega) h2
  · refine ⟨_, rfl, am_mono ?_ (cm_Mo_end X (d + 58) _ hn)⟩
    rintro r G2 (⟨h2, -⟩ | ⟨-, rfl, rfl⟩)
    · exact absurd (show 0 ≤ n ∧ n ≤ mm_I G1 33 1 by omega) h1
    · exact ⟨rfl, c, kc, z, T, h⟩
theorem ff_tp {P : Nat → Nat → Prop} {G G' : mm_T} {ba sa sk u n : Nat} {f : Nat → Int} (h : ff_F P G G') (h1 : ¬ P sa sk) (h2 : ∀ j, ¬ P ba j) : ff_F P G (ms_tp G' ba sa sk u n f) := fun b j hb => by
  show (if b = sa ∧ j = sk then ((u + n : Nat) : Int) else if b = ba ∧ u ≤ j ∧ j < u + n then f (j - u) else mm_I G' b j) = _
  rw [if_neg (fun y => h1 (by rw [← y.1, ← y.2]; exact hb)), if_neg (fun y => h2 j (by rw [← y.1]; exact hb))]; exact h b j hb
theorem tp_row (G : mm_T) {ba sa sk u n : Nat} {f : Nat → Int} (hne : ba ≠ sa) : mm_I (ms_tp G ba sa sk u n f) ba = fun j => if u ≤ j ∧ j < u + n then f (j - u) else mm_I G ba j := by
  funext j
  show (if ba = sa ∧ j = sk then ((u + n : Nat) : Int) else if ba = ba ∧ u ≤ j ∧ j < u + n then f (j - u) else mm_I G ba j) = _
  rw [if_neg (fun y => hne y.1)]
  by_cases y : u ≤ j ∧ j < u + n
  · rw [if_pos ⟨rfl, y⟩, if_pos y]
  · rw [if_neg (fun x => y x.2), if_neg y]
theorem by_20r (a1 a2 a3 a4 a5 : Int) (i : Nat) : 0 ≤ by_20 a1 a2 a3 a4 a5 i ∧ by_20 a1 a2 a3 a4 a5 i ≤ 255 := by
  unfold by_20
  have key : ∀ l : List Int, (∀ x ∈ l, 0 ≤ x ∧ x ≤ 255) → 0 ≤ l.getD i 0 ∧ l.getD i 0 ≤ 255 := by
    intro l hl
    rw [List.getD_eq_getElem?_getD]
    cases q : l[i]? with
    | none => exact ⟨Int.le_refl _, by decide⟩
    | some x => exact hl x (List.mem_of_getElem? q)
  apply key
  intro x hx
  simp only [List.mem_cons, List.not_mem_nil, or_false] at hx
  rcases hx with rfl | rfl | rfl | rfl | rfl | rfl | rfl | rfl | rfl | rfl | rfl | rfl | rfl | rfl | rfl | rfl | rfl | rfl | rfl | rfl <;> exact by_rng _ _
theorem gq_feed (X : gx_T) (d : Nat) {G : mm_T} {mc wc c kc z : Nat} {T : Int} (h : gi_G G mc wc c kc z T) {a1 a2 a3 a4 a5 : Int} : aw_M X (d + 59) mt_K_feed [av_r (some 0), av_i a1, av_i a2, av_i a3, av_i a4, av_i a5] G 0 0 (gj_P X (d + 59) mt_Mo_feed [av_r (some 60), av_i a1, av_i a2, av_i a3, av_i a4, av_i a5] (gi_J mc wc)) := by
  obtain ⟨hF, hD, hA, hFa, hT, hB, hM, hC, hX, hE, hN, hL, hI, hS, hK, hP, hO⟩ := id h
  obtain ⟨t1, t2, t3, t4, t5⟩ := hT
  refine am_mono ?_ (cm_K_feed X (d + 57) G hF t1 t3)
  rintro r G1 (⟨h1, rfl, rfl⟩ | ⟨h1, rfl, rfl⟩)
  · refine ⟨_, rfl, am_mono ?_ (cm_Mo_feed X (d + 57) _ (by exact hF) (by exact t2) t3)⟩
    rintro r G2 (⟨-, rfl, e2⟩ | ⟨h2, -⟩)
    · refine ⟨rfl, c, kc, z + 20, T, ?_⟩
      have e : ∀ b j : Nat, ¬ (b = 34 ∨ b = 87 ∨ (b = 33 ∧ j = 1) ∨ (b = 60 ∧ j = 35)) → mm_I G2 b j = mm_I G b j := by
        rw [e2]; exact ff_tp (ff_tp (ff_0 (fun b j => ¬ (b = 34 ∨ b = 87 ∨ (b = 33 ∧ j = 1) ∨ (b = 60 ∧ j = 35))) G) (by omega) (fun j => by omega)) (by omega) (fun j => by omega)
      have hR2 : mm_R G2 = mm_R G := by rw [e2]; rfl
      have hA2 : mm_A G2 = mm_A G := by rw [e2]; rfl
      have r34 : mm_I G2 34 = fun j => if z ≤ j ∧ j < z + 20 then by_20 a1 a2 a3 a4 a5 (j - z) else mm_I G 34 j := by
        rw [e2]; rw [← tp_row G (sa := 33) (sk := 1) (by omega)]
        exact funext fun j => ff_tp (P := fun b _ => b = 34) (ff_0 _ _) (by omega) (fun j => by omega) 34 j rfl
      have r87 : mm_I G2 87 = fun j => if z ≤ j ∧ j < z + 20 then by_20 a1 a2 a3 a4 a5 (j - z) else mm_I G 87 j := by
        rw [e2, tp_row _ (by omega)]
        funext j
        rw [ff_tp (P := fun b _ => b = 87) (ff_0 _ G) (by omega) (fun j => by omega) 87 j rfl]
      have q1 : mm_I G2 33 1 = ((z + 20 : Nat) : Int) := by rw [e2]; rfl
      have q2 : mm_I G2 60 35 = ((z + 20 : Nat) : Int) := by rw [e2]; rfl
      have hT : gi_T G2 (z + 20) := by
        refine ⟨q1, q2, by omega, by rw [r34, r87, t4], fun k => ?_⟩
        rw [r34]
        show 0 ≤ (if z ≤ k ∧ k < z + 20 then by_20 a1 a2 a3 a4 a5 (k - z) else mm_I G 34 k) ∧ (if z ≤ k ∧ k < z + 20 then by_20 a1 a2 a3 a4 a5 (k - z) else mm_I G 34 k) ≤ 255
        split
        · exact by_20r _ _ _ _ _ _
        · exact t5 k
      exact ⟨(fun a k b hb => by rw [hR2]; exact hF a k b hb), gi_D_f hD (fun b j x => e b j (by omega)), gi_A_f hA (fun b j x => e b j (by omega)), gi_F_f hFa (fun b j x => e b j (by omega)), hT, gi_B_f hB (fun b j x => e b j (by omega)), gi_M_f hM (fun b j x => e b j (by omega)) (fun k _ => by rw [hR2]) (fun k _ => by rw [hA2]), gi_C_f hC (fun b j x => e b j (by omega)), gi_X_f hX (fun k _ => by rw [hR2]) (fun k _ => by rw [hA2]), gi_E_f hE (fun b j x => e b j (by omega)), gi_N_f hN (fun b j x => e b j (by omega)), gi_L_f hL (fun b j x => e b j (by omega)), gi_I_f hI (fun b j x => e b j (by omega)), gi_S_f hS (fun b j x => e b j (by omega)), gi_K_f hK (fun b j x => e b j (by omega)), gi_P_f hP (fun b j x => e b j (by omega)), gi_O_f hO (fun b j x => e b j (by omega)) (by rw [hR2]) (by rw [hR2])⟩
    · exact absurd h1 h2
  · refine ⟨_, rfl, am_mono ?_ (cm_Mo_feed X (d + 57) _ hF t2 t3)⟩
    rintro r G2 (⟨h2, -⟩ | ⟨-, rfl, rfl⟩)
    · exact absurd h2 h1
    · exact ⟨rfl, c, kc, z, T, h⟩
theorem gq_mark (X : gx_T) (d : Nat) {G : mm_T} {mc wc c kc z : Nat} {T : Int} (h : gi_G G mc wc c kc z T) {g w v : Int} (hg : i3_in g) (hw : i3_in w) (hv : i3_in v) : aw_M X (d + 59) mt_K_mark [av_r (some 0), av_i g, av_i w, av_i v] G 0 0 (gj_P X (d + 59) mt_Mo_mark [av_r (some 60), av_i g, av_i w, av_i v] (gi_J mc wc)) := by
  obtain ⟨hF, hD, hA, hFa, hT, hB, hM, hC, hX, hE, hN, hL, hI, hS, hK, hP, hO⟩ := id h
  obtain ⟨k1, k2, k3, ⟨k4, k5, k6, k7, k8⟩, k9⟩ := hK
  have ew : mm_I G 0 14 = mm_I G 60 4 := by rw [hC.1, hC.2.1]
  refine am_mono ?_ (cm_K_mark X (d + 56) G hF (gi_W hC hM hX) hg hw hv k1 k3)
  rintro r G1 (⟨h1, rfl, rfl⟩ | ⟨h1, rfl, rfl⟩)
  · refine ⟨_, rfl, am_mono ?_ (cm_Mo_mark X (d + 57) _ (by exact hF) hg hw hv (by exact k2) k3)⟩
    rintro r G2 (⟨-, rfl, e2⟩ | ⟨h2, -⟩)
    · refine ⟨rfl, c, kc + 1, z, T, ?_⟩
      have e : ∀ b j : Nat, ¬ ((18 ≤ b ∧ b ≤ 22) ∨ (101 ≤ b ∧ b ≤ 105) ∨ (b = 17 ∧ j = 6) ∨ (b = 60 ∧ j = 62)) → mm_I G2 b j = mm_I G b j := by rw [e2]; exact (ff_s (ff_s (ff_s (ff_s (ff_s (ff_s (ff_s (ff_s (ff_s (ff_s (ff_s (ff_s (ff_0 (fun b j : Nat => ¬ ((18 ≤ b ∧ b ≤ 22) ∨ (101 ≤ b ∧ b ≤ 105) ∨ (b = 17 ∧ j = 6) ∨ (b = 60 ∧ j = 62))) G) (by omega)) (by omega)) (by omega)) (by omega)) (by omega)) (by omega)) (by omega)) (by omega)) (by omega)) (by omega)) (by omega)) (by omega))
      have hR2 : mm_R G2 = mm_R G := by rw [e2]; rfl
      have hA2 : mm_A G2 = mm_A G := by rw [e2]; rfl
      have r18 : mm_I G2 18 = upp (mm_I G 18) kc g := by rw [e2]; exact mi_up G 18 _ _
      have r19 : mm_I G2 19 = upp (mm_I G 19) kc w := by rw [e2]; exact mi_up G 19 _ _
      have r20 : mm_I G2 20 = upp (mm_I G 20) kc v := by rw [e2]; exact mi_up G 20 _ _
      have r21 : mm_I G2 21 = upp (mm_I G 21) kc (mm_I G 0 15) := by rw [e2]; exact mi_up G 21 _ _
      have r22 : mm_I G2 22 = upp (mm_I G 22) kc (-1) := by rw [e2]; exact mi_up G 22 _ _
      have r101 : mm_I G2 101 = upp (mm_I G 101) kc g := by rw [e2]; exact mi_up G 101 _ _
      have r102 : mm_I G2 102 = upp (mm_I G 102) kc w := by rw [e2]; exact mi_up G 102 _ _
      have r103 : mm_I G2 103 = upp (mm_I G 103) kc v := by rw [e2]; exact mi_up G 103 _ _
      have r104 : mm_I G2 104 = upp (mm_I G 104) kc (mm_I G 60 0) := by rw [e2]; exact mi_up G 104 _ _
      have r105 : mm_I G2 105 = upp (mm_I G 105) kc (-1) := by rw [e2]; exact mi_up G 105 _ _
      have q1 : mm_I G2 17 6 = ((kc + 1 : Nat) : Int) := by rw [e2]; rfl
      have q2 : mm_I G2 60 62 = ((kc + 1 : Nat) : Int) := by rw [e2]; rfl
      have hK : gi_K G2 (kc + 1) := by
        refine ⟨q1, q2, by omega, ⟨by rw [r18, r101, k4], by rw [r19, r102, k5], by rw [r20, r103, k6], by rw [r21, r104, k7, hD.1, hD.2.1], by rw [r22, r105, k8]⟩, fun k hk => ?_⟩
        rw [r18, r20, r22]
        by_cases y : k = kc
        · subst y; rw [upp_s, upp_s, upp_s]; omega
        · rw [upp_n _ y, upp_n _ y, upp_n _ y]; exact k9 k (by omega)
      exact ⟨(fun a k b hb => by rw [hR2]; exact hF a k b hb), gi_D_f hD (fun b j x => e b j (by omega)), gi_A_f hA (fun b j x => e b j (by omega)), gi_F_f hFa (fun b j x => e b j (by omega)), gi_T_f hT (fun b j x => e b j (by omega)), gi_B_f hB (fun b j x => e b j (by omega)), gi_M_f hM (fun b j x => e b j (by omega)) (fun k _ => by rw [hR2]) (fun k _ => by rw [hA2]), gi_C_f hC (fun b j x => e b j (by omega)), gi_X_f hX (fun k _ => by rw [hR2]) (fun k _ => by rw [hA2]), gi_E_f hE (fun b j x => e b j (by omega)), gi_N_f hN (fun b j x => e b j (by omega)), gi_L_f hL (fun b j x => e b j (by omega)), gi_I_f hI (fun b j x => e b j (by omega)), gi_S_f hS (fun b j x => e b j (by omega)), hK, gi_P_f hP (fun b j x => e b j (by omega)), gi_O_f hO (fun b j x => e b j (by omega)) (by rw [hR2]) (by rw [hR2])⟩
    · exact absurd (by rw [ew] at h1; exact h1) h2
  · refine ⟨_, rfl, am_mono ?_ (cm_Mo_mark X (d + 57) _ hF hg hw hv k2 k3)⟩
    rintro r G2 (⟨h2, -⟩ | ⟨-, rfl, rfl⟩)
    · exact absurd (by rw [← ew] at h2; exact h2) h1
    · exact ⟨rfl, c, kc, z, T, h⟩
theorem gq_untell (X : gx_T) (d : Nat) {G : mm_T} {mc wc c kc z : Nat} {T : Int} (h : gi_G G mc wc c kc z T) {m : Int} (hm : i3_in m) : aw_M X (d + 59) mt_K_untell [av_r (some 0), av_i m] G 0 0 (gj_P X (d + 59) mt_Mo_untell [av_r (some 60), av_i m] (gi_J mc wc)) := by
  obtain ⟨hF, hD, hA, hFa, hT, hB, hM, hC, hX, hE, hN, hL, hI, hS, hK, hP, hO⟩ := id h
  obtain ⟨k1, k2, k3, ⟨k4, k5, k6, k7, k8⟩, k9⟩ := hK
  have d1 := hD.1
  have d2 := hD.2.1
  have d3 := hD.2.2.1
  refine am_mono ?_ (cm_K_untell X (d + 57) G hF hm (by rw [k1]; omega))
  rintro r G1 (⟨h1, rfl, rfl⟩ | ⟨h1, rfl, rfl⟩)
  · refine ⟨_, rfl, am_mono ?_ (cm_Mo_untell X (d + 58) _ (by exact hF) hm (by show mm_I G 60 62 ≤ 100; rw [k2]; omega))⟩
    rintro r G2 (⟨-, rfl, e2⟩ | ⟨h2, -⟩)
    · refine ⟨rfl, c, kc, z, T, ?_⟩
      have e : ∀ b j : Nat, ¬ (b = 22 ∨ b = 105) → mm_I G2 b j = mm_I G b j := by rw [e2]; exact (ff_s (ff_s (ff_0 (fun b j : Nat => ¬ (b = 22 ∨ b = 105)) G) (by omega)) (by omega))
      have hR2 : mm_R G2 = mm_R G := by rw [e2]; rfl
      have hA2 : mm_A G2 = mm_A G := by rw [e2]; rfl
      have r22 : mm_I G2 22 = upp (mm_I G 22) m.toNat (mm_I G 0 15) := by rw [e2]; exact mi_up G 22 _ _
      have r105 : mm_I G2 105 = upp (mm_I G 105) m.toNat (mm_I G 60 0) := by rw [e2]; exact mi_up G 105 _ _
      have r18 : mm_I G2 18 = mm_I G 18 := by rw [e2]; rfl
      have r20 : mm_I G2 20 = mm_I G 20 := by rw [e2]; rfl
      have hK : gi_K G2 kc := by
        refine ⟨by rw [e 17 6 (by omega), k1], by rw [e 60 62 (by omega), k2], k3, ⟨?_, ?_, ?_, ?_, by rw [r22, r105, k8, d1, d2]⟩, fun k hk => ?_⟩
        · rw [e2]; exact k4
        · rw [e2]; exact k5
        · rw [e2]; exact k6
        · rw [e2]; exact k7
        · have k9 := k9 k hk
          rw [r18, r20, r22]
          by_cases y : k = m.toNat
          · subst y; rw [upp_s, d1]; exact ⟨k9.1, k9.2.1, by omega⟩
          · rw [upp_n _ y]; exact k9
      exact ⟨(fun a k b hb => by rw [hR2]; exact hF a k b hb), gi_D_f hD (fun b j x => e b j (by omega)), gi_A_f hA (fun b j x => e b j (by omega)), gi_F_f hFa (fun b j x => e b j (by omega)), gi_T_f hT (fun b j x => e b j (by omega)), gi_B_f hB (fun b j x => e b j (by omega)), gi_M_f hM (fun b j x => e b j (by omega)) (fun k _ => by rw [hR2]) (fun k _ => by rw [hA2]), gi_C_f hC (fun b j x => e b j (by omega)), gi_X_f hX (fun k _ => by rw [hR2]) (fun k _ => by rw [hA2]), gi_E_f hE (fun b j x => e b j (by omega)), gi_N_f hN (fun b j x => e b j (by omega)), gi_L_f hL (fun b j x => e b j (by omega)), gi_I_f hI (fun b j x => e b j (by omega)), gi_S_f hS (fun b j x => e b j (by omega)), hK, gi_P_f hP (fun b j x => e b j (by omega)), gi_O_f hO (fun b j x => e b j (by omega)) (by rw [hR2]) (by rw [hR2])⟩
    · exact absurd (show 0 ≤ m ∧ m < mm_I G 60 62 ∧ mm_I G 105 m.toNat < 0 by rw [← k8, k2]; rw [k1] at h1; omega) h2
  · refine ⟨_, rfl, am_mono ?_ (cm_Mo_untell X (d + 58) _ hF hm (by rw [k2]; omega))⟩
    rintro r G2 (⟨h2, -⟩ | ⟨-, rfl, rfl⟩)
    · rw [k2, ← k8] at h2
      rw [k1] at h1
      have := (k9 m.toNat (by omega)).2.2
      exact absurd ⟨h2.1, h2.2.1, by omega⟩ h1
    · exact ⟨rfl, c, kc, z, T, h⟩
theorem gq_band (X : gx_T) (d : Nat) {G : mm_T} {mc wc c kc z : Nat} {T : Int} (h : gi_G G mc wc c kc z T) {kd ag le mo : Int} (h0 : i3_in kd) (h1 : i3_in ag) (h2 : i3_in le) (h3 : i3_in mo) : aw_M X (d + 59) mt_K_band [av_r (some 0), av_i kd, av_i ag, av_i le, av_i mo] G 0 0 (gj_P X (d + 59) mt_Mo_band [av_r (some 60), av_i kd, av_i ag, av_i le, av_i mo] (gi_J mc wc)) := by
  obtain ⟨hF, hD, hA, hFa, hT, hB, hM, hC, hX, hE, hN, hL, hI, hS, hK, hP, hO⟩ := id h
  obtain ⟨b1, b2, b3, b4, b5⟩ := hB
  refine am_mono ?_ (cm_K_band X (d + 55) G hF h0 h1 h2 h3 b5)
  rintro r G1 (⟨x1, rfl, p, hp, rfl⟩ | ⟨x1, rfl, rfl⟩)
  · refine ⟨_, rfl, am_mono ?_ (cm_Mo_band X (d + 58) _ (by exact hF) h0 h1 h2 h3 (by show ∀ k, k < 3 → 0 ≤ mm_I G 91 k ∧ mm_I G 91 k ≤ 4; rw [← b1]; exact b5))⟩
    rintro r G2 (⟨-, rfl, e2⟩ | ⟨x2, -⟩)
    · have p2 : (4 * kd + mm_I G 91 kd.toNat).toNat = p := by rw [← b1]; omega
      have e2 : G2 = ms_I (ms_I (ms_I (ms_I (ms_I (ms_I (ms_I (ms_I (ms_I (ms_I G 24 11 1) 9 p ag) 10 p le) 11 p mo) 8 kd.toNat (mm_I G 8 kd.toNat + 1)) 92 (4 * kd + mm_I G 91 kd.toNat).toNat ag) 93 (4 * kd + mm_I G 91 kd.toNat).toNat le) 94 (4 * kd + mm_I G 91 kd.toNat).toNat mo) 91 kd.toNat (mm_I G 91 kd.toNat + 1)) 60 53 0 := e2
      rw [p2] at e2
      refine ⟨?_, c, kc, z, T, ?_⟩
      · show some (av_i (mm_I G 91 kd.toNat + 1)) = _
        rw [← b1]
      have e : ∀ b j : Nat, ¬ ((8 ≤ b ∧ b ≤ 11) ∨ (91 ≤ b ∧ b ≤ 94) ∨ (b = 24 ∧ j = 11) ∨ (b = 60 ∧ j = 53)) → mm_I G2 b j = mm_I G b j := by rw [e2]; exact (ff_s (ff_s (ff_s (ff_s (ff_s (ff_s (ff_s (ff_s (ff_s (ff_s (ff_0 (fun b j : Nat => ¬ ((8 ≤ b ∧ b ≤ 11) ∨ (91 ≤ b ∧ b ≤ 94) ∨ (b = 24 ∧ j = 11) ∨ (b = 60 ∧ j = 53))) G) (by omega)) (by omega)) (by omega)) (by omega)) (by omega)) (by omega)) (by omega)) (by omega)) (by omega)) (by omega))
      have hR2 : mm_R G2 = mm_R G := by rw [e2]; rfl
      have hA2 : mm_A G2 = mm_A G := by rw [e2]; rfl
      have r8 : mm_I G2 8 = upp (mm_I G 8) kd.toNat (mm_I G 8 kd.toNat + 1) := by rw [e2]; exact mi_up G 8 _ _
      have r9 : mm_I G2 9 = upp (mm_I G 9) p ag := by rw [e2]; exact mi_up G 9 _ _
      have r10 : mm_I G2 10 = upp (mm_I G 10) p le := by rw [e2]; exact mi_up G 10 _ _
      have r11 : mm_I G2 11 = upp (mm_I G 11) p mo := by rw [e2]; exact mi_up G 11 _ _
      have r91 : mm_I G2 91 = upp (mm_I G 91) kd.toNat (mm_I G 91 kd.toNat + 1) := by rw [e2]; exact mi_up G 91 _ _
      have r92 : mm_I G2 92 = upp (mm_I G 92) p ag := by rw [e2]; exact mi_up G 92 _ _
      have r93 : mm_I G2 93 = upp (mm_I G 93) p le := by rw [e2]; exact mi_up G 93 _ _
      have r94 : mm_I G2 94 = upp (mm_I G 94) p mo := by rw [e2]; exact mi_up G 94 _ _
      have y := b5 kd.toNat (by omega)
      exact ⟨(fun a k b hb => by rw [hR2]; exact hF a k b hb), gi_D_f hD (fun b j x => e b j (by omega)), gi_A_f hA (fun b j x => e b j (by omega)), gi_F_f hFa (fun b j x => e b j (by omega)), gi_T_f hT (fun b j x => e b j (by omega)), ⟨by rw [r8, r91, b1], by rw [r9, r92, b2], by rw [r10, r93, b3], by rw [r11, r94, b4], by rw [r8]; exact up_rng b5 ⟨by omega, by omega⟩⟩, gi_M_f hM (fun b j x => e b j (by omega)) (fun k _ => by rw [hR2]) (fun k _ => by rw [hA2]), gi_C_f hC (fun b j x => e b j (by omega)), gi_X_f hX (fun k _ => by rw [hR2]) (fun k _ => by rw [hA2]), gi_E_f hE (fun b j x => e b j (by omega)), gi_N_f hN (fun b j x => e b j (by omega)), gi_L_f hL (fun b j x => e b j (by omega)), gi_I_f hI (fun b j x => e b j (by omega)), gi_S_f hS (fun b j x => e b j (by omega)), gi_K_f hK (fun b j x => e b j (by omega)), gi_P_s hP (fun b j x => e b j (by omega)) (by rw [e2]; rfl) (by rw [e2]; rfl), gi_O_f hO (fun b j x => e b j (by omega)) (by rw [hR2]) (by rw [hR2])⟩
    · exact absurd (by rw [b1] at x1; exact x1) x2
  · refine ⟨_, rfl, am_mono ?_ (cm_Mo_band X (d + 58) _ hF h0 h1 h2 h3 (by rw [← b1]; exact b5))⟩
    rintro r G2 (⟨x2, -⟩ | ⟨-, rfl, rfl⟩)
    · exact absurd (by rw [← b1] at x2; exact x2) x1
    · exact ⟨rfl, c, kc, z, T, h⟩
