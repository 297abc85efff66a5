/-! ===== a new milk, a new wheel ===== -/
theorem fx_nt : ∀ x ∈ fx_L, x.1 < 61 ∧ x.1 ≠ 5 ∧ x.1 ≠ 6 ∧ ¬ (x.1 = 0 ∧ (x.2.1 = 11 ∨ x.2.1 = 12)) := by decide +kernel
theorem fx_k {a k b : Nat} (h : fx_t a k = some b) : a < 61 ∧ a ≠ 5 ∧ a ≠ 6 ∧ ¬ (a = 0 ∧ (k = 11 ∨ k = 12)) := fx_nt _ (fx_en h)
theorem fx_by {G G' : mm_T} (h : fx_R G) (e : ∀ a k, a < 61 → a ≠ 5 → a ≠ 6 → ¬ (a = 0 ∧ (k = 11 ∨ k = 12)) → mm_R G' a k = mm_R G a k) : fx_R G' := fun a k b hb => by
  have q := fx_k hb
  rw [e a k q.1 q.2.1 q.2.2.1 q.2.2.2]; exact h a k b hb
theorem rr_n {G : mm_T} {a k b j : Nat} {v : Option Nat} (h : ¬ (b = a ∧ j = k)) : mm_R (ms_R G a k v) b j = mm_R G b j := up_2_n _ _ h
theorem rr_s (G : mm_T) (a k : Nat) (v : Option Nat) : mm_R (ms_R G a k v) a k = v := up_2_s _ _ _ _
theorem rnn_n {G : mm_T} {a b j : Nat} (h : b ≠ a) : mm_R (ms_N G a) b j = mm_R G b j := by
  show (if b = a then none else mm_R G b j) = _
  rw [if_neg h]
theorem an_n {G : mm_T} {a b : Nat} (h : b ≠ a) : mm_A (ms_N G a) b = mm_A G b := by
  show (if b = a then true else mm_A G b) = _
  rw [if_neg h]
theorem in_s (G : mm_T) (a j : Nat) : mm_I (ms_N G a) a j = 0 := by
  show (if a = a then 0 else mm_I G a j) = 0
  rw [if_pos rfl]
theorem gq_milk_n (X : gx_T) (d : Nat) {G : mm_T} {mc wc c kc z : Nat} {T : Int} (h : gi_G G mc wc c kc z T) {f l : Int} (hf : i3_in f) (hl : i3_in l) (hn : ¬ (mc < 30 ∧ 0 ≤ f ∧ f ≤ 99 ∧ 1 ≤ l ∧ l ≤ 1000)) : aw_M X (d + 59) mt_K_milk [av_r (some 0), av_i f, av_i l] G 0 0 (gj_P X (d + 59) mt_Mo_milk [av_r (some 60), av_i f, av_i l] (gi_J mc wc)) := by
  obtain ⟨hF, hD, hA, hFa, hT, hB, hM, hC, hX, hE, hN, hL, hI, hS, hK, hP, hO⟩ := id h
  refine am_mono ?_ (cm_K_milk_n X (d + 57) G hF hf hl hM.1 hM.2.2.1 hn)
  rintro r G1 ⟨rfl, rfl⟩
  refine ⟨_, rfl, am_mono ?_ (cm_Mo_milk X (d + 58) _ hF hf hl hM.2.1 hM.2.2.1)⟩
  rintro r G2 (⟨h2, -⟩ | ⟨-, rfl, rfl⟩)
  · exact absurd h2 hn
  · exact ⟨rfl, c, kc, z, T, h⟩
theorem gq_milk_y (X : gx_T) (d : Nat) {G : mm_T} {mc wc c kc z : Nat} {T : Int} (h : gi_G G mc wc c kc z T) {f l : Int} (hf : i3_in f) (hl : i3_in l) (hn : mc < 30 ∧ 0 ≤ f ∧ f ≤ 99 ∧ 1 ≤ l ∧ l ≤ 1000) : aw_M X (d + 59) mt_K_milk [av_r (some 0), av_i f, av_i l] G 1 3 (gj_P X (d + 59) mt_Mo_milk [av_r (some 60), av_i f, av_i l] (gi_J (mc + 1) wc)) := by
  obtain ⟨hF, hD, hA, hFa, hT, hB, hM, hC, hX, hE, hN, hL, hI, hS, hK, hP, hO⟩ := id h
  obtain ⟨m1, m2, m3, m4, m5, m6⟩ := hM
  have m30 := hn.1
  refine am_mono ?_ (cm_K_milk X (d + 57) G hF hf hl m1 m3 (fun q => m5 mc (Nat.le_refl _) q))
  rintro r G1 (⟨-, rfl, e1⟩ | ⟨h1, -⟩)
  · have f1 : ∀ b j : Nat, ¬ (b = 200 + mc ∨ (b = 0 ∧ j = 13)) → mm_I G1 b j = mm_I G b j := by
      rw [e1]; exact ff_s (P := fun b j => ¬ (b = 200 + mc ∨ (b = 0 ∧ j = 13))) (ff_r (ff_s (ff_s (ff_n (ff_0 _ G) (fun j => by omega)) (by omega)) (by omega))) (by omega)
    have R1 : ∀ a k, a ≠ 200 + mc → ¬ (a = 5 ∧ k = mc) → mm_R G1 a k = mm_R G a k := fun a k h1 h2 => by
      rw [e1]; show mm_R (ms_R _ 5 mc _) a k = _
      rw [rr_n h2]; exact rnn_n h1
    have A1 : ∀ a, a ≠ 200 + mc → mm_A G1 a = mm_A G a := fun a h1 => by
      rw [e1]; exact an_n h1
    have hF1 : fx_R G1 := fx_by hF (fun a k q1 q2 q3 q4 => R1 a k (by omega) (by omega))
    refine ⟨_, rfl, am_mono ?_ (cm_Mo_milk X (d + 58) _ hF1 hf hl (by rw [f1 60 3 (by omega)]; exact m2) m3)⟩
    rintro r G2 (⟨-, rfl, e2⟩ | ⟨h2, -⟩)
    · refine ⟨rfl, c, kc, z, T, ?_⟩
      have f2 : ∀ b j : Nat, ¬ (b = 63 ∨ b = 64 ∨ (b = 60 ∧ j = 3)) → mm_I G2 b j = mm_I G1 b j := by
        rw [e2]; exact ff_s (P := fun b j => ¬ (b = 63 ∨ b = 64 ∨ (b = 60 ∧ j = 3))) (ff_s (ff_s (ff_0 _ G1) (by omega)) (by omega)) (by omega)
      have e : ∀ b j : Nat, ¬ (b = 200 + mc ∨ (b = 0 ∧ j = 13) ∨ b = 63 ∨ b = 64 ∨ (b = 60 ∧ j = 3)) → mm_I G2 b j = mm_I G b j := fun b j x => (f2 b j (by omega)).trans (f1 b j (by omega))
      have hR2 : mm_R G2 = mm_R G1 := by rw [e2]; rfl
      have hA2 : mm_A G2 = mm_A G1 := by rw [e2]; rfl
      have hM2 : gi_M G2 (mc + 1) wc := by
        refine ⟨by rw [f2 0 13 (by omega), e1, mi_s]; omega, by rw [e2, mi_s]; omega, by omega, fun k hk => ?_, fun k hk hk2 => ?_, fun k hk => ?_⟩
        · rw [hR2]
          by_cases y : k = mc
          · subst y; rw [e1]; exact rr_s _ _ _ _
          · rw [R1 5 k (by omega) (by omega)]; exact m4 k (by omega)
        · rw [hA2, A1 _ (by omega)]; exact m5 k (by omega) hk2
        · have q := m6 k hk
          by_cases y : k = mc
          · subst y
            have g0 : mm_I G1 (200 + k) 0 = f := by rw [e1, mi_n (by omega), mr_I, mi_n (by omega), mi_s]
            have g1 : mm_I G1 (200 + k) 1 = l := by rw [e1, mi_n (by omega), mr_I, mi_s]
            have g2 : mm_I G1 (200 + k) 2 = 0 := by rw [e1, mi_n (by omega), mr_I, mi_n (by omega), mi_n (by omega), in_s]
            have g3 : mm_I G2 63 k = f := by rw [e2, mi_n (by omega), mi_n (by omega), mi_s]
            have g4 : mm_I G2 64 k = l := by rw [e2, mi_n (by omega), mi_s]
            have g5 : mm_I G2 65 k = 0 := by rw [e 65 k (by omega)]; exact q.2.2.2.2 (Nat.le_refl _)
            rw [f2 (200 + k) 0 (by omega), f2 (200 + k) 1 (by omega), f2 (200 + k) 2 (by omega), g0, g1, g2, g3, g4, g5]
            exact ⟨⟨rfl, rfl, rfl⟩, by omega, by omega, by omega, fun _ => rfl⟩
          · have g3 : mm_I G2 63 k = mm_I G 63 k := by rw [e2, mi_n (by omega), mi_n (by omega), mi_n (by omega), f1 63 k (by omega)]
            have g4 : mm_I G2 64 k = mm_I G 64 k := by rw [e2, mi_n (by omega), mi_n (by omega), mi_n (by omega), f1 64 k (by omega)]
            rw [e (200 + k) 0 (by omega), e (200 + k) 1 (by omega), e (200 + k) 2 (by omega), g3, g4, e 65 k (by omega)]
            exact ⟨q.1, q.2.1, q.2.2.1, q.2.2.2.1, fun u => q.2.2.2.2 (by omega)⟩
      have hX2 : gi_X G2 wc := gi_X_f hX (fun k _ => by rw [hR2, R1 6 k (by omega) (by omega)]) (fun k _ => by rw [hA2, A1 _ (by omega)])
      have hF2 : fx_R G2 := fun a k b hb => by rw [hR2]; exact hF1 a k b hb
      exact ⟨hF2, gi_D_f hD (fun b j x => e b j (by omega)), gi_A_f hA (fun b j x => e b j (by omega)), gi_F_f hFa (fun b j x => e b j (by omega)), gi_T_f hT (fun b j x => e b j (by omega)), gi_B_f hB (fun b j x => e b j (by omega)), hM2, gi_C_f hC (fun b j x => e b j (by omega)), hX2, gi_E_f hE (fun b j x => e b j (by omega)), gi_N_f hN (fun b j x => e b j (by omega)), gi_L_f hL (fun b j x => e b j (by omega)), gi_I_f hI (fun b j x => e b j (by omega)), gi_S_f hS (fun b j x => e b j (by omega)), gi_K_f hK (fun b j x => e b j (by omega)), gi_P_f hP (fun b j x => e b j (by omega)), gi_O_f hO (fun b j x => e b j (by omega)) (by rw [hR2, R1 0 11 (by omega) (by omega)]) (by rw [hR2, R1 0 12 (by omega) (by omega)])⟩
    · exact absurd hn h2
  · exact absurd hn h1
/-- what a wheel gets of its milks: the class's side in A, the reference's in B -/
def gu_R (A B : mm_T) (mc w : Nat) (ma wt : Int) : Prop := (∀ k, k < 30 → (mm_I A (200 + k) 0 = mm_I B 63 k ∧ mm_I A (200 + k) 1 = mm_I B 64 k ∧ mm_I A (200 + k) 2 = mm_I B 65 k) ∧ mm_I B 64 k ≤ 1000 ∧ 0 ≤ mm_I B 65 k ∧ mm_I B 65 k ≤ ma ∧ (mc ≤ k → mm_I B 65 k = 0)) ∧ (mm_I A (300 + w) 8 = mm_I B 70 w ∧ 0 ≤ mm_I B 70 w ∧ mm_I B 70 w ≤ wt) ∧ (∀ k, mm_I B 74 k = 0 ∨ mm_I B 74 k = 1) ∧ ∀ m, m < 30 → (ib_b (mm_I A (300 + w) 3) m = true ↔ mm_I B 74 (40 * m + w) = 1)
theorem gu_s {A B : mm_T} {mc w : Nat} {ma wt m l : Int} (h : gu_R A B mc w ma wt) (hmc : mc ≤ 30) (hm : m = -1 ∨ (0 ≤ m ∧ m < mc ∧ 1 ≤ l ∧ l ≤ 1000)) : gu_R (xg_v A w m l) (mg_v B (w : Int) m l) mc w (ma + 1) (wt + 100000) := by
  obtain ⟨h1, h2, h3, h4⟩ := h
  have hw' : ((w : Nat) : Int).toNat = w := by omega
  have hm3 : m < 30 := by omega
  refine ⟨fun k hk => ?_, ?_, fun k => ?_, fun i hi => ?_⟩
  · have q := h1 k hk
    rw [xg_0 _ hk, xg_1 _ hk, xg_2 _ hk, mg_o _ _ _ _ (by omega) (by omega) (by omega) (by omega), mg_64, mg_65]
    by_cases y : m ≠ -1 ∧ k = m.toNat
    · rw [if_pos y, if_pos y]
      refine ⟨⟨q.1.1, by rw [q.1.2.1], by rw [q.1.2.2]⟩, by omega, by omega, by omega, fun u => by omega⟩
    · rw [if_neg y, if_neg y]
      refine ⟨⟨q.1.1, by rw [q.1.2.1], by rw [q.1.2.2]⟩, by omega, by omega, by omega, fun u => by have := q.2.2.2.2 u; omega⟩
  · rw [xg_8 _ hm3, mg_70, hw']
    by_cases y : m = -1
    · rw [if_neg (fun z => z y), if_neg (fun z => z.1 y)]; omega
    · rw [if_pos y, if_pos ⟨y, rfl⟩]; omega
  · rw [mg_74]
    split
    · exact Or.inr rfl
    · exact h3 k
  · rw [xg_3, mg_74]
    by_cases y : m = -1
    · rw [if_pos y, if_neg (fun z => z.1 y)]; exact h4 i hi
    · rw [if_neg y, ib_ior, show m = ((m.toNat : Nat) : Int) by omega, ib_shl (by omega)]
      by_cases x : m.toNat = i
      · rw [if_pos ⟨by omega, by omega⟩, decide_eq_true x, Bool.or_true]; exact ⟨fun _ => rfl, fun _ => rfl⟩
      · rw [if_neg (by omega), decide_eq_false x, Bool.or_false]; exact h4 i hi
theorem gu_f {A A' B B' : mm_T} {mc w : Nat} {ma wt : Int} (h : gu_R A B mc w ma wt) (hw : w < 40) (e : ff_F (fun b j => (200 ≤ b ∧ b < 230) ∨ (b = 300 + w ∧ (j = 3 ∨ j = 8))) A A') (e' : ff_F (fun b j => (63 ≤ b ∧ b ≤ 65) ∨ b = 74 ∨ (b = 70 ∧ j = w)) B B') : gu_R A' B' mc w ma wt := by
  obtain ⟨h1, h2, h3, h4⟩ := h
  refine ⟨fun k hk => ?_, ?_, fun k => ?_, fun i hi => ?_⟩
  · rw [e (200 + k) 0 (by omega), e (200 + k) 1 (by omega), e (200 + k) 2 (by omega), e' 63 k (by omega), e' 64 k (by omega), e' 65 k (by omega)]; exact h1 k hk
  · rw [e (300 + w) 8 (by omega), e' 70 w (by omega)]; exact h2
  · rw [e' 74 k (by omega)]; exact h3 k
  · rw [e (300 + w) 3 (by omega), e' 74 _ (by omega)]; exact h4 i hi
