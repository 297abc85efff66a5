/-! ===== a wheel of the class is made ===== -/
theorem xg_o (G : mm_T) (w : Nat) (m l : Int) {a : Nat} (h1 : a < 200 ∨ 230 ≤ a) (h2 : a ≠ 300 + w) (hm : m < 30) : mm_I (xg_v G w m l) a = mm_I G a := by
  unfold xg_v
  split
  · rfl
  · rw [mi_o _ _ _ h2, mi_o _ _ _ h2, mi_o _ _ _ (by omega), mi_o _ _ _ (by omega)]
theorem xg_1 (G : mm_T) {w : Nat} {m l : Int} {k : Nat} (hk : k < 30) : mm_I (xg_v G w m l) (200 + k) 1 = mm_I G (200 + k) 1 - (if m ≠ -1 ∧ k = m.toNat then l else 0) := by
  unfold xg_v
  by_cases h : m = -1
  · rw [if_pos h, if_neg (by omega)]; omega
  · rw [if_neg h, mi_n (by omega), mi_n (by omega), mi_n (by omega)]
    by_cases hkm : k = m.toNat
    · rw [hkm, mi_s, if_pos ⟨h, rfl⟩]
    · rw [mi_n (by omega), if_neg (by omega)]; omega
theorem xg_2 (G : mm_T) {w : Nat} {m l : Int} {k : Nat} (hk : k < 30) : mm_I (xg_v G w m l) (200 + k) 2 = mm_I G (200 + k) 2 + (if m ≠ -1 ∧ k = m.toNat then 1 else 0) := by
  unfold xg_v
  by_cases h : m = -1
  · rw [if_pos h, if_neg (by omega)]; omega
  · rw [if_neg h, mi_n (by omega), mi_n (by omega)]
    by_cases hkm : k = m.toNat
    · rw [hkm, mi_s, if_pos ⟨h, rfl⟩]
    · rw [mi_n (by omega), mi_n (by omega), if_neg (by omega)]; omega
theorem xg_0 (G : mm_T) {w : Nat} {m l : Int} {k : Nat} (hk : k < 30) : mm_I (xg_v G w m l) (200 + k) 0 = mm_I G (200 + k) 0 := by
  unfold xg_v
  split
  · rfl
  · rw [mi_n (by omega), mi_n (by omega), mi_n (by omega), mi_n (by omega)]
theorem xg_8 (G : mm_T) {w : Nat} {m l : Int} (hm : m < 30) : mm_I (xg_v G w m l) (300 + w) 8 = mm_I G (300 + w) 8 + (if m ≠ -1 then 100 * l else 0) := by
  unfold xg_v
  by_cases h : m = -1
  · rw [if_pos h, if_neg (by omega)]; omega
  · rw [if_neg h, mi_n (by omega), mi_s, if_pos h]
theorem xg_3 (G : mm_T) {w : Nat} {m l : Int} : mm_I (xg_v G w m l) (300 + w) 3 = if m = -1 then mm_I G (300 + w) 3 else b_ior (mm_I G (300 + w) 3) (b_ishl 1 m) := by
  unfold xg_v
  by_cases h : m = -1
  · rw [if_pos h, if_pos h]
  · rw [if_neg h, if_neg h, mi_s]
theorem xg_w (G : mm_T) {w : Nat} {m l : Int} {j : Nat} (h1 : j ≠ 8) (h2 : j ≠ 3) (hm : m < 30) : mm_I (xg_v G w m l) (300 + w) j = mm_I G (300 + w) j := by
  unfold xg_v
  split
  · rfl
  · rw [mi_n (by omega), mi_n (by omega), mi_n (by omega), mi_n (by omega)]
theorem xg_R (G : mm_T) (w : Nat) (m l : Int) : mm_R (xg_v G w m l) = mm_R G := by unfold xg_v; split <;> rfl
theorem xg_A (G : mm_T) (w : Nat) (m l : Int) : mm_A (xg_v G w m l) = mm_A G := by unfold xg_v; split <;> rfl
theorem xg_J (G : mm_T) (w : Nat) (m l : Int) : mm_J (xg_v G w m l) = mm_J G := by unfold xg_v; split <;> rfl
theorem xg_F {G : mm_T} (w : Nat) (m l : Int) (h : fx_R G) : fx_R (xg_v G w m l) := by intro a k b hb; rw [xg_R]; exact h a k b hb
theorem xg_W {G : mm_T} (w : Nat) {m l : Int} (hm : m < 30) (h : fx_W G) : fx_W (xg_v G w m l) := by
  unfold fx_W
  rw [xg_R, xg_o G w m l (a := 0) (by omega) (by omega) hm]
  exact h
/-- the new wheel before it gets its milks -/
def xw_0 (U : mm_T) (w : Nat) (k t : Int) : mm_T := ms_I (ms_I (ms_I (ms_I (ms_I (ms_N U (300 + w)) (300 + w) 4 (-1)) (300 + w) 5 (-1)) (300 + w) 0 w) (300 + w) 1 k) (300 + w) 2 t
theorem xw_o (U : mm_T) (w : Nat) (k t : Int) {a : Nat} (h : a ≠ 300 + w) : mm_I (xw_0 U w k t) a = mm_I U a := by
  unfold xw_0
  rw [mi_o _ _ _ h, mi_o _ _ _ h, mi_o _ _ _ h, mi_o _ _ _ h, mi_o _ _ _ h]
  funext j
  exact mn_I U j h
theorem xw_R (U : mm_T) (w : Nat) (k t : Int) {a : Nat} (h : a ≠ 300 + w) : mm_R (xw_0 U w k t) a = mm_R U a := by
  funext j
  exact mn_R U j h
theorem xw_w (U : mm_T) (w : Nat) (k t : Int) (j : Nat) : mm_I (xw_0 U w k t) (300 + w) j = if j = 2 then t else if j = 1 then k else if j = 0 then (w : Int) else if j = 5 then -1 else if j = 4 then -1 else 0 := by
  unfold xw_0
  by_cases h2 : j = 2
  · rw [if_pos h2, h2, mi_s]
  · rw [if_neg h2, mi_n (by omega)]
    by_cases h1 : j = 1
    · rw [if_pos h1, h1, mi_s]
    · rw [if_neg h1, mi_n (by omega)]
      by_cases h0 : j = 0
      · rw [if_pos h0, h0, mi_s]
      · rw [if_neg h0, mi_n (by omega)]
        by_cases h5 : j = 5
        · rw [if_pos h5, h5, mi_s]
        · rw [if_neg h5, mi_n (by omega)]
          by_cases h4 : j = 4
          · rw [if_pos h4, h4, mi_s]
          · rw [if_neg h4, mi_n (by omega), ms_N_I]
theorem fx_new {U G : mm_T} (h : fx_R U) (hR : ∀ a, a < 100 → mm_R G a = mm_R U a) : fx_R G := by
  intro a k b hb
  have ha : a < 100 := by
    refine Classical.byContradiction (fun z => ?_)
    have : fx_tab.length = 61 := rfl
    unfold fx_t at hb
    rw [List.getD_eq_getElem?_getD (l := fx_tab), List.getElem?_eq_none (by omega)] at hb
    simp at hb
  rw [hR a ha]
  exact h a k b hb
def xl_y (G : mm_T) (w : Nat) (s t : Int) (c : Nat) : mm_T := ms_I (ms_I (ms_I (ms_I (ms_I (ms_I (ms_I (ms_I G (300 + w) 4 s) 13 c w) 14 c s) 15 c t) 16 c (-1)) 12 4 (c + 1)) (300 + w) 5 c) 4 s.toNat (mm_I G 4 s.toNat + 1)
theorem cm_K_makeWheel (X : gx_T) (d : Nat) (U : mm_T) {kd s m1 l1 m2 l2 m3 l3 : Int} {w c : Nat} (hF : fx_R U) (hW : fx_W U) (hA : mm_A U (300 + w) = false) (hwc : mm_I U 0 14 = w) (hw : w < 40) (hkd : 0 ≤ kd ∧ kd ≤ 2) (hs : 0 ≤ s ∧ s ≤ 23) (hc : mm_I U 12 4 = c) (hc2 : c < 200) (hly : 0 ≤ mm_I U 4 s.toNat ∧ mm_I U 4 s.toNat < 4)
    (e1 : mm_I U 40 0 = m1) (e2 : mm_I U 40 1 = m2) (e3 : mm_I U 40 2 = m3) (e4 : mm_I U 41 0 = l1) (e5 : mm_I U 41 1 = l2) (e6 : mm_I U 41 2 = l3)
    (p1 : m1 = -1 ∨ (0 ≤ m1 ∧ m1 < mm_I U 0 13 ∧ 1 ≤ l1 ∧ l1 ≤ mm_I U (200 + m1.toNat) 1)) (p2 : m2 = -1 ∨ (0 ≤ m2 ∧ m2 < mm_I U 0 13 ∧ 1 ≤ l2 ∧ l2 ≤ mm_I U (200 + m2.toNat) 1)) (p3 : m3 = -1 ∨ (0 ≤ m3 ∧ m3 < mm_I U 0 13 ∧ 1 ≤ l3 ∧ l3 ≤ mm_I U (200 + m3.toNat) 1))
    (n12 : m2 ≠ m1 ∨ m2 = -1) (n13 : m3 ≠ m1 ∨ m3 = -1) (n23 : m3 ≠ m2 ∨ m3 = -1) (hle : ∀ k, k < 30 → mm_I U (200 + k) 1 ≤ 1000) (hma : ∀ k, k < 30 → 0 ≤ mm_I U (200 + k) 2 ∧ mm_I U (200 + k) 2 ≤ 397) :
    aw_M X (d + 4) mt_K_makeWheel [av_r (some 0), av_i kd, av_i s] U 1 10 (fun r G' => r = some (av_i w) ∧ G' = ms_I (ms_I (ms_R (xl_y (xg_v (xg_v (xg_v (xw_0 U w kd (mm_I U 0 15)) w m1 l1) w m2 l2) w m3 l3) w s (mm_I U 0 15) c) 6 w (some (300 + w))) 0 14 (w + 1)) 24 11 1) := by
  have hW1 := hW.1
  have b1 : m1 < 30 := by rcases p1 with h | h <;> omega
  have b2 : m2 < 30 := by rcases p2 with h | h <;> omega
  have b3 : m3 < 30 := by rcases p3 with h | h <;> omega
  refine aw_enter pf_K_makeWheel (Nat.le_of_ble_eq_true rfl) (ar_rngI fun rg => ?_)
  have ht := rg 0 15
  generalize hT : mm_I U 0 15 = t at ht ⊢
  generalize hG0 : xw_0 U w kd t = G0
  have o0 : ∀ a, a ≠ 300 + w → mm_I G0 a = mm_I U a := fun a ha => by rw [← hG0]; exact xw_o U w kd t ha
  have w0 : ∀ j, mm_I G0 (300 + w) j = if j = 2 then t else if j = 1 then kd else if j = 0 then (w : Int) else if j = 5 then -1 else if j = 4 then -1 else 0 := fun j => by rw [← hG0]; exact xw_w U w kd t j
  have R0 : ∀ a, a ≠ 300 + w → mm_R G0 a = mm_R U a := fun a ha => by rw [← hG0]; exact xw_R U w kd t ha
  have F0 : fx_R G0 := fx_new hF (fun a ha => R0 a (by omega))
  have W0 : fx_W G0 := by
    unfold fx_W
    rw [o0 0 (by omega), R0 5 (by omega), R0 6 (by omega)]
    exact hW
  generalize hG1 : xg_v G0 w m1 l1 = G1
  generalize hG2 : xg_v G1 w m2 l2 = G2
  generalize hG3 : xg_v G2 w m3 l3 = G3
  have F1 : fx_R G1 := by rw [← hG1]; exact xg_F _ _ _ F0
  have F2 : fx_R G2 := by rw [← hG2]; exact xg_F _ _ _ F1
  have F3 : fx_R G3 := by rw [← hG3]; exact xg_F _ _ _ F2
  have W1 : fx_W G1 := by rw [← hG1]; exact xg_W _ b1 W0
  have W2 : fx_W G2 := by rw [← hG2]; exact xg_W _ b2 W1
  have o1 : ∀ a, (a < 200 ∨ 230 ≤ a) → a ≠ 300 + w → mm_I G1 a = mm_I U a := fun a h1 h2 => by rw [← hG1, xg_o _ _ _ _ h1 h2 b1]; exact o0 a h2
  have o2 : ∀ a, (a < 200 ∨ 230 ≤ a) → a ≠ 300 + w → mm_I G2 a = mm_I U a := fun a h1 h2 => by rw [← hG2, xg_o _ _ _ _ h1 h2 b2]; exact o1 a h1 h2
  have o3 : ∀ a, (a < 200 ∨ 230 ≤ a) → a ≠ 300 + w → mm_I G3 a = mm_I U a := fun a h1 h2 => by rw [← hG3, xg_o _ _ _ _ h1 h2 b3]; exact o2 a h1 h2
  have L0 : ∀ k, k < 30 → mm_I G0 (200 + k) 1 = mm_I U (200 + k) 1 := fun k hk => by rw [o0 _ (by omega)]
  have L1 : ∀ k, k < 30 → mm_I G1 (200 + k) 1 = mm_I U (200 + k) 1 - (if m1 ≠ -1 ∧ k = m1.toNat then l1 else 0) := fun k hk => by rw [← hG1, xg_1 _ hk, L0 k hk]
  have L2 : ∀ k, k < 30 → mm_I G2 (200 + k) 1 = mm_I U (200 + k) 1 - (if m1 ≠ -1 ∧ k = m1.toNat then l1 else 0) - (if m2 ≠ -1 ∧ k = m2.toNat then l2 else 0) := fun k hk => by rw [← hG2, xg_1 _ hk, L1 k hk]
  have M0 : ∀ k, k < 30 → mm_I G0 (200 + k) 2 = mm_I U (200 + k) 2 := fun k hk => by rw [o0 _ (by omega)]
  have M1 : ∀ k, k < 30 → 0 ≤ mm_I G1 (200 + k) 2 ∧ mm_I G1 (200 + k) 2 ≤ 398 := fun k hk => by have := hma k hk; rw [← hG1, xg_2 _ hk, M0 k hk]; split <;> omega
  have M2 : ∀ k, k < 30 → 0 ≤ mm_I G2 (200 + k) 2 ∧ mm_I G2 (200 + k) 2 ≤ 399 := fun k hk => by have := M1 k hk; rw [← hG2, xg_2 _ hk]; split <;> omega
  have q1 : m1 = -1 ∨ (0 ≤ m1 ∧ m1 < mm_I G0 0 13 ∧ 1 ≤ l1 ∧ l1 ≤ mm_I G0 (200 + m1.toNat) 1 ∧ mm_I G0 (200 + m1.toNat) 1 ≤ 1000 ∧ 0 ≤ mm_I G0 (200 + m1.toNat) 2 ∧ mm_I G0 (200 + m1.toNat) 2 ≤ 400) := by
    rcases p1 with h | h
    · exact Or.inl h
    · have a1 := hle m1.toNat (by omega)
      have a2 := hma m1.toNat (by omega)
      rw [o0 0 (by omega), L0 _ (by omega), M0 _ (by omega)]
      exact Or.inr (by omega)
  have k1 : m1 = -1 ∨ (1 ≤ l1 ∧ l1 ≤ 1000) := by
    rcases p1 with h | h
    · exact Or.inl h
    · have a1 := hle m1.toNat (by omega); exact Or.inr (by omega)
  have k2 : m2 = -1 ∨ (1 ≤ l2 ∧ l2 ≤ 1000) := by
    rcases p2 with h | h
    · exact Or.inl h
    · have a1 := hle m2.toNat (by omega); exact Or.inr (by omega)
  have q2 : m2 = -1 ∨ (0 ≤ m2 ∧ m2 < mm_I G1 0 13 ∧ 1 ≤ l2 ∧ l2 ≤ mm_I G1 (200 + m2.toNat) 1 ∧ mm_I G1 (200 + m2.toNat) 1 ≤ 1000 ∧ 0 ≤ mm_I G1 (200 + m2.toNat) 2 ∧ mm_I G1 (200 + m2.toNat) 2 ≤ 400) := by
    rcases p2 with h | h
    · exact Or.inl h
    · have a1 := hle m2.toNat (by omega)
      have a2 := M1 m2.toNat (by omega)
      rw [o1 0 (by omega) (by omega), L1 _ (by omega), if_neg (by omega)]
      exact Or.inr (by omega)
  have q3 : m3 = -1 ∨ (0 ≤ m3 ∧ m3 < mm_I G2 0 13 ∧ 1 ≤ l3 ∧ l3 ≤ mm_I G2 (200 + m3.toNat) 1 ∧ mm_I G2 (200 + m3.toNat) 1 ≤ 1000 ∧ 0 ≤ mm_I G2 (200 + m3.toNat) 2 ∧ mm_I G2 (200 + m3.toNat) 2 ≤ 400) := by
    rcases p3 with h | h
    · exact Or.inl h
    · have a1 := hle m3.toNat (by omega)
      have a2 := M2 m3.toNat (by omega)
      rw [o2 0 (by omega) (by omega), L2 _ (by omega), if_neg (by omega), if_neg (by omega)]
      exact Or.inr (by omega)
  have v0 : mm_I G0 (300 + w) 8 = 0 := by rw [w0]; rfl
  have v1 : 0 ≤ mm_I G1 (300 + w) 8 ∧ mm_I G1 (300 + w) 8 ≤ 100000 := by rw [← hG1, xg_8 _ b1, v0]; split <;> omega
  have v2 : 0 ≤ mm_I G2 (300 + w) 8 ∧ mm_I G2 (300 + w) 8 ≤ 200000 := by rw [← hG2, xg_8 _ b2]; split <;> omega
  have n3 : mm_I G3 (300 + w) 0 = w := by rw [← hG3, xg_w _ (by omega) (by omega) b3, ← hG2, xg_w _ (by omega) (by omega) b2, ← hG1, xg_w _ (by omega) (by omega) b1, w0]; rfl
  have c3 : mm_I G3 12 4 = c := by rw [o3 12 (by omega) (by omega)]; exact hc
  have ly3 : mm_I G3 4 = mm_I U 4 := o3 4 (by omega) (by omega)
  have t3 : mm_I G3 0 15 = t := by rw [o3 0 (by omega) (by omega)]; exact hT
  have wc3 : mm_I G3 0 14 = w := by rw [o3 0 (by omega) (by omega)]; exact hwc
  have lay := cm_K_layOn X d G3 (w := w) (s := s) (c := c) F3 hw hs n3 c3 hc2 (by rw [ly3]; omega)
  rw [t3] at lay
  have fin : aw_W X mt_K_makeWheel (d + 4) 23 [(0, some (av_r (some 0))), (2, some (av_i s)), (3, some (av_i (w : Int))), (4, some (av_r (some (300 + w)))), (5, some (av_i (((2 : Nat) : Int) + 1)))] [] G3 0 0 (fun r G' => r = some (av_i w) ∧ G' = ms_I (ms_I (ms_R (xl_y G3 w s t c) 6 w (some (300 + w))) 0 14 (w + 1)) 24 11 1) := by
    clear q1 q2 q3 p1 p2 p3 k1 k2 n12 n13 n23
    refine ar_iload (pc := 23) d_K_makeWheel_23 rfl ?_
    refine ar_iconst (pc := 25) d_K_makeWheel_25 ?_
    refine ar_icmp_ge (pc := 26) 120 d_K_makeWheel_26 (by decide) ⟨by omega, by omega⟩ ⟨by omega, by omega⟩ (fun h_26 => ?_) (fun h_26 => by exfalso; omega)
    refine ar_aload_n (pc := 120) d_K_makeWheel_120 rfl ?_
    refine ar_aload (pc := 121) d_K_makeWheel_121 rfl ?_
    refine ar_iload_n (pc := 123) d_K_makeWheel_123 rfl ?_
    refine ac_virt (pc := 124) (N := mt_K_layOn) _ _ mv_K_layOn ml_K_289 ck_11 d_K_makeWheel_124 lay (by first | rfl | exact sh_wheel (by omega) | exact sh_milk (by omega)) rfl rfl (Nat.le_of_ble_eq_true rfl) (Nat.le_of_eq (Nat.zero_add _)) (Nat.le_of_eq (Nat.zero_add _)) (fun r_124 G_124 h_124 => ?_)
    obtain ⟨rfl, e_124⟩ := h_124
    subst G_124
    refine ar_aload_n (pc := 127) d_K_makeWheel_127 rfl ?_
    refine ar_getR (pc := 128) gf_K_24 d_K_makeWheel_128 (by first | rfl | exact sh_wheel (by omega) | exact sh_milk (by omega)) (F3 _ _ _ rfl) ?_
    refine ar_iload_n (pc := 131) d_K_makeWheel_131 rfl ?_
    refine ar_aload (pc := 132) d_K_makeWheel_132 rfl ?_
    refine ar_aast104 (pc := 134) d_K_makeWheel_134 ck_10 rfl (sh_wheel hw) (w) (by omega) (by omega) ?_
    refine ar_aload_n (pc := 135) d_K_makeWheel_135 rfl ?_
    refine ar_dup (pc := 136) d_K_makeWheel_136 rfl ?_
    refine ar_getIv (pc := 137) gf_K_115 d_K_makeWheel_137 (by first | rfl | exact sh_wheel (by omega) | exact sh_milk (by omega)) (show _ = (w : Int) from by rw [mr_I, mi_n (by omega), mi_n (by omega), mi_n (by omega), mi_n (by omega), mi_n (by omega), mi_n (by omega), mi_n (by omega), mi_n (by omega)]; exact wc3) (fun r_137 => ?_)
    refine ar_iconst (pc := 140) d_K_makeWheel_140 ?_
    refine ar_iadd (pc := 141) d_K_makeWheel_141 ?_
    refine ar_putI (pc := 142) gf_K_115 d_K_makeWheel_142 rfl (by first | rfl | exact sh_wheel (by omega) | exact sh_milk (by omega)) ⟨by omega, by omega⟩ ?_
    refine ar_aload_n (pc := 145) d_K_makeWheel_145 rfl ?_
    refine ar_getR (pc := 146) gf_K_52 d_K_makeWheel_146 (by first | rfl | exact sh_wheel (by omega) | exact sh_milk (by omega)) (F3 _ _ _ rfl) ?_
    refine ac_virt (pc := 149) (N := mt_Pl_spoil) _ _ mv_Pl_spoil ml_K_94 ck_4 d_K_makeWheel_149 (cm_Pl_spoil _ _ _) (by first | rfl | exact sh_wheel (by omega) | exact sh_milk (by omega)) rfl rfl (Nat.le_of_ble_eq_true rfl) (Nat.le_of_eq (Nat.zero_add _)) (Nat.le_of_eq (Nat.zero_add _)) (fun r_149 G_149 h_149 => ?_)
    obtain ⟨rfl, e_149⟩ := h_149
    subst G_149
    refine ar_iload_n (pc := 152) d_K_makeWheel_152 rfl ?_
    refine ar_iret (pc := 153) d_K_makeWheel_153 rfl ?_
    rotate_left
    -- leaves: ret 153
    · exact ⟨rfl, rfl⟩
  have s3 := lp_K_makeWheel X (d + 2) G2 (w := w) (i := 2) (m := m3) (l := l3) (s := s) F2 W2 hw (by omega) (by rw [o2 40 (by omega) (by omega)]; exact e3) (by rw [o2 41 (by omega) (by omega)]; exact e6) q3 ⟨v2.1, by omega⟩ (by rw [hG3]; exact fin)
  have s2 := lp_K_makeWheel X (d + 2) G1 (w := w) (i := 1) (m := m2) (l := l2) (s := s) F1 W1 hw (by omega) (by rw [o1 40 (by omega) (by omega)]; exact e2) (by rw [o1 41 (by omega) (by omega)]; exact e5) q2 ⟨v1.1, by omega⟩ (by rw [hG2]; exact ar_loc s3 ⟨rfl, rfl, rfl, rfl, li_i rfl (by omega), trivial⟩)
  have s1 := lp_K_makeWheel X (d + 2) G0 (w := w) (i := 0) (m := m1) (l := l1) (s := s) F0 W0 hw (by omega) (by rw [o0 40 (by omega)]; exact e1) (by rw [o0 41 (by omega)]; exact e4) q1 ⟨by omega, by omega⟩ (by rw [hG1]; exact ar_loc s2 ⟨rfl, rfl, rfl, rfl, li_i rfl (by omega), trivial⟩)
  clear q1 q2 q3 p1 p2 p3 k1 k2 n12 n13 n23 fin s2 s3 lay
  refine ar_aload_n (pc := 0) d_K_makeWheel_0 rfl ?_
  refine ar_getIv (pc := 1) gf_K_115 d_K_makeWheel_1 (by first | rfl | exact sh_wheel (by omega) | exact sh_milk (by omega)) hwc (fun r_1 => ?_)
  refine ar_istore_n (pc := 4) d_K_makeWheel_4 rfl (by decide) ?_
  refine ac_new (pc := 5) (300 + w) ck_10 kl_K_22 in_Wh it_Wh d_K_makeWheel_5 (sh_wheel hw) hA ?_
  refine ar_dup (pc := 8) d_K_makeWheel_8 rfl ?_
  refine ar_iload_n (pc := 9) d_K_makeWheel_9 rfl ?_
  refine ar_iload_n (pc := 10) d_K_makeWheel_10 rfl ?_
  refine ar_aload_n (pc := 11) d_K_makeWheel_11 rfl ?_
  refine ar_getIv (pc := 12) gf_K_132 d_K_makeWheel_12 (by first | rfl | exact sh_wheel (by omega) | exact sh_milk (by omega)) (show _ = t from (mn_I U 15 (by omega)).trans hT) (fun r_12 => ?_)
  refine ac_init (pc := 15) (N := mt_Wh_init) _ _ iv_Wh_init ml_K_283 d_K_makeWheel_15 (cm_Wh_init (w := w) _ _ _ hw ⟨by omega, by omega⟩ ⟨by omega, by omega⟩ ht) rfl rfl (Nat.le_of_ble_eq_true rfl) (Nat.le_of_eq (Nat.zero_add _)) (Nat.le_of_eq (Nat.zero_add _)) (fun r_15 G_15 h_15 => ?_)
  obtain ⟨rfl, e_15⟩ := h_15
  subst G_15
  refine ar_astore (pc := 18) d_K_makeWheel_18 rfl (by decide) ?_
  refine ar_iconst (pc := 20) d_K_makeWheel_20 ?_
  refine ar_istore (pc := 21) d_K_makeWheel_21 rfl (by decide) ?_
  rotate_left
  -- leaves: stop 23
  · have e0 : ms_I (ms_I (ms_I (ms_I (ms_I (ms_N U (300 + w)) (300 + w) 4 (-1)) (300 + w) 5 (-1)) (300 + w) 0 w) (300 + w) 1 kd) (300 + w) 2 t = G0 := hG0
    rw [e0]
    exact ar_loc s1 ⟨rfl, rfl, rfl, rfl, rfl, trivial⟩
