/-! ===== a wheel of the reference ===== -/
def mg_v (G : mm_T) (w m l : Int) : mm_T := if m = -1 then G else ms_I (ms_I (ms_I (ms_I G 64 m.toNat (mm_I G 64 m.toNat - l)) 65 m.toNat (mm_I G 65 m.toNat + 1)) 74 (40 * m + w).toNat 1) 70 w.toNat (mm_I G 70 w.toNat + 100 * l)
theorem mg_64 (G : mm_T) (w m l : Int) (k : Nat) : mm_I (mg_v G w m l) 64 k = mm_I G 64 k - (if m ≠ -1 ∧ k = m.toNat then l else 0) := by
  unfold mg_v
  by_cases h : m = -1
  · rw [if_pos h, if_neg (by omega)]; omega
  · rw [if_neg h]
    show mm_I (ms_I G 64 m.toNat (mm_I G 64 m.toNat - l)) 64 k = _
    by_cases hk : k = m.toNat
    · rw [hk, mi_s, if_pos ⟨h, rfl⟩]
    · rw [mi_n (by omega), if_neg (by omega)]; omega
theorem mg_65 (G : mm_T) (w m l : Int) (k : Nat) : mm_I (mg_v G w m l) 65 k = mm_I G 65 k + (if m ≠ -1 ∧ k = m.toNat then 1 else 0) := by
  unfold mg_v
  by_cases h : m = -1
  · rw [if_pos h, if_neg (by omega)]; omega
  · rw [if_neg h]
    show mm_I (ms_I (ms_I G 64 m.toNat (mm_I G 64 m.toNat - l)) 65 m.toNat (mm_I G 65 m.toNat + 1)) 65 k = _
    by_cases hk : k = m.toNat
    · rw [hk, mi_s, if_pos ⟨h, rfl⟩]
    · rw [mi_n (by omega), if_neg (by omega)]; show mm_I G 65 k = _; omega
theorem mg_70 (G : mm_T) (w m l : Int) (k : Nat) : mm_I (mg_v G w m l) 70 k = mm_I G 70 k + (if m ≠ -1 ∧ k = w.toNat then 100 * l else 0) := by
  unfold mg_v
  by_cases h : m = -1
  · rw [if_pos h, if_neg (by omega)]; omega
  · rw [if_neg h]
    by_cases hk : k = w.toNat
    · rw [hk, mi_s, if_pos ⟨h, rfl⟩]
    · rw [mi_n (by omega), if_neg (by omega)]; show mm_I G 70 k = _; omega
theorem mg_74 (G : mm_T) (w m l : Int) (k : Nat) : mm_I (mg_v G w m l) 74 k = if m ≠ -1 ∧ k = (40 * m + w).toNat then 1 else mm_I G 74 k := by
  unfold mg_v
  by_cases h : m = -1
  · rw [if_pos h, if_neg (by omega)]
  · rw [if_neg h]
    show mm_I (ms_I (ms_I (ms_I G 64 m.toNat (mm_I G 64 m.toNat - l)) 65 m.toNat (mm_I G 65 m.toNat + 1)) 74 (40 * m + w).toNat 1) 74 k = _
    by_cases hk : k = (40 * m + w).toNat
    · rw [hk, mi_s, if_pos ⟨h, rfl⟩]
    · rw [mi_n (by omega), if_neg (by omega)]; rfl
theorem mg_o (G : mm_T) (w m l : Int) {a : Nat} (h1 : a ≠ 64) (h2 : a ≠ 65) (h3 : a ≠ 70) (h4 : a ≠ 74) : mm_I (mg_v G w m l) a = mm_I G a := by
  unfold mg_v
  split
  · rfl
  · rw [mi_o _ _ _ h3, mi_o _ _ _ h4, mi_o _ _ _ h2, mi_o _ _ _ h1]
theorem mg_R (G : mm_T) (w m l : Int) : mm_R (mg_v G w m l) = mm_R G := by unfold mg_v; split <;> rfl
theorem mg_A (G : mm_T) (w m l : Int) : mm_A (mg_v G w m l) = mm_A G := by unfold mg_v; split <;> rfl
theorem mg_J (G : mm_T) (w m l : Int) : mm_J (mg_v G w m l) = mm_J G := by unfold mg_v; split <;> rfl
theorem mg_F {G : mm_T} (w m l : Int) (h : fx_R G) : fx_R (mg_v G w m l) := by intro a k b hb; rw [mg_R]; exact h a k b hb
def ml_y (G : mm_T) (w s : Int) (c : Nat) : mm_T := ms_I (ms_I (ms_I (ms_I (ms_I (ms_I (ms_I G 67 w.toNat s) 73 w.toNat c) 75 c w) 76 c s) 77 c (mm_I G 60 0)) 78 c (-1)) 60 5 (c + 1)
theorem bv_n {p : Prop} (h : ¬ bv_p p = 0) : p := Classical.byContradiction (fun z => h (bv_f z))
theorem bv_r (p : Prop) : 0 ≤ bv_p p ∧ bv_p p ≤ 1 := by rcases bv_c p with h | h <;> omega
theorem mg_ok {G : mm_T} {m l : Int} {mc : Int} (hmc : mc ≤ 30) (hp : m = -1 ∨ (0 ≤ m ∧ m < mc ∧ 1 ≤ l ∧ l ≤ mm_I G 64 m.toNat)) (hle : ∀ k, k < 30 → mm_I G 64 k ≤ 1000) (hma : ∀ k, k < 30 → 0 ≤ mm_I G 65 k ∧ mm_I G 65 k ≤ 400) : m = -1 ∨ (0 ≤ m ∧ m < 30 ∧ 1 ≤ l ∧ l ≤ mm_I G 64 m.toNat ∧ mm_I G 64 m.toNat ≤ 1000 ∧ 0 ≤ mm_I G 65 m.toNat ∧ mm_I G 65 m.toNat ≤ 400) := by
  rcases hp with h | h
  · exact Or.inl h
  · have h1 := hle m.toNat (by omega)
    have h2 := hma m.toNat (by omega)
    exact Or.inr ⟨by omega, by omega, by omega, by omega, h1, h2⟩
theorem mg_keep {G : mm_T} {w m l m2 l2 : Int} {mc : Int} (hne : m2 ≠ m ∨ m2 = -1) (hm : m = -1 ∨ 0 ≤ m) (hp : m2 = -1 ∨ (0 ≤ m2 ∧ m2 < mc ∧ 1 ≤ l2 ∧ l2 ≤ mm_I G 64 m2.toNat)) : m2 = -1 ∨ (0 ≤ m2 ∧ m2 < mc ∧ 1 ≤ l2 ∧ l2 ≤ mm_I (mg_v G w m l) 64 m2.toNat) := by
  rcases hp with h | h
  · exact Or.inl h
  · refine Or.inr ⟨by omega, by omega, by omega, ?_⟩
    rw [mg_64, if_neg (by omega)]; omega
theorem mg_le {G : mm_T} {w m l : Int} (hl : m = -1 ∨ 0 ≤ l) (hle : ∀ k, k < 30 → mm_I G 64 k ≤ 1000) : ∀ k, k < 30 → mm_I (mg_v G w m l) 64 k ≤ 1000 := by
  intro k hk
  have := hle k hk
  rw [mg_64]
  split <;> omega
theorem mg_ma {G : mm_T} {w m l b : Int} (hma : ∀ k, k < 30 → 0 ≤ mm_I G 65 k ∧ mm_I G 65 k ≤ b) : ∀ k, k < 30 → 0 ≤ mm_I (mg_v G w m l) 65 k ∧ mm_I (mg_v G w m l) 65 k ≤ b + 1 := by
  intro k hk
  have := hma k hk
  rw [mg_65]
  split <;> omega
theorem mg_wt {G : mm_T} {w m l b : Int} (hl : m = -1 ∨ (0 ≤ l ∧ l ≤ 1000)) (h : 0 ≤ mm_I G 70 w.toNat ∧ mm_I G 70 w.toNat ≤ b) : 0 ≤ mm_I (mg_v G w m l) 70 w.toNat ∧ mm_I (mg_v G w m l) 70 w.toNat ≤ b + 100000 := by
  rw [mg_70]
  split <;> omega
theorem cm_Mo_wheel_t (X : gx_T) (d : Nat) (G1 : mm_T) {s m1 l1 m2 l2 m3 l3 mc : Int} {wc c : Nat} {Q : Option av_T → mm_T → Prop} (hF1 : fx_R G1) (hs : 0 ≤ s ∧ s ≤ 23) (h2 : i3_in l1) (h4 : i3_in l2) (h6 : i3_in l3) (hwc2 : wc < 40) (hc2 : c < 200) (hmc : mc ≤ 30) (h0 : 0 ≤ m1) (hp1 : m1 = -1 ∨ (0 ≤ m1 ∧ m1 < mc ∧ 1 ≤ l1 ∧ l1 ≤ mm_I G1 64 m1.toNat)) (hp2 : m2 = -1 ∨ (0 ≤ m2 ∧ m2 < mc ∧ 1 ≤ l2 ∧ l2 ≤ mm_I G1 64 m2.toNat)) (hp3 : m3 = -1 ∨ (0 ≤ m3 ∧ m3 < mc ∧ 1 ≤ l3 ∧ l3 ≤ mm_I G1 64 m3.toNat)) (h12 : m1 ≠ m2) (h13 : m1 ≠ m3) (h23 : m2 ≠ m3 ∨ m2 = -1) (hle : ∀ k, k < 30 → mm_I G1 64 k ≤ 1000) (hma : ∀ k, k < 30 → 0 ≤ mm_I G1 65 k ∧ mm_I G1 65 k ≤ 397) (hwt : mm_I G1 70 wc = 0) (hc : mm_I G1 60 5 = c)
    (hq : Q (some (av_i wc)) (ms_I (ml_y (mg_v (mg_v (mg_v G1 wc m1 l1) wc m2 l2) wc m3 l3) wc s c) 60 53 0)) : aw_W X mt_Mo_wheel (d + 3) 166 [(0, some (av_r (some 60))), (2, some (av_i s)), (3, some (av_i m1)), (4, some (av_i l1)), (5, some (av_i m2)), (6, some (av_i l2)), (7, some (av_i m3)), (8, some (av_i l3)), (10, some (av_i (wc : Int)))] [] G1 0 0 Q := by
  have w0 : 0 ≤ mm_I G1 70 ((wc : Int)).toNat ∧ mm_I G1 70 ((wc : Int)).toNat ≤ 0 := by rw [Int.toNat_natCast, hwt]; exact ⟨Int.le_refl _, Int.le_refl _⟩
  have b1 : ∀ {m l : Int}, (m = -1 ∨ (0 ≤ m ∧ m < mc ∧ 1 ≤ l ∧ l ≤ mm_I G1 64 m.toNat)) → m = -1 ∨ (0 ≤ l ∧ l ≤ 1000) := by
    intro m l h
    rcases h with h | h
    · exact Or.inl h
    · have := hle m.toNat (by omega)
      exact Or.inr (by omega)
  have g1 := cm_Mo_give X (d + 1) G1 (w := (wc : Int)) (m := m1) (l := l1) hF1 (by omega) (mg_ok hmc hp1 hle (fun k hk => by have := hma k hk; omega)) h2 ⟨w0.1, by omega⟩
  have le1 := mg_le (w := (wc : Int)) (m := m1) (l := l1) ((b1 hp1).imp id And.left) hle
  have ma1 := mg_ma (w := (wc : Int)) (m := m1) (l := l1) hma
  have wt1 := mg_wt (w := (wc : Int)) (m := m1) (l := l1) (b1 hp1) w0
  have p2 := mg_keep (G := G1) (w := (wc : Int)) (m := m1) (l := l1) (Or.inl h12.symm) (Or.inr h0) hp2
  have p3 := mg_keep (G := G1) (w := (wc : Int)) (m := m1) (l := l1) (Or.inl h13.symm) (Or.inr h0) hp3
  have g2 := cm_Mo_give X (d + 1) (mg_v G1 wc m1 l1) (w := (wc : Int)) (m := m2) (l := l2) (mg_F _ _ _ hF1) (by omega) (mg_ok hmc p2 le1 (fun k hk => by have := ma1 k hk; omega)) h4 ⟨wt1.1, by omega⟩
  have le2 := mg_le (w := (wc : Int)) (m := m2) (l := l2) ((b1 hp2).imp id And.left) le1
  have ma2 := mg_ma (w := (wc : Int)) (m := m2) (l := l2) ma1
  have wt2 := mg_wt (w := (wc : Int)) (m := m2) (l := l2) (b1 hp2) wt1
  have p3 := mg_keep (G := mg_v G1 wc m1 l1) (w := (wc : Int)) (m := m2) (l := l2) (by omega) (by rcases hp2 with h | h <;> omega) p3
  have g3 := cm_Mo_give X (d + 1) (mg_v (mg_v G1 wc m1 l1) wc m2 l2) (w := (wc : Int)) (m := m3) (l := l3) (mg_F _ _ _ (mg_F _ _ _ hF1)) (by omega) (mg_ok hmc p3 le2 (fun k hk => by have := ma2 k hk; omega)) h6 ⟨wt2.1, by omega⟩
  have g4 := cm_Mo_lay X (d + 1) (mg_v (mg_v (mg_v G1 wc m1 l1) wc m2 l2) wc m3 l3) (w := (wc : Int)) (s := s) (c := c) (mg_F _ _ _ (mg_F _ _ _ (mg_F _ _ _ hF1))) (by omega) (by omega) (by rw [mg_o _ _ _ _ (by decide) (by decide) (by decide) (by decide), mg_o _ _ _ _ (by decide) (by decide) (by decide) (by decide), mg_o _ _ _ _ (by decide) (by decide) (by decide) (by decide)]; exact hc) hc2
  clear hp1 hp2 hp3 p2 p3 b1 h23
  refine ar_aload_n (pc := 166) d_Mo_wheel_166 rfl ?_
  refine ar_iload (pc := 167) d_Mo_wheel_167 rfl ?_
  refine ar_iload_n (pc := 169) d_Mo_wheel_169 rfl ?_
  refine ar_iload (pc := 170) d_Mo_wheel_170 rfl ?_
  refine ac_virt (pc := 172) (N := mt_Mo_give) _ _ mv_Mo_give ml_Mo_182 ck_12 d_Mo_wheel_172 g1 (by first | rfl | exact sh_wheel (by omega) | exact sh_milk (by omega)) rfl rfl (Nat.le_of_ble_eq_true rfl) (Nat.le_of_eq (Nat.zero_add _)) (Nat.le_of_eq (Nat.zero_add _)) (fun r_172 G_172 h_172 => ?_)
  obtain ⟨rfl, e_172⟩ := h_172
  subst G_172
  refine ar_aload_n (pc := 175) d_Mo_wheel_175 rfl ?_
  refine ar_iload (pc := 176) d_Mo_wheel_176 rfl ?_
  refine ar_iload (pc := 178) d_Mo_wheel_178 rfl ?_
  refine ar_iload (pc := 180) d_Mo_wheel_180 rfl ?_
  refine ac_virt (pc := 182) (N := mt_Mo_give) _ _ mv_Mo_give ml_Mo_182 ck_12 d_Mo_wheel_182 g2 (by first | rfl | exact sh_wheel (by omega) | exact sh_milk (by omega)) rfl rfl (Nat.le_of_ble_eq_true rfl) (Nat.le_of_eq (Nat.zero_add _)) (Nat.le_of_eq (Nat.zero_add _)) (fun r_182 G_182 h_182 => ?_)
  obtain ⟨rfl, e_182⟩ := h_182
  subst G_182
  refine ar_aload_n (pc := 185) d_Mo_wheel_185 rfl ?_
  refine ar_iload (pc := 186) d_Mo_wheel_186 rfl ?_
  refine ar_iload (pc := 188) d_Mo_wheel_188 rfl ?_
  refine ar_iload (pc := 190) d_Mo_wheel_190 rfl ?_
  refine ac_virt (pc := 192) (N := mt_Mo_give) _ _ mv_Mo_give ml_Mo_182 ck_12 d_Mo_wheel_192 g3 (by first | rfl | exact sh_wheel (by omega) | exact sh_milk (by omega)) rfl rfl (Nat.le_of_ble_eq_true rfl) (Nat.le_of_eq (Nat.zero_add _)) (Nat.le_of_eq (Nat.zero_add _)) (fun r_192 G_192 h_192 => ?_)
  obtain ⟨rfl, e_192⟩ := h_192
  subst G_192
  refine ar_aload_n (pc := 195) d_Mo_wheel_195 rfl ?_
  refine ar_iload (pc := 196) d_Mo_wheel_196 rfl ?_
  refine ar_iload_n (pc := 198) d_Mo_wheel_198 rfl ?_
  refine ac_virt (pc := 199) (N := mt_Mo_lay) _ _ mv_Mo_lay ml_Mo_186 ck_12 d_Mo_wheel_199 g4 (by first | rfl | exact sh_wheel (by omega) | exact sh_milk (by omega)) rfl rfl (Nat.le_of_ble_eq_true rfl) (Nat.le_of_eq (Nat.zero_add _)) (Nat.le_of_eq (Nat.zero_add _)) (fun r_199 G_199 h_199 => ?_)
  obtain ⟨rfl, e_199⟩ := h_199
  subst G_199
  refine ar_aload_n (pc := 202) d_Mo_wheel_202 rfl ?_
  refine ar_iconst (pc := 203) d_Mo_wheel_203 ?_
  refine ar_putZ (pc := 204) gf_Mo_158 d_Mo_wheel_204 rfl (by first | rfl | exact sh_wheel (by omega) | exact sh_milk (by omega)) (by omega) ?_
  refine ar_iload (pc := 207) d_Mo_wheel_207 rfl ?_
  refine ar_iret (pc := 209) d_Mo_wheel_209 rfl ?_
  rotate_left
  -- leaves: ret 209
  · exact hq
theorem cm_Mo_wheel (X : gx_T) (d : Nat) (G : mm_T) {kd s m1 l1 m2 l2 m3 l3 : Int} {wc c : Nat} (hF : fx_R G) (h0 : i3_in kd) (hs : i3_in s) (h1 : i3_in m1) (h2 : i3_in l1) (h3 : i3_in m2) (h4 : i3_in l2) (h5 : i3_in m3) (h6 : i3_in l3) (hwc : mm_I G 60 4 = wc) (hwc2 : wc ≤ 40) (hc : mm_I G 60 5 = c) (hc2 : c ≤ 200) (hmc : 0 ≤ mm_I G 60 3 ∧ mm_I G 60 3 ≤ 30) (hle : ∀ k, k < 30 → mm_I G 64 k ≤ 1000) (hma : ∀ k, k < 30 → 0 ≤ mm_I G 65 k ∧ mm_I G 65 k ≤ 397) (hwt : wc < 40 → mm_I G 70 wc = 0) : aw_M X (d + 3) mt_Mo_wheel [av_r (some 60), av_i kd, av_i s, av_i m1, av_i l1, av_i m2, av_i l2, av_i m3, av_i l3] G 0 0 (fun r G' => (wc < 40 ∧ c < 200 ∧ (0 ≤ kd ∧ kd ≤ 2) ∧ (0 ≤ s ∧ s ≤ 23) ∧ ct_n (mm_I G 67) s wc < 4 ∧ 0 ≤ m1 ∧ (m1 = -1 ∨ (0 ≤ m1 ∧ m1 < mm_I G 60 3 ∧ 1 ≤ l1 ∧ l1 ≤ mm_I G 64 m1.toNat)) ∧ (m2 = -1 ∨ (0 ≤ m2 ∧ m2 < mm_I G 60 3 ∧ 1 ≤ l2 ∧ l2 ≤ mm_I G 64 m2.toNat)) ∧ (m3 = -1 ∨ (0 ≤ m3 ∧ m3 < mm_I G 60 3 ∧ 1 ≤ l3 ∧ l3 ≤ mm_I G 64 m3.toNat)) ∧ m1 ≠ m2 ∧ m1 ≠ m3 ∧ (m2 ≠ m3 ∨ m2 = -1)) ∧ r = some (av_i wc) ∧ G' = ms_I (ml_y (mg_v (mg_v (mg_v (ms_I (ms_I (ms_I G 66 wc kd) 71 wc (mm_I G 60 0)) 60 4 (wc + 1)) wc m1 l1) wc m2 l2) wc m3 l3) wc s c) 60 53 0 ∨ ¬ (wc < 40 ∧ c < 200 ∧ (0 ≤ kd ∧ kd ≤ 2) ∧ (0 ≤ s ∧ s ≤ 23) ∧ ct_n (mm_I G 67) s wc < 4 ∧ 0 ≤ m1 ∧ (m1 = -1 ∨ (0 ≤ m1 ∧ m1 < mm_I G 60 3 ∧ 1 ≤ l1 ∧ l1 ≤ mm_I G 64 m1.toNat)) ∧ (m2 = -1 ∨ (0 ≤ m2 ∧ m2 < mm_I G 60 3 ∧ 1 ≤ l2 ∧ l2 ≤ mm_I G 64 m2.toNat)) ∧ (m3 = -1 ∨ (0 ≤ m3 ∧ m3 < mm_I G 60 3 ∧ 1 ≤ l3 ∧ l3 ≤ mm_I G 64 m3.toNat)) ∧ m1 ≠ m2 ∧ m1 ≠ m3 ∧ (m2 ≠ m3 ∨ m2 = -1)) ∧ r = some (av_i (-1)) ∧ G' = G) := by
  have hct := ct_rng (mm_I G 67) s wc
  have q1 := cm_Mo_canGive X (d + 1) G hF h1 h2 hmc
  have q2 := cm_Mo_canGive X (d + 1) G hF h3 h4 hmc
  have q3 := cm_Mo_canGive X (d + 1) G hF h5 h6 hmc
  have tail : ∀ {Q : Option av_T → mm_T → Prop}, wc < 40 → c < 200 → (0 ≤ s ∧ s ≤ 23) → 0 ≤ m1 → (m1 = -1 ∨ (0 ≤ m1 ∧ m1 < mm_I G 60 3 ∧ 1 ≤ l1 ∧ l1 ≤ mm_I G 64 m1.toNat)) → (m2 = -1 ∨ (0 ≤ m2 ∧ m2 < mm_I G 60 3 ∧ 1 ≤ l2 ∧ l2 ≤ mm_I G 64 m2.toNat)) → (m3 = -1 ∨ (0 ≤ m3 ∧ m3 < mm_I G 60 3 ∧ 1 ≤ l3 ∧ l3 ≤ mm_I G 64 m3.toNat)) → m1 ≠ m2 → m1 ≠ m3 → (m2 ≠ m3 ∨ m2 = -1) → Q (some (av_i wc)) (ms_I (ml_y (mg_v (mg_v (mg_v (ms_I (ms_I (ms_I G 66 wc kd) 71 wc (mm_I G 60 0)) 60 4 (wc + 1)) wc m1 l1) wc m2 l2) wc m3 l3) wc s c) 60 53 0) → aw_W X mt_Mo_wheel (d + 3) 166 [(0, some (av_r (some 60))), (2, some (av_i s)), (3, some (av_i m1)), (4, some (av_i l1)), (5, some (av_i m2)), (6, some (av_i l2)), (7, some (av_i m3)), (8, some (av_i l3)), (10, some (av_i (wc : Int)))] [] (ms_I (ms_I (ms_I G 66 wc kd) 71 wc (mm_I G 60 0)) 60 4 (wc + 1)) 0 0 Q := fun a1 a2 a3 a4 a5 a6 a7 a8 a9 a10 a11 => cm_Mo_wheel_t X d _ (by exact hF) a3 h2 h4 h6 a1 a2 hmc.2 a4 (by exact a5) (by exact a6) (by exact a7) a8 a9 a10 (by exact hle) (by exact hma) (by exact hwt a1) (by exact hc) a11
  generalize (m1 = -1 ∨ (0 ≤ m1 ∧ m1 < mm_I G 60 3 ∧ 1 ≤ l1 ∧ l1 ≤ mm_I G 64 m1.toNat)) = P1 at q1 tail ⊢
  generalize (m2 = -1 ∨ (0 ≤ m2 ∧ m2 < mm_I G 60 3 ∧ 1 ≤ l2 ∧ l2 ≤ mm_I G 64 m2.toNat)) = P2 at q2 tail ⊢
  generalize (m3 = -1 ∨ (0 ≤ m3 ∧ m3 < mm_I G 60 3 ∧ 1 ≤ l3 ∧ l3 ≤ mm_I G 64 m3.toNat)) = P3 at q3 tail ⊢
  have r1 := bv_r P1
  have r2 := bv_r P2
  have r3 := bv_r P3
  refine aw_enter pf_Mo_wheel (Nat.le_of_ble_eq_true rfl) ?_
  refine ar_aload_n (pc := 0) d_Mo_wheel_0 rfl ?_
  refine ar_getIv (pc := 1) gf_Mo_165 d_Mo_wheel_1 (by first | rfl | exact sh_wheel (by omega) | exact sh_milk (by omega)) hwc (fun r_1 => ?_)
  refine ar_bipush (pc := 4) d_Mo_wheel_4 (by decide) ?_
  refine ar_icmp_ge (pc := 6) 52 d_Mo_wheel_6 (by decide) ⟨by omega, by omega⟩ ⟨by omega, by omega⟩ (fun h_6 => ?_) (fun h_6 => ?_)
  refine ar_iconst (pc := 52) d_Mo_wheel_52 ?_
  refine ar_istore (pc := 53) d_Mo_wheel_53 rfl (by decide) ?_
  refine ar_iload (pc := 55) d_Mo_wheel_55 rfl ?_
  refine ar_if_eq (pc := 57) 121 d_Mo_wheel_57 (by decide) ⟨by omega, by omega⟩ (fun h_57 => ?_) (fun h_57 => by exfalso; omega)
  refine ar_iconst (pc := 121) d_Mo_wheel_121 ?_
  refine ar_istore (pc := 122) d_Mo_wheel_122 rfl (by decide) ?_
  refine ar_iload (pc := 124) d_Mo_wheel_124 rfl ?_
  refine ar_if_ne (pc := 126) 131 d_Mo_wheel_126 (by decide) ⟨by omega, by omega⟩ (fun h_126 => by exfalso; omega) (fun h_126 => ?_)
  refine ar_iconst (pc := 129) d_Mo_wheel_129 ?_
  refine ar_iret (pc := 130) d_Mo_wheel_130 rfl ?_
  rotate_left
  refine ar_aload_n (pc := 9) d_Mo_wheel_9 rfl ?_
  refine ar_getIv (pc := 10) gf_Mo_168 d_Mo_wheel_10 (by first | rfl | exact sh_wheel (by omega) | exact sh_milk (by omega)) hc (fun r_10 => ?_)
  refine ar_sipush (pc := 13) d_Mo_wheel_13 (by decide) ?_
  refine ar_icmp_ge (pc := 16) 52 d_Mo_wheel_16 (by decide) ⟨by omega, by omega⟩ ⟨by omega, by omega⟩ (fun h_16 => ?_) (fun h_16 => ?_)
  refine ar_iconst (pc := 52) d_Mo_wheel_52 ?_
  refine ar_istore (pc := 53) d_Mo_wheel_53 rfl (by decide) ?_
  refine ar_iload (pc := 55) d_Mo_wheel_55 rfl ?_
  refine ar_if_eq (pc := 57) 121 d_Mo_wheel_57 (by decide) ⟨by omega, by omega⟩ (fun h_57 => ?_) (fun h_57 => by exfalso; omega)
  refine ar_iconst (pc := 121) d_Mo_wheel_121 ?_
  refine ar_istore (pc := 122) d_Mo_wheel_122 rfl (by decide) ?_
  refine ar_iload (pc := 124) d_Mo_wheel_124 rfl ?_
  refine ar_if_ne (pc := 126) 131 d_Mo_wheel_126 (by decide) ⟨by omega, by omega⟩ (fun h_126 => by exfalso; omega) (fun h_126 => ?_)
  refine ar_iconst (pc := 129) d_Mo_wheel_129 ?_
  refine ar_iret (pc := 130) d_Mo_wheel_130 rfl ?_
  rotate_left
  refine ar_iload_n (pc := 19) d_Mo_wheel_19 rfl ?_
  refine ar_if_lt (pc := 20) 52 d_Mo_wheel_20 (by decide) ⟨by omega, by omega⟩ (fun h_20 => ?_) (fun h_20 => ?_)
  refine ar_iconst (pc := 52) d_Mo_wheel_52 ?_
  refine ar_istore (pc := 53) d_Mo_wheel_53 rfl (by decide) ?_
  refine ar_iload (pc := 55) d_Mo_wheel_55 rfl ?_
  refine ar_if_eq (pc := 57) 121 d_Mo_wheel_57 (by decide) ⟨by omega, by omega⟩ (fun h_57 => ?_) (fun h_57 => by exfalso; omega)
  refine ar_iconst (pc := 121) d_Mo_wheel_121 ?_
  refine ar_istore (pc := 122) d_Mo_wheel_122 rfl (by decide) ?_
  refine ar_iload (pc := 124) d_Mo_wheel_124 rfl ?_
  refine ar_if_ne (pc := 126) 131 d_Mo_wheel_126 (by decide) ⟨by omega, by omega⟩ (fun h_126 => by exfalso; omega) (fun h_126 => ?_)
  refine ar_iconst (pc := 129) d_Mo_wheel_129 ?_
  refine ar_iret (pc := 130) d_Mo_wheel_130 rfl ?_
  rotate_left
  refine ar_iload_n (pc := 23) d_Mo_wheel_23 rfl ?_
  refine ar_iconst (pc := 24) d_Mo_wheel_24 ?_
  refine ar_icmp_gt (pc := 25) 52 d_Mo_wheel_25 (by decide) ⟨by omega, by omega⟩ ⟨by omega, by omega⟩ (fun h_25 => ?_) (fun h_25 => ?_)
  refine ar_iconst (pc := 52) d_Mo_wheel_52 ?_
  refine ar_istore (pc := 53) d_Mo_wheel_53 rfl (by decide) ?_
  refine ar_iload (pc := 55) d_Mo_wheel_55 rfl ?_
  refine ar_if_eq (pc := 57) 121 d_Mo_wheel_57 (by decide) ⟨by omega, by omega⟩ (fun h_57 => ?_) (fun h_57 => by exfalso; omega)
  refine ar_iconst (pc := 121) d_Mo_wheel_121 ?_
  refine ar_istore (pc := 122) d_Mo_wheel_122 rfl (by decide) ?_
  refine ar_iload (pc := 124) d_Mo_wheel_124 rfl ?_
  refine ar_if_ne (pc := 126) 131 d_Mo_wheel_126 (by decide) ⟨by omega, by omega⟩ (fun h_126 => by exfalso; omega) (fun h_126 => ?_)
  refine ar_iconst (pc := 129) d_Mo_wheel_129 ?_
  refine ar_iret (pc := 130) d_Mo_wheel_130 rfl ?_
  rotate_left
  refine ar_iload_n (pc := 28) d_Mo_wheel_28 rfl ?_
  refine ac_stat (pc := 29) (N := mt_Mo_isShelf) _ _ sv_Mo_isShelf ml_Mo_154 d_Mo_wheel_29 (cm_Mo_isShelf _ _ _ hs) rfl rfl (Nat.le_of_ble_eq_true rfl) (Nat.le_of_eq (Nat.zero_add _)) (Nat.le_of_eq (Nat.zero_add _)) (fun r_29 G_29 h_29 => ?_)
  obtain ⟨rfl, e_29⟩ := h_29
  subst G_29
  refine ar_if_eq (pc := 32) 52 d_Mo_wheel_32 (by decide) ⟨by omega, by omega⟩ (fun h_32 => ?_) (fun h_32 => ?_)
  refine ar_iconst (pc := 52) d_Mo_wheel_52 ?_
  refine ar_istore (pc := 53) d_Mo_wheel_53 rfl (by decide) ?_
  refine ar_iload (pc := 55) d_Mo_wheel_55 rfl ?_
  refine ar_if_eq (pc := 57) 121 d_Mo_wheel_57 (by decide) ⟨by omega, by omega⟩ (fun h_57 => ?_) (fun h_57 => by exfalso; omega)
  refine ar_iconst (pc := 121) d_Mo_wheel_121 ?_
  refine ar_istore (pc := 122) d_Mo_wheel_122 rfl (by decide) ?_
  refine ar_iload (pc := 124) d_Mo_wheel_124 rfl ?_
  refine ar_if_ne (pc := 126) 131 d_Mo_wheel_126 (by decide) ⟨by omega, by omega⟩ (fun h_126 => by exfalso; omega) (fun h_126 => ?_)
  refine ar_iconst (pc := 129) d_Mo_wheel_129 ?_
  refine ar_iret (pc := 130) d_Mo_wheel_130 rfl ?_
  rotate_left
  refine ar_aload_n (pc := 35) d_Mo_wheel_35 rfl ?_
  refine ar_iload_n (pc := 36) d_Mo_wheel_36 rfl ?_
  refine ac_virt (pc := 37) (N := mt_Mo_lying) _ _ mv_Mo_lying ml_Mo_174 ck_12 d_Mo_wheel_37 (cm_Mo_lying _ _ _ hF hs hwc hwc2) (by first | rfl | exact sh_wheel (by omega) | exact sh_milk (by omega)) rfl rfl (Nat.le_of_ble_eq_true rfl) (Nat.le_of_eq (Nat.zero_add _)) (Nat.le_of_eq (Nat.zero_add _)) (fun r_37 G_37 h_37 => ?_)
  obtain ⟨rfl, e_37⟩ := h_37
  subst G_37
  refine ar_iconst (pc := 40) d_Mo_wheel_40 ?_
  refine ar_icmp_ge (pc := 41) 52 d_Mo_wheel_41 (by decide) ⟨by omega, by omega⟩ ⟨by omega, by omega⟩ (fun h_41 => ?_) (fun h_41 => ?_)
  refine ar_iconst (pc := 52) d_Mo_wheel_52 ?_
  refine ar_istore (pc := 53) d_Mo_wheel_53 rfl (by decide) ?_
  refine ar_iload (pc := 55) d_Mo_wheel_55 rfl ?_
  refine ar_if_eq (pc := 57) 121 d_Mo_wheel_57 (by decide) ⟨by omega, by omega⟩ (fun h_57 => ?_) (fun h_57 => by exfalso; omega)
  refine ar_iconst (pc := 121) d_Mo_wheel_121 ?_
  refine ar_istore (pc := 122) d_Mo_wheel_122 rfl (by decide) ?_
  refine ar_iload (pc := 124) d_Mo_wheel_124 rfl ?_
  refine ar_if_ne (pc := 126) 131 d_Mo_wheel_126 (by decide) ⟨by omega, by omega⟩ (fun h_126 => by exfalso; omega) (fun h_126 => ?_)
  refine ar_iconst (pc := 129) d_Mo_wheel_129 ?_
  refine ar_iret (pc := 130) d_Mo_wheel_130 rfl ?_
  rotate_left
  refine ar_iload_n (pc := 44) d_Mo_wheel_44 rfl ?_
  refine ar_if_lt (pc := 45) 52 d_Mo_wheel_45 (by decide) ⟨by omega, by omega⟩ (fun h_45 => ?_) (fun h_45 => ?_)
  refine ar_iconst (pc := 52) d_Mo_wheel_52 ?_
  refine ar_istore (pc := 53) d_Mo_wheel_53 rfl (by decide) ?_
  refine ar_iload (pc := 55) d_Mo_wheel_55 rfl ?_
  refine ar_if_eq (pc := 57) 121 d_Mo_wheel_57 (by decide) ⟨by omega, by omega⟩ (fun h_57 => ?_) (fun h_57 => by exfalso; omega)
  refine ar_iconst (pc := 121) d_Mo_wheel_121 ?_
  refine ar_istore (pc := 122) d_Mo_wheel_122 rfl (by decide) ?_
  refine ar_iload (pc := 124) d_Mo_wheel_124 rfl ?_
  refine ar_if_ne (pc := 126) 131 d_Mo_wheel_126 (by decide) ⟨by omega, by omega⟩ (fun h_126 => by exfalso; omega) (fun h_126 => ?_)
  refine ar_iconst (pc := 129) d_Mo_wheel_129 ?_
  refine ar_iret (pc := 130) d_Mo_wheel_130 rfl ?_
  rotate_left
  refine ar_iconst (pc := 48) d_Mo_wheel_48 ?_
  refine ar_goto (pc := 49) 53 d_Mo_wheel_49 (by decide) ?_
  refine ar_istore (pc := 53) d_Mo_wheel_53 rfl (by decide) ?_
  refine ar_iload (pc := 55) d_Mo_wheel_55 rfl ?_
  refine ar_if_eq (pc := 57) 121 d_Mo_wheel_57 (by decide) ⟨by omega, by omega⟩ (fun h_57 => by exfalso; omega) (fun h_57 => ?_)
  refine ar_aload_n (pc := 60) d_Mo_wheel_60 rfl ?_
  refine ar_iload_n (pc := 61) d_Mo_wheel_61 rfl ?_
  refine ar_iload (pc := 62) d_Mo_wheel_62 rfl ?_
  refine ac_virt (pc := 64) (N := mt_Mo_canGive) _ _ mv_Mo_canGive ml_Mo_178 ck_12 d_Mo_wheel_64 q1 (by first | rfl | exact sh_wheel (by omega) | exact sh_milk (by omega)) rfl rfl (Nat.le_of_ble_eq_true rfl) (Nat.le_of_eq (Nat.zero_add _)) (Nat.le_of_eq (Nat.zero_add _)) (fun r_64 G_64 h_64 => ?_)
  obtain ⟨rfl, e_64⟩ := h_64
  subst G_64
  refine ar_if_eq (pc := 67) 121 d_Mo_wheel_67 (by decide) ⟨by omega, by omega⟩ (fun h_67 => ?_) (fun h_67 => ?_)
  refine ar_iconst (pc := 121) d_Mo_wheel_121 ?_
  refine ar_istore (pc := 122) d_Mo_wheel_122 rfl (by decide) ?_
  refine ar_iload (pc := 124) d_Mo_wheel_124 rfl ?_
  refine ar_if_ne (pc := 126) 131 d_Mo_wheel_126 (by decide) ⟨by omega, by omega⟩ (fun h_126 => by exfalso; omega) (fun h_126 => ?_)
  refine ar_iconst (pc := 129) d_Mo_wheel_129 ?_
  refine ar_iret (pc := 130) d_Mo_wheel_130 rfl ?_
  rotate_left
  refine ar_aload_n (pc := 70) d_Mo_wheel_70 rfl ?_
  refine ar_iload (pc := 71) d_Mo_wheel_71 rfl ?_
  refine ar_iload (pc := 73) d_Mo_wheel_73 rfl ?_
  refine ac_virt (pc := 75) (N := mt_Mo_canGive) _ _ mv_Mo_canGive ml_Mo_178 ck_12 d_Mo_wheel_75 q2 (by first | rfl | exact sh_wheel (by omega) | exact sh_milk (by omega)) rfl rfl (Nat.le_of_ble_eq_true rfl) (Nat.le_of_eq (Nat.zero_add _)) (Nat.le_of_eq (Nat.zero_add _)) (fun r_75 G_75 h_75 => ?_)
  obtain ⟨rfl, e_75⟩ := h_75
  subst G_75
  refine ar_if_eq (pc := 78) 121 d_Mo_wheel_78 (by decide) ⟨by omega, by omega⟩ (fun h_78 => ?_) (fun h_78 => ?_)
  refine ar_iconst (pc := 121) d_Mo_wheel_121 ?_
  refine ar_istore (pc := 122) d_Mo_wheel_122 rfl (by decide) ?_
  refine ar_iload (pc := 124) d_Mo_wheel_124 rfl ?_
  refine ar_if_ne (pc := 126) 131 d_Mo_wheel_126 (by decide) ⟨by omega, by omega⟩ (fun h_126 => by exfalso; omega) (fun h_126 => ?_)
  refine ar_iconst (pc := 129) d_Mo_wheel_129 ?_
  refine ar_iret (pc := 130) d_Mo_wheel_130 rfl ?_
  rotate_left
  refine ar_aload_n (pc := 81) d_Mo_wheel_81 rfl ?_
  refine ar_iload (pc := 82) d_Mo_wheel_82 rfl ?_
  refine ar_iload (pc := 84) d_Mo_wheel_84 rfl ?_
  refine ac_virt (pc := 86) (N := mt_Mo_canGive) _ _ mv_Mo_canGive ml_Mo_178 ck_12 d_Mo_wheel_86 q3 (by first | rfl | exact sh_wheel (by omega) | exact sh_milk (by omega)) rfl rfl (Nat.le_of_ble_eq_true rfl) (Nat.le_of_eq (Nat.zero_add _)) (Nat.le_of_eq (Nat.zero_add _)) (fun r_86 G_86 h_86 => ?_)
  obtain ⟨rfl, e_86⟩ := h_86
  subst G_86
  refine ar_if_eq (pc := 89) 121 d_Mo_wheel_89 (by decide) ⟨by omega, by omega⟩ (fun h_89 => ?_) (fun h_89 => ?_)
  refine ar_iconst (pc := 121) d_Mo_wheel_121 ?_
  refine ar_istore (pc := 122) d_Mo_wheel_122 rfl (by decide) ?_
  refine ar_iload (pc := 124) d_Mo_wheel_124 rfl ?_
  refine ar_if_ne (pc := 126) 131 d_Mo_wheel_126 (by decide) ⟨by omega, by omega⟩ (fun h_126 => by exfalso; omega) (fun h_126 => ?_)
  refine ar_iconst (pc := 129) d_Mo_wheel_129 ?_
  refine ar_iret (pc := 130) d_Mo_wheel_130 rfl ?_
  rotate_left
  refine ar_iload_n (pc := 92) d_Mo_wheel_92 rfl ?_
  refine ar_iload (pc := 93) d_Mo_wheel_93 rfl ?_
  refine ar_icmp_eq (pc := 95) 121 d_Mo_wheel_95 (by decide) ⟨by omega, by omega⟩ ⟨by omega, by omega⟩ (fun h_95 => ?_) (fun h_95 => ?_)
  refine ar_iconst (pc := 121) d_Mo_wheel_121 ?_
  refine ar_istore (pc := 122) d_Mo_wheel_122 rfl (by decide) ?_
  refine ar_iload (pc := 124) d_Mo_wheel_124 rfl ?_
  refine ar_if_ne (pc := 126) 131 d_Mo_wheel_126 (by decide) ⟨by omega, by omega⟩ (fun h_126 => by exfalso; omega) (fun h_126 => ?_)
  refine ar_iconst (pc := 129) d_Mo_wheel_129 ?_
  refine ar_iret (pc := 130) d_Mo_wheel_130 rfl ?_
  rotate_left
  refine ar_iload_n (pc := 98) d_Mo_wheel_98 rfl ?_
  refine ar_iload (pc := 99) d_Mo_wheel_99 rfl ?_
  refine ar_icmp_eq (pc := 101) 121 d_Mo_wheel_101 (by decide) ⟨by omega, by omega⟩ ⟨by omega, by omega⟩ (fun h_101 => ?_) (fun h_101 => ?_)
  refine ar_iconst (pc := 121) d_Mo_wheel_121 ?_
  refine ar_istore (pc := 122) d_Mo_wheel_122 rfl (by decide) ?_
  refine ar_iload (pc := 124) d_Mo_wheel_124 rfl ?_
  refine ar_if_ne (pc := 126) 131 d_Mo_wheel_126 (by decide) ⟨by omega, by omega⟩ (fun h_126 => by exfalso; omega) (fun h_126 => ?_)
  refine ar_iconst (pc := 129) d_Mo_wheel_129 ?_
  refine ar_iret (pc := 130) d_Mo_wheel_130 rfl ?_
  rotate_left
  refine ar_iload (pc := 104) d_Mo_wheel_104 rfl ?_
  refine ar_iload (pc := 106) d_Mo_wheel_106 rfl ?_
  refine ar_icmp_ne (pc := 108) 117 d_Mo_wheel_108 (by decide) ⟨by omega, by omega⟩ ⟨by omega, by omega⟩ (fun h_108 => ?_) (fun h_108 => ?_)
  refine ar_iconst (pc := 117) d_Mo_wheel_117 ?_
  refine ar_goto (pc := 118) 122 d_Mo_wheel_118 (by decide) ?_
  refine ar_istore (pc := 122) d_Mo_wheel_122 rfl (by decide) ?_
  refine ar_iload (pc := 124) d_Mo_wheel_124 rfl ?_
  refine ar_if_ne (pc := 126) 131 d_Mo_wheel_126 (by decide) ⟨by omega, by omega⟩ (fun h_126 => ?_) (fun h_126 => by exfalso; omega)
  refine ar_aload_n (pc := 131) d_Mo_wheel_131 rfl ?_
  refine ar_getIv (pc := 132) gf_Mo_165 d_Mo_wheel_132 (by first | rfl | exact sh_wheel (by omega) | exact sh_milk (by omega)) hwc (fun r_132 => ?_)
  refine ar_istore (pc := 135) d_Mo_wheel_135 rfl (by decide) ?_
  refine ar_aload_n (pc := 137) d_Mo_wheel_137 rfl ?_
  refine ar_getR (pc := 138) gf_Mo_25 d_Mo_wheel_138 (by first | rfl | exact sh_wheel (by omega) | exact sh_milk (by omega)) (hF _ _ _ rfl) ?_
  refine ar_iload (pc := 141) d_Mo_wheel_141 rfl ?_
  refine ar_iload_n (pc := 143) d_Mo_wheel_143 rfl ?_
  refine ar_iast (pc := 144) d_Mo_wheel_144 rfl (wc) (by omega) (by omega) ⟨by omega, by omega⟩ ?_
  refine ar_aload_n (pc := 145) d_Mo_wheel_145 rfl ?_
  refine ar_getR (pc := 146) gf_Mo_40 d_Mo_wheel_146 (by first | rfl | exact sh_wheel (by omega) | exact sh_milk (by omega)) (hF _ _ _ rfl) ?_
  refine ar_iload (pc := 149) d_Mo_wheel_149 rfl ?_
  refine ar_aload_n (pc := 151) d_Mo_wheel_151 rfl ?_
  refine ar_getIv (pc := 152) gf_Mo_171 d_Mo_wheel_152 (by first | rfl | exact sh_wheel (by omega) | exact sh_milk (by omega)) (show _ = mm_I G 60 0 from rfl) (fun r_152 => ?_)
  refine ar_iast (pc := 155) d_Mo_wheel_155 rfl (wc) (by omega) (by omega) r_152 ?_
  refine ar_aload_n (pc := 156) d_Mo_wheel_156 rfl ?_
  refine ar_dup (pc := 157) d_Mo_wheel_157 rfl ?_
  refine ar_getIv (pc := 158) gf_Mo_165 d_Mo_wheel_158 (by first | rfl | exact sh_wheel (by omega) | exact sh_milk (by omega)) (show _ = (wc : Int) from hwc) (fun r_158 => ?_)
  refine ar_iconst (pc := 161) d_Mo_wheel_161 ?_
  refine ar_iadd (pc := 162) d_Mo_wheel_162 ?_
  refine ar_putI (pc := 163) gf_Mo_165 d_Mo_wheel_163 rfl (by first | rfl | exact sh_wheel (by omega) | exact sh_milk (by omega)) ⟨by omega, by omega⟩ ?_
  rotate_left
  refine ar_iload (pc := 111) d_Mo_wheel_111 rfl ?_
  refine ar_iconst (pc := 113) d_Mo_wheel_113 ?_
  refine ar_icmp_ne (pc := 114) 121 d_Mo_wheel_114 (by decide) ⟨by omega, by omega⟩ ⟨by omega, by omega⟩ (fun h_114 => ?_) (fun h_114 => ?_)
  refine ar_iconst (pc := 121) d_Mo_wheel_121 ?_
  refine ar_istore (pc := 122) d_Mo_wheel_122 rfl (by decide) ?_
  refine ar_iload (pc := 124) d_Mo_wheel_124 rfl ?_
  refine ar_if_ne (pc := 126) 131 d_Mo_wheel_126 (by decide) ⟨by omega, by omega⟩ (fun h_126 => by exfalso; omega) (fun h_126 => ?_)
  refine ar_iconst (pc := 129) d_Mo_wheel_129 ?_
  refine ar_iret (pc := 130) d_Mo_wheel_130 rfl ?_
  rotate_left
  refine ar_iconst (pc := 117) d_Mo_wheel_117 ?_
  refine ar_goto (pc := 118) 122 d_Mo_wheel_118 (by decide) ?_
  refine ar_istore (pc := 122) d_Mo_wheel_122 rfl (by decide) ?_
  refine ar_iload (pc := 124) d_Mo_wheel_124 rfl ?_
  refine ar_if_ne (pc := 126) 131 d_Mo_wheel_126 (by decide) ⟨by omega, by omega⟩ (fun h_126 => ?_) (fun h_126 => by exfalso; omega)
  refine ar_aload_n (pc := 131) d_Mo_wheel_131 rfl ?_
  refine ar_getIv (pc := 132) gf_Mo_165 d_Mo_wheel_132 (by first | rfl | exact sh_wheel (by omega) | exact sh_milk (by omega)) hwc (fun r_132 => ?_)
  refine ar_istore (pc := 135) d_Mo_wheel_135 rfl (by decide) ?_
  refine ar_aload_n (pc := 137) d_Mo_wheel_137 rfl ?_
  refine ar_getR (pc := 138) gf_Mo_25 d_Mo_wheel_138 (by first | rfl | exact sh_wheel (by omega) | exact sh_milk (by omega)) (hF _ _ _ rfl) ?_
  refine ar_iload (pc := 141) d_Mo_wheel_141 rfl ?_
  refine ar_iload_n (pc := 143) d_Mo_wheel_143 rfl ?_
  refine ar_iast (pc := 144) d_Mo_wheel_144 rfl (wc) (by omega) (by omega) ⟨by omega, by omega⟩ ?_
  refine ar_aload_n (pc := 145) d_Mo_wheel_145 rfl ?_
  refine ar_getR (pc := 146) gf_Mo_40 d_Mo_wheel_146 (by first | rfl | exact sh_wheel (by omega) | exact sh_milk (by omega)) (hF _ _ _ rfl) ?_
  refine ar_iload (pc := 149) d_Mo_wheel_149 rfl ?_
  refine ar_aload_n (pc := 151) d_Mo_wheel_151 rfl ?_
  refine ar_getIv (pc := 152) gf_Mo_171 d_Mo_wheel_152 (by first | rfl | exact sh_wheel (by omega) | exact sh_milk (by omega)) (show _ = mm_I G 60 0 from rfl) (fun r_152 => ?_)
  refine ar_iast (pc := 155) d_Mo_wheel_155 rfl (wc) (by omega) (by omega) r_152 ?_
  refine ar_aload_n (pc := 156) d_Mo_wheel_156 rfl ?_
  refine ar_dup (pc := 157) d_Mo_wheel_157 rfl ?_
  refine ar_getIv (pc := 158) gf_Mo_165 d_Mo_wheel_158 (by first | rfl | exact sh_wheel (by omega) | exact sh_milk (by omega)) (show _ = (wc : Int) from hwc) (fun r_158 => ?_)
  refine ar_iconst (pc := 161) d_Mo_wheel_161 ?_
  refine ar_iadd (pc := 162) d_Mo_wheel_162 ?_
  refine ar_putI (pc := 163) gf_Mo_165 d_Mo_wheel_163 rfl (by first | rfl | exact sh_wheel (by omega) | exact sh_milk (by omega)) ⟨by omega, by omega⟩ ?_
  rotate_left
  -- leaves: ret 130, ret 130, ret 130, ret 130, ret 130, ret 130, ret 130, ret 130, ret 130, ret 130, ret 130, ret 130, stop 166, ret 130, stop 166
  all_goals first | (refine Or.inr ⟨fun hC => ?_, rfl, rfl⟩; obtain ⟨c1, c2, c3, c4, c5, c6, c7, c8, c9, c10, c11, c12⟩ := hC; first | omega | (rw [bv_t c7] at *; omega) | (rw [bv_t c8] at *; omega) | (rw [bv_t c9] at *; omega)) | skip
  all_goals (refine ar_loc (tail (by omega) (by omega) (by omega) (by omega) (bv_n h_67) (bv_n h_78) (bv_n h_89) (by omega) (by omega) (by omega) ?_) ⟨rfl, rfl, rfl, rfl, rfl, rfl, rfl, rfl, rfl, trivial⟩)
  all_goals exact Or.inl ⟨⟨by omega, by omega, by omega, by omega, by omega, by omega, bv_n h_67, bv_n h_78, bv_n h_89, by omega, by omega, by omega⟩, rfl, rfl⟩
