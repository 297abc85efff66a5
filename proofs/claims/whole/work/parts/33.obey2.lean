theorem cm_Or_obeyFor_a (X : gx_T) (d : Nat) (G : mm_T) {w L : Nat} {ai da td : Int} {f : Nat → Int} {le : Nat → Nat} {dd : Nat → Int} (hF : fx_R G) (hw : w < 40) (hai : i3_in ai) (hda : i3_in da) (ht : 0 ≤ td ∧ td ≤ 100000) (hm : 0 ≤ mm_I G (300 + w) 2 ∧ mm_I G (300 + w) 2 ≤ 100000) (hW : pg_W f le dd L) (hP : xp_R_a G f le dd L) (hL : mm_I G 42 6 = L) (hsr : sr_I (mm_I G (300 + w) 7, mm_I G (300 + w) 8, mm_I G (300 + w) 9)) : aw_M X (d + 4) mt_Or_obeyFor [av_r (some 42), av_r (some (300 + w)), av_i ai, av_i da, av_i td] G 0 0 (fun r G' => r = none ∧ xo_F_a G G' w (dy_v (nv_v (mm_I G (300 + w) 1) (td - mm_I G (300 + w) 2) (mm_I G (300 + w) 6) ai da (mm_I G (300 + w) 4) td) (mm_I G (300 + w) 1) f le dd (mm_I G (300 + w) 7, mm_I G (300 + w) 8, mm_I G (300 + w) 9) L) ai da td) := by
  have h0 : le 0 = 0 := hW.2.1
  have h := lp_Or_obeyFor_a X d (ai := ai) (da := da) (td := td) hF hw ht hm hW hP hL rfl hsr L 0 (ms_I (ms_I (ms_I G 46 13 ai) 46 14 da) 46 17 td) (by omega) ⟨⟨rfl, rfl, rfl⟩, fun b i b1 b2 b3 b4 => by rw [mi_n (by omega), mi_n (by omega), mi_n (by omega)], ⟨by rw [mi_n (by omega), mi_n (by omega), mi_n (by omega)]; rfl, by rw [mi_n (by omega), mi_n (by omega), mi_n (by omega)]; rfl, by rw [mi_n (by omega), mi_n (by omega), mi_n (by omega)]; rfl⟩, rfl, rfl, rfl⟩
  rw [h0] at h
  refine aw_enter pf_Or_obeyFor (Nat.le_of_ble_eq_true rfl) ?_
  refine ar_aload_n (pc := 0) d_Or_obeyFor_0 rfl ?_
  refine ar_getR (pc := 1) gf_Or_21 d_Or_obeyFor_1 (by first | rfl | exact sh_wheel (by omega) | exact sh_milk (by omega)) (hF _ _ _ rfl) ?_
  refine ar_bipush (pc := 4) d_Or_obeyFor_4 (by decide) ?_
  refine ar_iload_n (pc := 6) d_Or_obeyFor_6 rfl ?_
  refine ar_iast (pc := 7) d_Or_obeyFor_7 rfl (13) (by omega) (by omega) ⟨by omega, by omega⟩ ?_
  refine ar_aload_n (pc := 8) d_Or_obeyFor_8 rfl ?_
  refine ar_getR (pc := 9) gf_Or_21 d_Or_obeyFor_9 (by first | rfl | exact sh_wheel (by omega) | exact sh_milk (by omega)) (hF _ _ _ rfl) ?_
  refine ar_bipush (pc := 12) d_Or_obeyFor_12 (by decide) ?_
  refine ar_iload_n (pc := 14) d_Or_obeyFor_14 rfl ?_
  refine ar_iast (pc := 15) d_Or_obeyFor_15 rfl (14) (by omega) (by omega) ⟨by omega, by omega⟩ ?_
  refine ar_aload_n (pc := 16) d_Or_obeyFor_16 rfl ?_
  refine ar_getR (pc := 17) gf_Or_21 d_Or_obeyFor_17 (by first | rfl | exact sh_wheel (by omega) | exact sh_milk (by omega)) (hF _ _ _ rfl) ?_
  refine ar_bipush (pc := 20) d_Or_obeyFor_20 (by decide) ?_
  refine ar_iload (pc := 22) d_Or_obeyFor_22 rfl ?_
  refine ar_iast (pc := 24) d_Or_obeyFor_24 rfl (17) (by omega) (by omega) ⟨by omega, by omega⟩ ?_
  refine ar_iconst (pc := 25) d_Or_obeyFor_25 ?_
  refine ar_istore (pc := 26) d_Or_obeyFor_26 rfl (by decide) ?_
  refine ar_iconst (pc := 28) d_Or_obeyFor_28 ?_
  refine ar_istore (pc := 29) d_Or_obeyFor_29 rfl (by decide) ?_
  rotate_left
  -- leaves: stop 31
  · exact ar_loc h ⟨rfl, rfl, rfl, rfl, rfl, trivial⟩
/-- what stays in the class while a wheel is cared for -/
def xq_F_a (G G1 : mm_T) (w : Nat) (ri : Int) (s : Int × Int × Int) : Prop := (mm_R G1 = mm_R G ∧ mm_J G1 = mm_J G ∧ mm_A G1 = mm_A G) ∧ (∀ b i, b ≠ 46 → b ≠ 47 → ¬ (b = 42 ∧ i = 7) → ¬ (b = 300 + w ∧ (i = 6 ∨ i = 7 ∨ i = 8 ∨ i = 9)) → mm_I G1 b i = mm_I G b i) ∧ mm_I G1 (300 + w) 6 = ri ∧ mm_I G1 (300 + w) 7 = s.1 ∧ mm_I G1 (300 + w) 8 = s.2.1 ∧ mm_I G1 (300 + w) 9 = s.2.2
theorem xq_of_a {G G1 : mm_T} {w : Nat} {s : Int × Int × Int} {ai da td : Int} (h : xo_F_a G G1 w s ai da td) (a b c e : Int) : xq_F_a G (ms_I (ms_I (ms_I (ms_I G1 (300 + w) 6 a) (300 + w) 7 b) (300 + w) 8 c) (300 + w) 9 e) w a (b, c, e) := by
  obtain ⟨h1, h2, h3, h6⟩ := h
  refine ⟨h1, fun x i b1 b2 b3 b4 => ?_, ?_, ?_, ?_, mi_s _ _ _ _⟩
  · rw [mi_n (by omega), mi_n (by omega), mi_n (by omega), mi_n (by omega)]
    exact h2 x i b1 b2 b3 (by omega)
  · rw [mi_n (by omega), mi_n (by omega), mi_n (by omega), mi_s]
  · rw [mi_n (by omega), mi_n (by omega), mi_s]
  · rw [mi_n (by omega), mi_s]
theorem xr_rip_a (X : gx_T) (d : Nat) {G G1 : mm_T} {w : Nat} {s : Int × Int × Int} {ai da td : Int} (hw : w < 40) (h : xo_F_a G G1 w s ai da td) (hs : sr_I s) (ha : 0 ≤ ai ∧ ai ≤ 9) (hp : 0 ≤ da ∧ da ≤ 99) (hr : 0 ≤ mm_I G (300 + w) 6 ∧ mm_I G (300 + w) 6 ≤ 1000000) : aw_M X (d + 3) mt_Wh_ripen [av_r (some (300 + w)), av_i ai, av_i da] G1 0 0 (fun r G' => r = none ∧ xq_F_a G G' w (wn_v (mm_I G (300 + w) 6 + rp_v (mm_I G (300 + w) 1) ai da)) (wn_v (s.1 + da / 20 + s.2.2 / 3), wn_v (s.2.1 - ai), s.2.2 + 1)) := by
  have hq := xq_of_a h
  obtain ⟨h1, h2, ⟨h3, h4, h5⟩, h6⟩ := h
  have f1 := h2 (300 + w) 1 (by omega) (by omega) (by omega) (by omega)
  have f6 := h2 (300 + w) 6 (by omega) (by omega) (by omega) (by omega)
  have c := cm_Wh_ripen X d G1 hw ha hp (by rw [f6]; exact hr) (by rw [h3]; exact hs.1) (by rw [h4]; exact hs.2.1) (by rw [h5]; exact hs.2.2)
  rw [f1, f6, h3, h4, h5] at c
  refine am_mono (fun r G' hr => ⟨hr.1, ?_⟩) c
  rw [hr.2]
  exact hq _ _ _ _
theorem cm_Or_obeyFor_b (X : gx_T) (d : Nat) (G : mm_T) {w L : Nat} {ai da td : Int} {f : Nat → Int} {le : Nat → Nat} {dd : Nat → Int} (hF : fx_R G) (hw : w < 40) (hai : i3_in ai) (hda : i3_in da) (ht : 0 ≤ td ∧ td ≤ 100000) (hm : 0 ≤ mm_I G (300 + w) 2 ∧ mm_I G (300 + w) 2 ≤ 100000) (hW : pg_W f le dd L) (hP : xp_R_b G f le dd L) (hL : mm_I G 48 6 = L) (hsr : sr_I (mm_I G (300 + w) 7, mm_I G (300 + w) 8, mm_I G (300 + w) 9)) : aw_M X (d + 4) mt_Or_obeyFor [av_r (some 48), av_r (some (300 + w)), av_i ai, av_i da, av_i td] G 0 0 (fun r G' => r = none ∧ xo_F_b G G' w (dy_v (nv_v (mm_I G (300 + w) 1) (td - mm_I G (300 + w) 2) (mm_I G (300 + w) 6) ai da (mm_I G (300 + w) 4) td) (mm_I G (300 + w) 1) f le dd (mm_I G (300 + w) 7, mm_I G (300 + w) 8, mm_I G (300 + w) 9) L) ai da td) := by
  have h0 : le 0 = 0 := hW.2.1
  have h := lp_Or_obeyFor_b X d (ai := ai) (da := da) (td := td) hF hw ht hm hW hP hL rfl hsr L 0 (ms_I (ms_I (ms_I G 52 13 ai) 52 14 da) 52 17 td) (by omega) ⟨⟨rfl, rfl, rfl⟩, fun b i b1 b2 b3 b4 => by rw [mi_n (by omega), mi_n (by omega), mi_n (by omega)], ⟨by rw [mi_n (by omega), mi_n (by omega), mi_n (by omega)]; rfl, by rw [mi_n (by omega), mi_n (by omega), mi_n (by omega)]; rfl, by rw [mi_n (by omega), mi_n (by omega), mi_n (by omega)]; rfl⟩, rfl, rfl, rfl⟩
  rw [h0] at h
  refine aw_enter pf_Or_obeyFor (Nat.le_of_ble_eq_true rfl) ?_
  refine ar_aload_n (pc := 0) d_Or_obeyFor_0 rfl ?_
  refine ar_getR (pc := 1) gf_Or_21 d_Or_obeyFor_1 (by first | rfl | exact sh_wheel (by omega) | exact sh_milk (by omega)) (hF _ _ _ rfl) ?_
  refine ar_bipush (pc := 4) d_Or_obeyFor_4 (by decide) ?_
  refine ar_iload_n (pc := 6) d_Or_obeyFor_6 rfl ?_
  refine ar_iast (pc := 7) d_Or_obeyFor_7 rfl (13) (by omega) (by omega) ⟨by omega, by omega⟩ ?_
  refine ar_aload_n (pc := 8) d_Or_obeyFor_8 rfl ?_
  refine ar_getR (pc := 9) gf_Or_21 d_Or_obeyFor_9 (by first | rfl | exact sh_wheel (by omega) | exact sh_milk (by omega)) (hF _ _ _ rfl) ?_
  refine ar_bipush (pc := 12) d_Or_obeyFor_12 (by decide) ?_
  refine ar_iload_n (pc := 14) d_Or_obeyFor_14 rfl ?_
  refine ar_iast (pc := 15) d_Or_obeyFor_15 rfl (14) (by omega) (by omega) ⟨by omega, by omega⟩ ?_
  refine ar_aload_n (pc := 16) d_Or_obeyFor_16 rfl ?_
  refine ar_getR (pc := 17) gf_Or_21 d_Or_obeyFor_17 (by first | rfl | exact sh_wheel (by omega) | exact sh_milk (by omega)) (hF _ _ _ rfl) ?_
  refine ar_bipush (pc := 20) d_Or_obeyFor_20 (by decide) ?_
  refine ar_iload (pc := 22) d_Or_obeyFor_22 rfl ?_
  refine ar_iast (pc := 24) d_Or_obeyFor_24 rfl (17) (by omega) (by omega) ⟨by omega, by omega⟩ ?_
  refine ar_iconst (pc := 25) d_Or_obeyFor_25 ?_
  refine ar_istore (pc := 26) d_Or_obeyFor_26 rfl (by decide) ?_
  refine ar_iconst (pc := 28) d_Or_obeyFor_28 ?_
  refine ar_istore (pc := 29) d_Or_obeyFor_29 rfl (by decide) ?_
  rotate_left
  -- leaves: stop 31
  · exact ar_loc h ⟨rfl, rfl, rfl, rfl, rfl, trivial⟩
/-- what stays in the class while a wheel is cared for -/
def xq_F_b (G G1 : mm_T) (w : Nat) (ri : Int) (s : Int × Int × Int) : Prop := (mm_R G1 = mm_R G ∧ mm_J G1 = mm_J G ∧ mm_A G1 = mm_A G) ∧ (∀ b i, b ≠ 52 → b ≠ 53 → ¬ (b = 48 ∧ i = 7) → ¬ (b = 300 + w ∧ (i = 6 ∨ i = 7 ∨ i = 8 ∨ i = 9)) → mm_I G1 b i = mm_I G b i) ∧ mm_I G1 (300 + w) 6 = ri ∧ mm_I G1 (300 + w) 7 = s.1 ∧ mm_I G1 (300 + w) 8 = s.2.1 ∧ mm_I G1 (300 + w) 9 = s.2.2
theorem xq_of_b {G G1 : mm_T} {w : Nat} {s : Int × Int × Int} {ai da td : Int} (h : xo_F_b G G1 w s ai da td) (a b c e : Int) : xq_F_b G (ms_I (ms_I (ms_I (ms_I G1 (300 + w) 6 a) (300 + w) 7 b) (300 + w) 8 c) (300 + w) 9 e) w a (b, c, e) := by
  obtain ⟨h1, h2, h3, h6⟩ := h
  refine ⟨h1, fun x i b1 b2 b3 b4 => ?_, ?_, ?_, ?_, mi_s _ _ _ _⟩
  · rw [mi_n (by omega), mi_n (by omega), mi_n (by omega), mi_n (by omega)]
    exact h2 x i b1 b2 b3 (by omega)
  · rw [mi_n (by omega), mi_n (by omega), mi_n (by omega), mi_s]
  · rw [mi_n (by omega), mi_n (by omega), mi_s]
  · rw [mi_n (by omega), mi_s]
theorem xr_rip_b (X : gx_T) (d : Nat) {G G1 : mm_T} {w : Nat} {s : Int × Int × Int} {ai da td : Int} (hw : w < 40) (h : xo_F_b G G1 w s ai da td) (hs : sr_I s) (ha : 0 ≤ ai ∧ ai ≤ 9) (hp : 0 ≤ da ∧ da ≤ 99) (hr : 0 ≤ mm_I G (300 + w) 6 ∧ mm_I G (300 + w) 6 ≤ 1000000) : aw_M X (d + 3) mt_Wh_ripen [av_r (some (300 + w)), av_i ai, av_i da] G1 0 0 (fun r G' => r = none ∧ xq_F_b G G' w (wn_v (mm_I G (300 + w) 6 + rp_v (mm_I G (300 + w) 1) ai da)) (wn_v (s.1 + da / 20 + s.2.2 / 3), wn_v (s.2.1 - ai), s.2.2 + 1)) := by
  have hq := xq_of_b h
  obtain ⟨h1, h2, ⟨h3, h4, h5⟩, h6⟩ := h
  have f1 := h2 (300 + w) 1 (by omega) (by omega) (by omega) (by omega)
  have f6 := h2 (300 + w) 6 (by omega) (by omega) (by omega) (by omega)
  have c := cm_Wh_ripen X d G1 hw ha hp (by rw [f6]; exact hr) (by rw [h3]; exact hs.1) (by rw [h4]; exact hs.2.1) (by rw [h5]; exact hs.2.2)
  rw [f1, f6, h3, h4, h5] at c
  refine am_mono (fun r G' hr => ⟨hr.1, ?_⟩) c
  rw [hr.2]
  exact hq _ _ _ _
