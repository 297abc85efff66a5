/-! ===== working out a line ===== -/
theorem mi_c (G : mm_T) {a b : Nat} (k j : Nat) (v w : Int) (h : a ≠ b) : ms_I (ms_I G a k v) b j w = ms_I (ms_I G b j w) a k v := by
  obtain ⟨A, I, J, R⟩ := G
  refine congrArg (fun q => (A, q, J, R)) (funext fun x => funext fun i => ?_)
  show (if x = b ∧ i = j then w else if x = a ∧ i = k then v else I x i) = if x = a ∧ i = k then v else if x = b ∧ i = j then w else I x i
  by_cases h1 : x = b ∧ i = j
  · rw [if_pos h1, if_neg (fun z => h (by rw [← z.1, h1.1])), if_pos h1]
  · rw [if_neg h1, if_neg h1]
theorem mi_ss (G : mm_T) (a k : Nat) (v w : Int) : ms_I (ms_I G a k v) a k w = ms_I G a k w := by
  obtain ⟨A, I, J, R⟩ := G
  refine congrArg (fun q => (A, q, J, R)) (funext fun x => funext fun i => ?_)
  show (if x = a ∧ i = k then w else if x = a ∧ i = k then v else I x i) = if x = a ∧ i = k then w else I x i
  split <;> rfl
def w32 (x : Int) : Int := (Int32.ofInt x).toInt
theorem w32_e (x : Int) : Int32.ofInt x = Int32.ofInt (w32 x) := by rw [w32, Int32.ofInt_toInt]
theorem w32_in (x : Int) : i3_in (w32 x) := ib_in _
def upp (p : Nat → Int) (j : Nat) (v : Int) : Nat → Int := fun i => if i = j then v else p i
def jn_v (t x y : Int) : Int := if t = 43 then w32 (x + y) else if t = 45 then w32 (x - y) else if t = 60 then (if x < y then 1 else 0) else if t = 61 then (if x = y then 1 else 0) else if t = 62 then (if y < x then 1 else 0) else if t = 6 then (if x ≠ 0 ∧ y ≠ 0 then 1 else 0) else (if x ≠ 0 ∨ y ≠ 0 then 1 else 0)
theorem jn_in (t x y : Int) : i3_in (jn_v t x y) := by
  have h1 := w32_in (x + y)
  have h2 := w32_in (x - y)
  have h0 : i3_in 0 := ⟨by omega, by omega⟩
  have h3 : i3_in 1 := ⟨by omega, by omega⟩
  unfold jn_v
  repeat' split
  all_goals assumption
def ev_s (nm : Int → Int) (z : Int) (p : Nat → Int) (h : Nat) : (Nat → Int) × Nat :=
  if 0 ≤ z then (upp p h z, h + 1)
  else if z = -8 then (upp p (h - 1) (if p (h - 1) = 0 then 1 else 0), h)
  else if -18 ≤ z ∧ z ≤ -9 then (upp p h (nm z), h + 1)
  else (upp p (h - 2) (jn_v (-1 - z) (p (h - 2)) (p (h - 1))), h - 1)
def ev_n (nm : Int → Int) (f : Nat → Int) : Nat → Nat → (Nat → Int) → Nat → (Nat → Int)
  | 0, _, p, _ => p
  | n + 1, a, p, h => ev_n nm f n (a + 1) (ev_s nm (f a) p h).1 (ev_s nm (f a) p h).2
def wf_b (z : Int) : Prop := z = -6 ∨ z = -7 ∨ z = -62 ∨ z = -61 ∨ z = -63 ∨ z = -44 ∨ z = -46
def wf_p (f : Nat → Int) : Nat → Nat → Nat → Prop
  | 0, _, h => h = 1
  | n + 1, a, h => ((0 ≤ f a ∨ (-18 ≤ f a ∧ f a ≤ -9)) ∧ h < 80 ∧ wf_p f n (a + 1) (h + 1)) ∨ (f a = -8 ∧ 1 ≤ h ∧ wf_p f n (a + 1) h) ∨ (wf_b (f a) ∧ 2 ≤ h ∧ wf_p f n (a + 1) (h - 1))
theorem ixor_m1 {z : Int} (hz : i3_in z) : Int32.ofInt (b_ixor z (-1)) = Int32.ofInt (-1 - z) := by
  rw [b_ixor, Int32.ofInt_toInt]
  apply Int32.toBitVec_inj.mp
  rw [Int32.toBitVec_xor, Int32.toBitVec_ofInt, Int32.toBitVec_ofInt, Int32.toBitVec_ofInt]
  have h1 : BitVec.ofInt 32 (-1) = BitVec.allOnes 32 := by decide
  rw [h1, BitVec.xor_allOnes]
  apply BitVec.eq_of_toNat_eq
  rw [BitVec.toNat_not, BitVec.toNat_ofInt, BitVec.toNat_ofInt]
  omega
theorem cm_Or_join (X : gx_T) (d : Nat) (G : mm_T) {t x y : Int} (ht : i3_in t) (hx : i3_in x) (hy : i3_in y) : aw_M X (d + 1) mt_Or_join [av_i t, av_i x, av_i y] G 0 0 (fun r G' => r = some (av_i (jn_v t x y)) ∧ G' = G) := by
  unfold jn_v
  refine aw_enter pf_Or_join (Nat.le_of_ble_eq_true rfl) ?_
  refine ar_iload_n (pc := 0) d_Or_join_0 rfl ?_
  refine ar_case (t = 6) (fun hs_1_6 => ?_) (fun hn_1_6 => ?_)
  refine ar_lookup (pc := 1) (off := 100) 101 d_Or_join_1 ⟨by omega, by omega⟩ (by decide) (by rw [hs_1_6]; try rfl) (by decide) ?_
  refine ar_iload_n (pc := 101) d_Or_join_101 rfl ?_
  refine ar_if_eq (pc := 102) 113 d_Or_join_102 (by decide) ⟨by omega, by omega⟩ (fun h_102 => ?_) (fun h_102 => ?_)
  refine ar_iconst (pc := 113) d_Or_join_113 ?_
  refine ar_iret (pc := 114) d_Or_join_114 rfl ?_
  rotate_left
  refine ar_iload_n (pc := 105) d_Or_join_105 rfl ?_
  refine ar_if_eq (pc := 106) 113 d_Or_join_106 (by decide) ⟨by omega, by omega⟩ (fun h_106 => ?_) (fun h_106 => ?_)
  refine ar_iconst (pc := 113) d_Or_join_113 ?_
  refine ar_iret (pc := 114) d_Or_join_114 rfl ?_
  rotate_left
  refine ar_iconst (pc := 109) d_Or_join_109 ?_
  refine ar_goto (pc := 110) 114 d_Or_join_110 (by decide) ?_
  refine ar_iret (pc := 114) d_Or_join_114 rfl ?_
  rotate_left
  refine ar_case (t = 43) (fun hs_1_43 => ?_) (fun hn_1_43 => ?_)
  refine ar_lookup (pc := 1) (off := 59) 60 d_Or_join_1 ⟨by omega, by omega⟩ (by decide) (by rw [hs_1_43]; try rfl) (by decide) ?_
  refine ar_iload_n (pc := 60) d_Or_join_60 rfl ?_
  refine ar_iload_n (pc := 61) d_Or_join_61 rfl ?_
  refine ar_iadd (pc := 62) d_Or_join_62 ?_
  refine ar_mod (w32_e _) ?_
  refine ar_iret (pc := 63) d_Or_join_63 rfl ?_
  rotate_left
  refine ar_case (t = 45) (fun hs_1_45 => ?_) (fun hn_1_45 => ?_)
  refine ar_lookup (pc := 1) (off := 63) 64 d_Or_join_1 ⟨by omega, by omega⟩ (by decide) (by rw [hs_1_45]; try rfl) (by decide) ?_
  refine ar_iload_n (pc := 64) d_Or_join_64 rfl ?_
  refine ar_iload_n (pc := 65) d_Or_join_65 rfl ?_
  refine ar_isub (pc := 66) d_Or_join_66 ?_
  refine ar_mod (w32_e _) ?_
  refine ar_iret (pc := 67) d_Or_join_67 rfl ?_
  rotate_left
  refine ar_case (t = 60) (fun hs_1_60 => ?_) (fun hn_1_60 => ?_)
  refine ar_lookup (pc := 1) (off := 67) 68 d_Or_join_1 ⟨by omega, by omega⟩ (by decide) (by rw [hs_1_60]; try rfl) (by decide) ?_
  refine ar_iload_n (pc := 68) d_Or_join_68 rfl ?_
  refine ar_iload_n (pc := 69) d_Or_join_69 rfl ?_
  refine ar_icmp_ge (pc := 70) 77 d_Or_join_70 (by decide) ⟨by omega, by omega⟩ ⟨by omega, by omega⟩ (fun h_70 => ?_) (fun h_70 => ?_)
  refine ar_iconst (pc := 77) d_Or_join_77 ?_
  refine ar_iret (pc := 78) d_Or_join_78 rfl ?_
  rotate_left
  refine ar_iconst (pc := 73) d_Or_join_73 ?_
  refine ar_goto (pc := 74) 78 d_Or_join_74 (by decide) ?_
  refine ar_iret (pc := 78) d_Or_join_78 rfl ?_
  rotate_left
  refine ar_case (t = 61) (fun hs_1_61 => ?_) (fun hn_1_61 => ?_)
  refine ar_lookup (pc := 1) (off := 89) 90 d_Or_join_1 ⟨by omega, by omega⟩ (by decide) (by rw [hs_1_61]; try rfl) (by decide) ?_
  refine ar_iload_n (pc := 90) d_Or_join_90 rfl ?_
  refine ar_iload_n (pc := 91) d_Or_join_91 rfl ?_
  refine ar_icmp_ne (pc := 92) 99 d_Or_join_92 (by decide) ⟨by omega, by omega⟩ ⟨by omega, by omega⟩ (fun h_92 => ?_) (fun h_92 => ?_)
  refine ar_iconst (pc := 99) d_Or_join_99 ?_
  refine ar_iret (pc := 100) d_Or_join_100 rfl ?_
  rotate_left
  refine ar_iconst (pc := 95) d_Or_join_95 ?_
  refine ar_goto (pc := 96) 100 d_Or_join_96 (by decide) ?_
  refine ar_iret (pc := 100) d_Or_join_100 rfl ?_
  rotate_left
  refine ar_case (t = 62) (fun hs_1_62 => ?_) (fun hn_1_62 => ?_)
  refine ar_lookup (pc := 1) (off := 78) 79 d_Or_join_1 ⟨by omega, by omega⟩ (by decide) (by rw [hs_1_62]; try rfl) (by decide) ?_
  refine ar_iload_n (pc := 79) d_Or_join_79 rfl ?_
  refine ar_iload_n (pc := 80) d_Or_join_80 rfl ?_
  refine ar_icmp_le (pc := 81) 88 d_Or_join_81 (by decide) ⟨by omega, by omega⟩ ⟨by omega, by omega⟩ (fun h_81 => ?_) (fun h_81 => ?_)
  refine ar_iconst (pc := 88) d_Or_join_88 ?_
  refine ar_iret (pc := 89) d_Or_join_89 rfl ?_
  rotate_left
  refine ar_iconst (pc := 84) d_Or_join_84 ?_
  refine ar_goto (pc := 85) 89 d_Or_join_85 (by decide) ?_
  refine ar_iret (pc := 89) d_Or_join_89 rfl ?_
  rotate_left
  refine ar_lookup (pc := 1) (off := 114) 115 d_Or_join_1 ⟨by omega, by omega⟩ (by decide) (by simp only [Op.lookupswitch.offset_cons]; rw [if_neg (by omega), if_neg (by omega), if_neg (by omega), if_neg (by omega), if_neg (by omega), if_neg (by omega)]; try rfl) (by decide) ?_
  refine ar_iload_n (pc := 115) d_Or_join_115 rfl ?_
  refine ar_if_ne (pc := 116) 123 d_Or_join_116 (by decide) ⟨by omega, by omega⟩ (fun h_116 => ?_) (fun h_116 => ?_)
  refine ar_iconst (pc := 123) d_Or_join_123 ?_
  refine ar_goto (pc := 124) 128 d_Or_join_124 (by decide) ?_
  refine ar_iret (pc := 128) d_Or_join_128 rfl ?_
  rotate_left
  refine ar_iload_n (pc := 119) d_Or_join_119 rfl ?_
  refine ar_if_eq (pc := 120) 127 d_Or_join_120 (by decide) ⟨by omega, by omega⟩ (fun h_120 => ?_) (fun h_120 => ?_)
  refine ar_iconst (pc := 127) d_Or_join_127 ?_
  refine ar_iret (pc := 128) d_Or_join_128 rfl ?_
  rotate_left
  refine ar_iconst (pc := 123) d_Or_join_123 ?_
  refine ar_goto (pc := 124) 128 d_Or_join_124 (by decide) ?_
  refine ar_iret (pc := 128) d_Or_join_128 rfl ?_
  rotate_left
  -- leaves: ret 114, ret 114, ret 114, ret 63, ret 67, ret 78, ret 78, ret 100, ret 100, ret 89, ret 89, ret 128, ret 128, ret 128
  all_goals (refine ⟨?_, rfl⟩)
  all_goals repeat (first | rw [if_pos (by omega)] | rw [if_neg (by omega)])
/-! ===== the orders at 42 ===== -/
def ow_a (G : mm_T) (p : Nat → Int) (h : Nat) : mm_T := ms_I (ms_row G 47 80 p) 42 7 h
theorem ow_p_a (G : mm_T) (p : Nat → Int) (h : Nat) {j : Nat} (v : Int) (hj : j < 80) : ms_I (ow_a G p h) 47 j v = ow_a G (upp p j v) h := by
  unfold ow_a
  rw [mi_c _ _ _ _ _ (by omega), row_set _ _ _ _ _ hj]
  rfl
theorem ow_h_a (G : mm_T) (p : Nat → Int) (h : Nat) {k : Nat} {v : Int} (hk : v = k) : ms_I (ow_a G p h) 42 7 v = ow_a G p k := by
  unfold ow_a
  rw [mi_ss, hk]
theorem ow_r_a (G : mm_T) (p : Nat → Int) (h : Nat) {j : Nat} (hj : j < 80) : mm_I (ow_a G p h) 47 j = p j := by
  unfold ow_a
  rw [mi_n (by omega), row_at _ _ _ _ hj]
theorem ow_g_a (G : mm_T) (p : Nat → Int) (h : Nat) : mm_I (ow_a G p h) 42 7 = h := mi_s _ _ _ _
theorem cm_Or_put_a (X : gx_T) (d : Nat) (G : mm_T) {p : Nat → Int} {h : Nat} {v : Int} (hF : fx_R G) (hv : i3_in v) (hh : h < 80) : aw_M X (d + 1) mt_Or_put [av_r (some 42), av_i v] (ow_a G p h) 0 0 (fun r G' => r = none ∧ G' = ow_a G (upp p h v) (h + 1)) := by
  have g := ow_g_a G p h
  have hp := ow_p_a G p h v hh
  have hh2 := ow_h_a G (upp p h v) h (k := h + 1) (v := (h : Int) + 1) (by omega)
  have g2 := ow_g_a G (upp p h v) h
  have hF2 : fx_R (ow_a G p h) := hF
  have hF3 : fx_R (ow_a G (upp p h v) h) := hF
  generalize ow_a G p h = G1 at *
  generalize ow_a G (upp p h v) h = G2 at *
  generalize ow_a G (upp p h v) (h + 1) = G3 at *
  have hF := hF2
  refine aw_enter pf_Or_put (Nat.le_of_ble_eq_true rfl) ?_
  refine ar_aload_n (pc := 0) d_Or_put_0 rfl ?_
  refine ar_getIv (pc := 1) gf_Or_69 d_Or_put_1 (by first | rfl | exact sh_wheel (by omega) | exact sh_milk (by omega)) g (fun r_1 => ?_)
  refine ar_bipush (pc := 4) d_Or_put_4 (by decide) ?_
  refine ar_icmp_ge (pc := 6) 29 d_Or_put_6 (by decide) ⟨by omega, by omega⟩ ⟨by omega, by omega⟩ (fun h_6 => by exfalso; omega) (fun h_6 => ?_)
  refine ar_aload_n (pc := 9) d_Or_put_9 rfl ?_
  refine ar_getR (pc := 10) gf_Or_24 d_Or_put_10 (by first | rfl | exact sh_wheel (by omega) | exact sh_milk (by omega)) (hF _ _ _ rfl) ?_
  refine ar_aload_n (pc := 13) d_Or_put_13 rfl ?_
  refine ar_getIv (pc := 14) gf_Or_69 d_Or_put_14 (by first | rfl | exact sh_wheel (by omega) | exact sh_milk (by omega)) g (fun r_14 => ?_)
  refine ar_iload_n (pc := 17) d_Or_put_17 rfl ?_
  refine ar_iast (pc := 18) d_Or_put_18 rfl (h) (by omega) (by omega) ⟨by omega, by omega⟩ ?_
  rw [hp]
  refine ar_aload_n (pc := 19) d_Or_put_19 rfl ?_
  refine ar_dup (pc := 20) d_Or_put_20 rfl ?_
  refine ar_getIv (pc := 21) gf_Or_69 d_Or_put_21 (by first | rfl | exact sh_wheel (by omega) | exact sh_milk (by omega)) g2 (fun r_21 => ?_)
  refine ar_iconst (pc := 24) d_Or_put_24 ?_
  refine ar_iadd (pc := 25) d_Or_put_25 ?_
  refine ar_putI (pc := 26) gf_Or_69 d_Or_put_26 rfl (by first | rfl | exact sh_wheel (by omega) | exact sh_milk (by omega)) ⟨by omega, by omega⟩ ?_
  rw [hh2]
  refine ar_ret (pc := 29) d_Or_put_29 rfl ?_
  rotate_left
  -- leaves: ret 29
  · exact ⟨rfl, rfl⟩
theorem cm_Or_pick_a (X : gx_T) (d : Nat) (G : mm_T) {p : Nat → Int} {h : Nat} (hF : fx_R G) (hh : h < 80) : aw_M X (d + 1) mt_Or_pick [av_r (some 42)] (ow_a G p (h + 1)) 0 0 (fun r G' => (r = some (av_i (p h)) ∧ i3_in (p h)) ∧ G' = ow_a G p h) := by
  have g := ow_g_a G p (h + 1)
  have hh2 := ow_h_a G p (h + 1) (k := h) (v := ((h + 1 : Nat) : Int) - 1) (by omega)
  have g2 := ow_g_a G p h
  have g3 := ow_r_a G p h hh
  have hF2 : fx_R (ow_a G p (h + 1)) := hF
  have hF3 : fx_R (ow_a G p h) := hF
  generalize ow_a G p (h + 1) = G1 at *
  generalize ow_a G p h = G2 at *
  refine aw_enter pf_Or_pick (Nat.le_of_ble_eq_true rfl) ?_
  refine ar_aload_n (pc := 0) d_Or_pick_0 rfl ?_
  refine ar_getIv (pc := 1) gf_Or_69 d_Or_pick_1 (by first | rfl | exact sh_wheel (by omega) | exact sh_milk (by omega)) g (fun r_1 => ?_)
  refine ar_if_gt (pc := 4) 9 d_Or_pick_4 (by decide) ⟨by omega, by omega⟩ (fun h_4 => ?_) (fun h_4 => by exfalso; omega)
  refine ar_aload_n (pc := 9) d_Or_pick_9 rfl ?_
  refine ar_dup (pc := 10) d_Or_pick_10 rfl ?_
  refine ar_getIv (pc := 11) gf_Or_69 d_Or_pick_11 (by first | rfl | exact sh_wheel (by omega) | exact sh_milk (by omega)) g (fun r_11 => ?_)
  refine ar_iconst (pc := 14) d_Or_pick_14 ?_
  refine ar_isub (pc := 15) d_Or_pick_15 ?_
  refine ar_putI (pc := 16) gf_Or_69 d_Or_pick_16 rfl (by first | rfl | exact sh_wheel (by omega) | exact sh_milk (by omega)) ⟨by omega, by omega⟩ ?_
  rw [hh2]; have hF := hF3
  refine ar_aload_n (pc := 19) d_Or_pick_19 rfl ?_
  refine ar_getR (pc := 20) gf_Or_24 d_Or_pick_20 (by first | rfl | exact sh_wheel (by omega) | exact sh_milk (by omega)) (hF _ _ _ rfl) ?_
  refine ar_aload_n (pc := 23) d_Or_pick_23 rfl ?_
  refine ar_getIv (pc := 24) gf_Or_69 d_Or_pick_24 (by first | rfl | exact sh_wheel (by omega) | exact sh_milk (by omega)) g2 (fun r_24 => ?_)
  refine ar_ialdv (pc := 27) d_Or_pick_27 rfl (h) (by omega) (by omega) g3 (fun r_27 => ?_)
  refine ar_iret (pc := 28) d_Or_pick_28 rfl ?_
  rotate_left
  -- leaves: ret 28
  · exact ⟨⟨rfl, r_27⟩, rfl⟩
theorem cm_Or_apNot_a (X : gx_T) (d : Nat) (G : mm_T) {p : Nat → Int} {k : Nat} (hF : fx_R G) (hk : k < 80) : aw_M X (d + 2) mt_Or_applyToken [av_r (some 42), av_i 7] (ow_a G p (k + 1)) 0 0 (fun r G' => r = none ∧ G' = ow_a G (upp p k (if p k = 0 then 1 else 0)) (k + 1)) := by
  have hF1 := hF
  refine aw_enter pf_Or_applyToken (Nat.le_of_ble_eq_true rfl) ?_
  refine ar_iload_n (pc := 0) d_Or_applyToken_0 rfl ?_
  refine ar_bipush (pc := 1) d_Or_applyToken_1 (by decide) ?_
  refine ar_icmp_ne (pc := 3) 25 d_Or_applyToken_3 (by decide) ⟨by omega, by omega⟩ ⟨by omega, by omega⟩ (fun h_3 => by exfalso; omega) (fun h_3 => ?_)
  refine ar_aload_n (pc := 6) d_Or_applyToken_6 rfl ?_
  refine ar_aload_n (pc := 7) d_Or_applyToken_7 rfl ?_
  refine ac_virt (pc := 8) (N := mt_Or_pick) _ _ mv_Or_pick ml_Or_78 ck_3 d_Or_applyToken_8 (cm_Or_pick_a X _ G (p := p) (h := k) hF hk) (by first | rfl | exact sh_wheel (by omega) | exact sh_milk (by omega)) rfl rfl (Nat.le_of_ble_eq_true rfl) (Nat.le_of_eq (Nat.zero_add _)) (Nat.le_of_eq (Nat.zero_add _)) (fun r_8 G_8 h_8 => ?_)
  obtain ⟨⟨rfl, q8⟩, e8⟩ := h_8
  subst G_8
  refine ar_if_ne (pc := 11) 18 d_Or_applyToken_11 (by decide) ⟨by omega, by omega⟩ (fun h_11 => ?_) (fun h_11 => ?_)
  refine ar_iconst (pc := 18) d_Or_applyToken_18 ?_
  refine ac_virt (pc := 19) (N := mt_Or_put) _ _ mv_Or_put ml_Or_72 ck_3 d_Or_applyToken_19 (cm_Or_put_a X _ G (p := p) (h := k) hF ⟨by omega, by omega⟩ hk) (by first | rfl | exact sh_wheel (by omega) | exact sh_milk (by omega)) rfl rfl (Nat.le_of_ble_eq_true rfl) (Nat.le_of_eq (Nat.zero_add _)) (Nat.le_of_eq (Nat.zero_add _)) (fun r_19 G_19 h_19 => ?_)
  obtain ⟨rfl, e_19⟩ := h_19
  subst G_19
  refine ar_goto (pc := 22) 70 d_Or_applyToken_22 (by decide) ?_
  refine ar_ret (pc := 70) d_Or_applyToken_70 rfl ?_
  rotate_left
  refine ar_iconst (pc := 14) d_Or_applyToken_14 ?_
  refine ar_goto (pc := 15) 19 d_Or_applyToken_15 (by decide) ?_
  refine ac_virt (pc := 19) (N := mt_Or_put) _ _ mv_Or_put ml_Or_72 ck_3 d_Or_applyToken_19 (cm_Or_put_a X _ G (p := p) (h := k) hF ⟨by omega, by omega⟩ hk) (by first | rfl | exact sh_wheel (by omega) | exact sh_milk (by omega)) rfl rfl (Nat.le_of_ble_eq_true rfl) (Nat.le_of_eq (Nat.zero_add _)) (Nat.le_of_eq (Nat.zero_add _)) (fun r_19 G_19 h_19 => ?_)
  obtain ⟨rfl, e_19⟩ := h_19
  subst G_19
  refine ar_goto (pc := 22) 70 d_Or_applyToken_22 (by decide) ?_
  refine ar_ret (pc := 70) d_Or_applyToken_70 rfl ?_
  rotate_left
  -- leaves: ret 70, ret 70
  · rw [if_neg (by omega)]; exact ⟨rfl, rfl⟩
  · rw [if_pos (by omega)]; exact ⟨rfl, rfl⟩
theorem cm_Or_apName_a (X : gx_T) (d : Nat) (G : mm_T) {p : Nat → Int} {h : Nat} {t : Int} (hF : fx_R G) (ht : 8 ≤ t ∧ t ≤ 17) (hh : h < 80) : aw_M X (d + 2) mt_Or_applyToken [av_r (some 42), av_i t] (ow_a G p h) 0 0 (fun r G' => r = none ∧ G' = ow_a G (upp p h (mm_I G 46 t.toNat)) (h + 1)) := by
  refine aw_enter pf_Or_applyToken (Nat.le_of_ble_eq_true rfl) ?_
  refine ar_iload_n (pc := 0) d_Or_applyToken_0 rfl ?_
  refine ar_bipush (pc := 1) d_Or_applyToken_1 (by decide) ?_
  refine ar_icmp_ne (pc := 3) 25 d_Or_applyToken_3 (by decide) ⟨by omega, by omega⟩ ⟨by omega, by omega⟩ (fun h_3 => ?_) (fun h_3 => by exfalso; omega)
  refine ar_iload_n (pc := 25) d_Or_applyToken_25 rfl ?_
  refine ar_bipush (pc := 26) d_Or_applyToken_26 (by decide) ?_
  refine ar_icmp_ge (pc := 28) 50 d_Or_applyToken_28 (by decide) ⟨by omega, by omega⟩ ⟨by omega, by omega⟩ (fun h_28 => by exfalso; omega) (fun h_28 => ?_)
  refine ar_iload_n (pc := 31) d_Or_applyToken_31 rfl ?_
  refine ar_bipush (pc := 32) d_Or_applyToken_32 (by decide) ?_
  refine ar_icmp_le (pc := 34) 50 d_Or_applyToken_34 (by decide) ⟨by omega, by omega⟩ ⟨by omega, by omega⟩ (fun h_34 => by exfalso; omega) (fun h_34 => ?_)
  refine ar_aload_n (pc := 37) d_Or_applyToken_37 rfl ?_
  refine ar_aload_n (pc := 38) d_Or_applyToken_38 rfl ?_
  refine ar_getR (pc := 39) gf_Or_21 d_Or_applyToken_39 (by first | rfl | exact sh_wheel (by omega) | exact sh_milk (by omega)) (hF _ _ _ rfl) ?_
  refine ar_iload_n (pc := 42) d_Or_applyToken_42 rfl ?_
  refine ar_ialdv (pc := 43) d_Or_applyToken_43 rfl _ (Int.toNat_of_nonneg (by omega)).symm (by omega) (show _ = mm_I G 46 t.toNat from rfl) (fun r_43 => ?_)
  refine ac_virt (pc := 44) (N := mt_Or_put) _ _ mv_Or_put ml_Or_72 ck_3 d_Or_applyToken_44 (cm_Or_put_a X _ G (p := p) (h := h) hF r_43 hh) (by first | rfl | exact sh_wheel (by omega) | exact sh_milk (by omega)) rfl rfl (Nat.le_of_ble_eq_true rfl) (Nat.le_of_eq (Nat.zero_add _)) (Nat.le_of_eq (Nat.zero_add _)) (fun r_44 G_44 h_44 => ?_)
  obtain ⟨rfl, e_44⟩ := h_44
  subst G_44
  refine ar_goto (pc := 47) 70 d_Or_applyToken_47 (by decide) ?_
  refine ar_ret (pc := 70) d_Or_applyToken_70 rfl ?_
  rotate_left
  -- leaves: ret 70
  · exact ⟨rfl, rfl⟩
theorem cm_Or_apTwo_a (X : gx_T) (d : Nat) (G : mm_T) {p : Nat → Int} {k : Nat} {t : Int} (hF : fx_R G) (ht : wf_b (-1 - t)) (hk : k < 79) : aw_M X (d + 2) mt_Or_applyToken [av_r (some 42), av_i t] (ow_a G p (k + 2)) 0 0 (fun r G' => r = none ∧ G' = ow_a G (upp p k (jn_v t (p k) (p (k + 1)))) (k + 1)) := by
  unfold wf_b at ht
  have h3 : t ≠ 7 := by omega
  have h4 : 18 ≤ t ∨ t ≤ 7 := by omega
  have h5 : i3_in t := ⟨by omega, by omega⟩
  clear ht
  refine aw_enter pf_Or_applyToken (Nat.le_of_ble_eq_true rfl) ?_
  refine ar_iload_n (pc := 0) d_Or_applyToken_0 rfl ?_
  refine ar_bipush (pc := 1) d_Or_applyToken_1 (by decide) ?_
  refine ar_icmp_ne (pc := 3) 25 d_Or_applyToken_3 (by decide) ⟨by omega, by omega⟩ ⟨by omega, by omega⟩ (fun h_3 => ?_) (fun h_3 => by exfalso; omega)
  refine ar_iload_n (pc := 25) d_Or_applyToken_25 rfl ?_
  refine ar_bipush (pc := 26) d_Or_applyToken_26 (by decide) ?_
  refine ar_icmp_ge (pc := 28) 50 d_Or_applyToken_28 (by decide) ⟨by omega, by omega⟩ ⟨by omega, by omega⟩ (fun h_28 => ?_) (fun h_28 => ?_)
  rotate_left
  refine ar_iload_n (pc := 31) d_Or_applyToken_31 rfl ?_
  refine ar_bipush (pc := 32) d_Or_applyToken_32 (by decide) ?_
  refine ar_icmp_le (pc := 34) 50 d_Or_applyToken_34 (by decide) ⟨by omega, by omega⟩ ⟨by omega, by omega⟩ (fun h_34 => ?_) (fun h_34 => by exfalso; omega)
  rotate_left
  -- leaves: stop 50, stop 50
  · skip
    refine ar_aload_n (pc := 50) d_Or_applyToken_50 rfl ?_
    refine ac_virt (pc := 51) (N := mt_Or_pick) _ _ mv_Or_pick ml_Or_78 ck_3 d_Or_applyToken_51 (cm_Or_pick_a X _ G (p := p) (h := k + 1) hF (by omega)) (by first | rfl | exact sh_wheel (by omega) | exact sh_milk (by omega)) rfl rfl (Nat.le_of_ble_eq_true rfl) (Nat.le_of_eq (Nat.zero_add _)) (Nat.le_of_eq (Nat.zero_add _)) (fun r_51 G_51 h_51 => ?_)
    obtain ⟨⟨rfl, q51⟩, e51⟩ := h_51
    subst G_51
    refine ar_istore_n (pc := 54) d_Or_applyToken_54 rfl (by decide) ?_
    refine ar_aload_n (pc := 55) d_Or_applyToken_55 rfl ?_
    refine ac_virt (pc := 56) (N := mt_Or_pick) _ _ mv_Or_pick ml_Or_78 ck_3 d_Or_applyToken_56 (cm_Or_pick_a X _ G (p := p) (h := k) hF (by omega)) (by first | rfl | exact sh_wheel (by omega) | exact sh_milk (by omega)) rfl rfl (Nat.le_of_ble_eq_true rfl) (Nat.le_of_eq (Nat.zero_add _)) (Nat.le_of_eq (Nat.zero_add _)) (fun r_56 G_56 h_56 => ?_)
    obtain ⟨⟨rfl, q56⟩, e56⟩ := h_56
    subst G_56
    refine ar_istore_n (pc := 59) d_Or_applyToken_59 rfl (by decide) ?_
    refine ar_aload_n (pc := 60) d_Or_applyToken_60 rfl ?_
    refine ar_iload_n (pc := 61) d_Or_applyToken_61 rfl ?_
    refine ar_iload_n (pc := 62) d_Or_applyToken_62 rfl ?_
    refine ar_iload_n (pc := 63) d_Or_applyToken_63 rfl ?_
    refine ac_stat (pc := 64) (N := mt_Or_join) _ _ sv_Or_join ml_Or_82 d_Or_applyToken_64 (cm_Or_join X _ _ h5 q56 q51) rfl rfl (Nat.le_of_ble_eq_true rfl) (Nat.le_of_eq (Nat.zero_add _)) (Nat.le_of_eq (Nat.zero_add _)) (fun r_64 G_64 h_64 => ?_)
    obtain ⟨rfl, e_64⟩ := h_64
    subst G_64
    refine ac_virt (pc := 67) (N := mt_Or_put) _ _ mv_Or_put ml_Or_72 ck_3 d_Or_applyToken_67 (cm_Or_put_a X _ G (p := p) (h := k) hF (jn_in _ _ _) (by omega)) (by first | rfl | exact sh_wheel (by omega) | exact sh_milk (by omega)) rfl rfl (Nat.le_of_ble_eq_true rfl) (Nat.le_of_eq (Nat.zero_add _)) (Nat.le_of_eq (Nat.zero_add _)) (fun r_67 G_67 h_67 => ?_)
    obtain ⟨rfl, e_67⟩ := h_67
    subst G_67
    refine ar_ret (pc := 70) d_Or_applyToken_70 rfl ?_
    rotate_left
    -- leaves: ret 70
    · exact ⟨rfl, rfl⟩
  · skip
    refine ar_aload_n (pc := 50) d_Or_applyToken_50 rfl ?_
    refine ac_virt (pc := 51) (N := mt_Or_pick) _ _ mv_Or_pick ml_Or_78 ck_3 d_Or_applyToken_51 (cm_Or_pick_a X _ G (p := p) (h := k + 1) hF (by omega)) (by first | rfl | exact sh_wheel (by omega) | exact sh_milk (by omega)) rfl rfl (Nat.le_of_ble_eq_true rfl) (Nat.le_of_eq (Nat.zero_add _)) (Nat.le_of_eq (Nat.zero_add _)) (fun r_51 G_51 h_51 => ?_)
    obtain ⟨⟨rfl, q51⟩, e51⟩ := h_51
    subst G_51
    refine ar_istore_n (pc := 54) d_Or_applyToken_54 rfl (by decide) ?_
    refine ar_aload_n (pc := 55) d_Or_applyToken_55 rfl ?_
    refine ac_virt (pc := 56) (N := mt_Or_pick) _ _ mv_Or_pick ml_Or_78 ck_3 d_Or_applyToken_56 (cm_Or_pick_a X _ G (p := p) (h := k) hF (by omega)) (by first | rfl | exact sh_wheel (by omega) | exact sh_milk (by omega)) rfl rfl (Nat.le_of_ble_eq_true rfl) (Nat.le_of_eq (Nat.zero_add _)) (Nat.le_of_eq (Nat.zero_add _)) (fun r_56 G_56 h_56 => ?_)
    obtain ⟨⟨rfl, q56⟩, e56⟩ := h_56
    subst G_56
    refine ar_istore_n (pc := 59) d_Or_applyToken_59 rfl (by decide) ?_
    refine ar_aload_n (pc := 60) d_Or_applyToken_60 rfl ?_
    refine ar_iload_n (pc := 61) d_Or_applyToken_61 rfl ?_
    refine ar_iload_n (pc := 62) d_Or_applyToken_62 rfl ?_
    refine ar_iload_n (pc := 63) d_Or_applyToken_63 rfl ?_
    refine ac_stat (pc := 64) (N := mt_Or_join) _ _ sv_Or_join ml_Or_82 d_Or_applyToken_64 (cm_Or_join X _ _ h5 q56 q51) rfl rfl (Nat.le_of_ble_eq_true rfl) (Nat.le_of_eq (Nat.zero_add _)) (Nat.le_of_eq (Nat.zero_add _)) (fun r_64 G_64 h_64 => ?_)
    obtain ⟨rfl, e_64⟩ := h_64
    subst G_64
    refine ac_virt (pc := 67) (N := mt_Or_put) _ _ mv_Or_put ml_Or_72 ck_3 d_Or_applyToken_67 (cm_Or_put_a X _ G (p := p) (h := k) hF (jn_in _ _ _) (by omega)) (by first | rfl | exact sh_wheel (by omega) | exact sh_milk (by omega)) rfl rfl (Nat.le_of_ble_eq_true rfl) (Nat.le_of_eq (Nat.zero_add _)) (Nat.le_of_eq (Nat.zero_add _)) (fun r_67 G_67 h_67 => ?_)
    obtain ⟨rfl, e_67⟩ := h_67
    subst G_67
    refine ar_ret (pc := 70) d_Or_applyToken_70 rfl ?_
    rotate_left
    -- leaves: ret 70
    · exact ⟨rfl, rfl⟩
theorem lp_Or_workOut_a (X : gx_T) (d : Nat) (G : mm_T) {e : Nat} (hF : fx_R G) (he : e ≤ 500) : ∀ n a p h, a + n = e → h ≤ 80 → wf_p (mm_I G 43) n a h → aw_W X mt_Or_workOut (d + 3) 7 [(0, some (av_r (some 42))), (2, some (av_i (e : Int))), (3, some (av_i (a : Int)))] [] (ow_a G p h) 0 0 (fun r G' => (r = some (av_i (ev_n (fun z => mm_I G 46 (-1 - z).toNat) (mm_I G 43) n a p h 0)) ∧ i3_in (ev_n (fun z => mm_I G 46 (-1 - z).toNat) (mm_I G 43) n a p h 0)) ∧ G' = ow_a G (ev_n (fun z => mm_I G 46 (-1 - z).toNat) (mm_I G 43) n a p h) 0) := by
  intro n
  induction n with
  | zero =>
    intro a p h ha hh hw
    have hw : h = 1 := hw
    subst hw
    refine ar_iload_n (pc := 7) d_Or_workOut_7 rfl ?_
    refine ar_iload_n (pc := 8) d_Or_workOut_8 rfl ?_
    refine ar_icmp_ge (pc := 9) 48 d_Or_workOut_9 (by decide) ⟨by omega, by omega⟩ ⟨by omega, by omega⟩ (fun h_9 => ?_) (fun h_9 => by exfalso; omega)
    refine ar_aload_n (pc := 48) d_Or_workOut_48 rfl ?_
    refine ac_virt (pc := 49) (N := mt_Or_pick) _ _ mv_Or_pick ml_Or_78 ck_3 d_Or_workOut_49 (cm_Or_pick_a X _ G (p := p) (h := 0) hF (by omega)) (by first | rfl | exact sh_wheel (by omega) | exact sh_milk (by omega)) rfl rfl (Nat.le_of_ble_eq_true rfl) (Nat.le_of_eq (Nat.zero_add _)) (Nat.le_of_eq (Nat.zero_add _)) (fun r_49 G_49 h_49 => ?_)
    obtain ⟨⟨rfl, q49⟩, e49⟩ := h_49
    subst G_49
    refine ar_iret (pc := 52) d_Or_workOut_52 rfl ?_
    rotate_left
    -- leaves: ret 52
    · exact ⟨⟨rfl, q49⟩, rfl⟩
  | succ n ih =>
    intro a p h ha hh hw
    rw [wf_p] at hw
    rw [ev_n]
    rcases hw with ⟨h1, h2, h3⟩ | ⟨h1, h2, h3⟩ | ⟨h1, h2, h3⟩
    · by_cases hz : 0 ≤ mm_I G 43 a
      · have i1 := ih (a + 1) (upp p h (mm_I G 43 a)) (h + 1) (by omega) (by omega) h3
        have es : ev_s (fun z => mm_I G 46 (-1 - z).toNat) (mm_I G 43 a) p h = (upp p h (mm_I G 43 a), h + 1) := by unfold ev_s; rw [if_pos hz]
        rw [es]
        clear ih es h3
        refine ar_iload_n (pc := 7) d_Or_workOut_7 rfl ?_
        refine ar_iload_n (pc := 8) d_Or_workOut_8 rfl ?_
        refine ar_icmp_ge (pc := 9) 48 d_Or_workOut_9 (by decide) ⟨by omega, by omega⟩ ⟨by omega, by omega⟩ (fun h_9 => by exfalso; omega) (fun h_9 => ?_)
        refine ar_aload_n (pc := 12) d_Or_workOut_12 rfl ?_
        refine ar_getR (pc := 13) gf_Or_9 d_Or_workOut_13 (by first | rfl | exact sh_wheel (by omega) | exact sh_milk (by omega)) (hF _ _ _ rfl) ?_
        refine ar_iload_n (pc := 16) d_Or_workOut_16 rfl ?_
        refine ar_ialdv (pc := 17) d_Or_workOut_17 rfl (a) (by omega) (by omega) (show _ = mm_I G 43 a from rfl) (fun r_17 => ?_)
        refine ar_istore (pc := 18) d_Or_workOut_18 rfl (by decide) ?_
        refine ar_iload (pc := 20) d_Or_workOut_20 rfl ?_
        refine ar_if_lt (pc := 22) 34 d_Or_workOut_22 (by decide) ⟨by omega, by omega⟩ (fun h_22 => by exfalso; omega) (fun h_22 => ?_)
        refine ar_aload_n (pc := 25) d_Or_workOut_25 rfl ?_
        refine ar_iload (pc := 26) d_Or_workOut_26 rfl ?_
        refine ac_virt (pc := 28) (N := mt_Or_put) _ _ mv_Or_put ml_Or_72 ck_3 d_Or_workOut_28 (cm_Or_put_a X _ G (p := p) (h := h) hF r_17 h2) (by first | rfl | exact sh_wheel (by omega) | exact sh_milk (by omega)) rfl rfl (Nat.le_of_ble_eq_true rfl) (Nat.le_of_eq (Nat.zero_add _)) (Nat.le_of_eq (Nat.zero_add _)) (fun r_28 G_28 h_28 => ?_)
        obtain ⟨rfl, e_28⟩ := h_28
        subst G_28
        refine ar_goto (pc := 31) 42 d_Or_workOut_31 (by decide) ?_
        refine ar_iinc (pc := 42) d_Or_workOut_42 rfl rfl (by decide) ?_
        refine ar_goto (pc := 45) 7 d_Or_workOut_45 (by decide) ?_
        rotate_left
        -- leaves: stop 7
        · exact ar_loc i1 ⟨rfl, rfl, li_i rfl (by omega), trivial⟩
      · have i1 := ih (a + 1) (upp p h (mm_I G 46 (-1 - mm_I G 43 a).toNat)) (h + 1) (by omega) (by omega) h3
        have es : ev_s (fun z => mm_I G 46 (-1 - z).toNat) (mm_I G 43 a) p h = (upp p h (mm_I G 46 (-1 - mm_I G 43 a).toNat), h + 1) := by unfold ev_s; rw [if_neg hz, if_neg (by omega), if_pos (by omega)]
        rw [es]
        clear ih es h3
        refine ar_iload_n (pc := 7) d_Or_workOut_7 rfl ?_
        refine ar_iload_n (pc := 8) d_Or_workOut_8 rfl ?_
        refine ar_icmp_ge (pc := 9) 48 d_Or_workOut_9 (by decide) ⟨by omega, by omega⟩ ⟨by omega, by omega⟩ (fun h_9 => by exfalso; omega) (fun h_9 => ?_)
        refine ar_aload_n (pc := 12) d_Or_workOut_12 rfl ?_
        refine ar_getR (pc := 13) gf_Or_9 d_Or_workOut_13 (by first | rfl | exact sh_wheel (by omega) | exact sh_milk (by omega)) (hF _ _ _ rfl) ?_
        refine ar_iload_n (pc := 16) d_Or_workOut_16 rfl ?_
        refine ar_ialdv (pc := 17) d_Or_workOut_17 rfl (a) (by omega) (by omega) (show _ = mm_I G 43 a from rfl) (fun r_17 => ?_)
        refine ar_istore (pc := 18) d_Or_workOut_18 rfl (by decide) ?_
        refine ar_iload (pc := 20) d_Or_workOut_20 rfl ?_
        refine ar_if_lt (pc := 22) 34 d_Or_workOut_22 (by decide) ⟨by omega, by omega⟩ (fun h_22 => ?_) (fun h_22 => by exfalso; omega)
        refine ar_aload_n (pc := 34) d_Or_workOut_34 rfl ?_
        refine ar_iload (pc := 35) d_Or_workOut_35 rfl ?_
        refine ar_iconst (pc := 37) d_Or_workOut_37 ?_
        refine ar_ixor (pc := 38) d_Or_workOut_38 ?_
        refine ar_mod (ixor_m1 r_17) ?_
        refine ac_virt (pc := 39) (N := mt_Or_applyToken) _ _ mv_Or_applyToken ml_Or_75 ck_3 d_Or_workOut_39 (cm_Or_apName_a X _ G (p := p) (h := h) (t := -1 - mm_I G 43 a) hF (by omega) h2) (by first | rfl | exact sh_wheel (by omega) | exact sh_milk (by omega)) rfl rfl (Nat.le_of_ble_eq_true rfl) (Nat.le_of_eq (Nat.zero_add _)) (Nat.le_of_eq (Nat.zero_add _)) (fun r_39 G_39 h_39 => ?_)
        obtain ⟨rfl, e_39⟩ := h_39
        subst G_39
        refine ar_iinc (pc := 42) d_Or_workOut_42 rfl rfl (by decide) ?_
        refine ar_goto (pc := 45) 7 d_Or_workOut_45 (by decide) ?_
        rotate_left
        -- leaves: stop 7
        · exact ar_loc i1 ⟨rfl, rfl, li_i rfl (by omega), trivial⟩
    · obtain ⟨k, rfl⟩ : ∃ k, h = k + 1 := ⟨h - 1, by omega⟩
      have i1 := ih (a + 1) (upp p k (if p k = 0 then 1 else 0)) (k + 1) (by omega) (by omega) h3
      have es : ev_s (fun z => mm_I G 46 (-1 - z).toNat) (mm_I G 43 a) p (k + 1) = (upp p k (if p k = 0 then 1 else 0), k + 1) := by unfold ev_s; rw [if_neg (by omega), if_pos (by omega)]; rfl
      rw [es]
      clear ih es h3
      refine ar_iload_n (pc := 7) d_Or_workOut_7 rfl ?_
      refine ar_iload_n (pc := 8) d_Or_workOut_8 rfl ?_
      refine ar_icmp_ge (pc := 9) 48 d_Or_workOut_9 (by decide) ⟨by omega, by omega⟩ ⟨by omega, by omega⟩ (fun h_9 => by exfalso; omega) (fun h_9 => ?_)
      refine ar_aload_n (pc := 12) d_Or_workOut_12 rfl ?_
      refine ar_getR (pc := 13) gf_Or_9 d_Or_workOut_13 (by first | rfl | exact sh_wheel (by omega) | exact sh_milk (by omega)) (hF _ _ _ rfl) ?_
      refine ar_iload_n (pc := 16) d_Or_workOut_16 rfl ?_
      refine ar_ialdv (pc := 17) d_Or_workOut_17 rfl (a) (by omega) (by omega) (show _ = mm_I G 43 a from rfl) (fun r_17 => ?_)
      refine ar_istore (pc := 18) d_Or_workOut_18 rfl (by decide) ?_
      refine ar_iload (pc := 20) d_Or_workOut_20 rfl ?_
      refine ar_if_lt (pc := 22) 34 d_Or_workOut_22 (by decide) ⟨by omega, by omega⟩ (fun h_22 => ?_) (fun h_22 => by exfalso; omega)
      refine ar_aload_n (pc := 34) d_Or_workOut_34 rfl ?_
      refine ar_iload (pc := 35) d_Or_workOut_35 rfl ?_
      refine ar_iconst (pc := 37) d_Or_workOut_37 ?_
      refine ar_ixor (pc := 38) d_Or_workOut_38 ?_
      refine ar_mod ((ixor_m1 r_17).trans (congrArg Int32.ofInt (show _ = 7 by omega))) ?_
      refine ac_virt (pc := 39) (N := mt_Or_applyToken) _ _ mv_Or_applyToken ml_Or_75 ck_3 d_Or_workOut_39 (cm_Or_apNot_a X _ G (p := p) (k := k) hF (by omega)) (by first | rfl | exact sh_wheel (by omega) | exact sh_milk (by omega)) rfl rfl (Nat.le_of_ble_eq_true rfl) (Nat.le_of_eq (Nat.zero_add _)) (Nat.le_of_eq (Nat.zero_add _)) (fun r_39 G_39 h_39 => ?_)
      obtain ⟨rfl, e_39⟩ := h_39
      subst G_39
      refine ar_iinc (pc := 42) d_Or_workOut_42 rfl rfl (by decide) ?_
      refine ar_goto (pc := 45) 7 d_Or_workOut_45 (by decide) ?_
      rotate_left
      -- leaves: stop 7
      · exact ar_loc i1 ⟨rfl, rfl, li_i rfl (by omega), trivial⟩
    · obtain ⟨k, rfl⟩ : ∃ k, h = k + 2 := ⟨h - 2, by omega⟩
      have i1 := ih (a + 1) (upp p k (jn_v (-1 - mm_I G 43 a) (p k) (p (k + 1)))) (k + 1) (by omega) (by omega) h3
      have hb := h1
      unfold wf_b at hb
      have hneg : mm_I G 43 a < 0 := by omega
      have es : ev_s (fun z => mm_I G 46 (-1 - z).toNat) (mm_I G 43 a) p (k + 2) = (upp p k (jn_v (-1 - mm_I G 43 a) (p k) (p (k + 1))), k + 1) := by unfold ev_s; rw [if_neg (by omega), if_neg (by omega), if_neg (by omega)]; rfl
      rw [es]
      clear ih es h3 hb
      have h1' : wf_b (-1 - (-1 - mm_I G 43 a)) := by rw [show -1 - (-1 - mm_I G 43 a) = mm_I G 43 a by omega]; exact h1
      refine ar_iload_n (pc := 7) d_Or_workOut_7 rfl ?_
      refine ar_iload_n (pc := 8) d_Or_workOut_8 rfl ?_
      refine ar_icmp_ge (pc := 9) 48 d_Or_workOut_9 (by decide) ⟨by omega, by omega⟩ ⟨by omega, by omega⟩ (fun h_9 => by exfalso; omega) (fun h_9 => ?_)
      refine ar_aload_n (pc := 12) d_Or_workOut_12 rfl ?_
      refine ar_getR (pc := 13) gf_Or_9 d_Or_workOut_13 (by first | rfl | exact sh_wheel (by omega) | exact sh_milk (by omega)) (hF _ _ _ rfl) ?_
      refine ar_iload_n (pc := 16) d_Or_workOut_16 rfl ?_
      refine ar_ialdv (pc := 17) d_Or_workOut_17 rfl (a) (by omega) (by omega) (show _ = mm_I G 43 a from rfl) (fun r_17 => ?_)
      refine ar_istore (pc := 18) d_Or_workOut_18 rfl (by decide) ?_
      refine ar_iload (pc := 20) d_Or_workOut_20 rfl ?_
      refine ar_if_lt (pc := 22) 34 d_Or_workOut_22 (by decide) ⟨by omega, by omega⟩ (fun h_22 => ?_) (fun h_22 => by exfalso; omega)
      refine ar_aload_n (pc := 34) d_Or_workOut_34 rfl ?_
      refine ar_iload (pc := 35) d_Or_workOut_35 rfl ?_
      refine ar_iconst (pc := 37) d_Or_workOut_37 ?_
      refine ar_ixor (pc := 38) d_Or_workOut_38 ?_
      refine ar_mod (ixor_m1 r_17) ?_
      refine ac_virt (pc := 39) (N := mt_Or_applyToken) _ _ mv_Or_applyToken ml_Or_75 ck_3 d_Or_workOut_39 (cm_Or_apTwo_a X _ G (p := p) (k := k) (t := -1 - mm_I G 43 a) hF h1' (by omega)) (by first | rfl | exact sh_wheel (by omega) | exact sh_milk (by omega)) rfl rfl (Nat.le_of_ble_eq_true rfl) (Nat.le_of_eq (Nat.zero_add _)) (Nat.le_of_eq (Nat.zero_add _)) (fun r_39 G_39 h_39 => ?_)
      obtain ⟨rfl, e_39⟩ := h_39
      subst G_39
      refine ar_iinc (pc := 42) d_Or_workOut_42 rfl rfl (by decide) ?_
      refine ar_goto (pc := 45) 7 d_Or_workOut_45 (by decide) ?_
      rotate_left
      -- leaves: stop 7
      · exact ar_loc i1 ⟨rfl, rfl, li_i rfl (by omega), trivial⟩
theorem cm_Or_workOut_a (X : gx_T) (d : Nat) (G : mm_T) {a n e : Nat} (hF : fx_R G) (he : e ≤ 500) (ha : a + n = e) (hw : wf_p (mm_I G 43) n a 0) : aw_M X (d + 3) mt_Or_workOut [av_r (some 42), av_i (a : Int), av_i (e : Int)] G 0 0 (fun r G' => (r = some (av_i (ev_n (fun z => mm_I G 46 (-1 - z).toNat) (mm_I G 43) n a (mm_I G 47) 0 0)) ∧ i3_in (ev_n (fun z => mm_I G 46 (-1 - z).toNat) (mm_I G 43) n a (mm_I G 47) 0 0)) ∧ G' = ow_a G (ev_n (fun z => mm_I G 46 (-1 - z).toNat) (mm_I G 43) n a (mm_I G 47) 0) 0) := by
  have h := lp_Or_workOut_a X d G hF he n a (mm_I G 47) 0 ha (by omega) hw
  have e0 : ms_I G 42 7 0 = ow_a G (mm_I G 47) 0 := by unfold ow_a; rw [row_id]; rfl
  refine aw_enter pf_Or_workOut (Nat.le_of_ble_eq_true rfl) ?_
  refine ar_aload_n (pc := 0) d_Or_workOut_0 rfl ?_
  refine ar_iconst (pc := 1) d_Or_workOut_1 ?_
  refine ar_putI (pc := 2) gf_Or_69 d_Or_workOut_2 rfl (by first | rfl | exact sh_wheel (by omega) | exact sh_milk (by omega)) ⟨by omega, by omega⟩ ?_
  refine ar_iload_n (pc := 5) d_Or_workOut_5 rfl ?_
  refine ar_istore_n (pc := 6) d_Or_workOut_6 rfl (by decide) ?_
  rotate_left
  -- leaves: stop 7
  · rw [e0]; exact ar_loc h ⟨rfl, rfl, rfl, trivial⟩
/-! ===== the orders at 48 ===== -/
def ow_b (G : mm_T) (p : Nat → Int) (h : Nat) : mm_T := ms_I (ms_row G 53 80 p) 48 7 h
theorem ow_p_b (G : mm_T) (p : Nat → Int) (h : Nat) {j : Nat} (v : Int) (hj : j < 80) : ms_I (ow_b G p h) 53 j v = ow_b G (upp p j v) h := by
  unfold ow_b
  rw [mi_c _ _ _ _ _ (by omega), row_set _ _ _ _ _ hj]
  rfl
theorem ow_h_b (G : mm_T) (p : Nat → Int) (h : Nat) {k : Nat} {v : Int} (hk : v = k) : ms_I (ow_b G p h) 48 7 v = ow_b G p k := by
  unfold ow_b
  rw [mi_ss, hk]
theorem ow_r_b (G : mm_T) (p : Nat → Int) (h : Nat) {j : Nat} (hj : j < 80) : mm_I (ow_b G p h) 53 j = p j := by
  unfold ow_b
  rw [mi_n (by omega), row_at _ _ _ _ hj]
theorem ow_g_b (G : mm_T) (p : Nat → Int) (h : Nat) : mm_I (ow_b G p h) 48 7 = h := mi_s _ _ _ _
theorem cm_Or_put_b (X : gx_T) (d : Nat) (G : mm_T) {p : Nat → Int} {h : Nat} {v : Int} (hF : fx_R G) (hv : i3_in v) (hh : h < 80) : aw_M X (d + 1) mt_Or_put [av_r (some 48), av_i v] (ow_b G p h) 0 0 (fun r G' => r = none ∧ G' = ow_b G (upp p h v) (h + 1)) := by
  have g := ow_g_b G p h
  have hp := ow_p_b G p h v hh
  have hh2 := ow_h_b G (upp p h v) h (k := h + 1) (v := (h : Int) + 1) (by omega)
  have g2 := ow_g_b G (upp p h v) h
  have hF2 : fx_R (ow_b G p h) := hF
  have hF3 : fx_R (ow_b G (upp p h v) h) := hF
  generalize ow_b G p h = G1 at *
  generalize ow_b G (upp p h v) h = G2 at *
  generalize ow_b G (upp p h v) (h + 1) = G3 at *
  have hF := hF2
  refine aw_enter pf_Or_put (Nat.le_of_ble_eq_true rfl) ?_
  refine ar_aload_n (pc := 0) d_Or_put_0 rfl ?_
  refine ar_getIv (pc := 1) gf_Or_69 d_Or_put_1 (by first | rfl | exact sh_wheel (by omega) | exact sh_milk (by omega)) g (fun r_1 => ?_)
  refine ar_bipush (pc := 4) d_Or_put_4 (by decide) ?_
  refine ar_icmp_ge (pc := 6) 29 d_Or_put_6 (by decide) ⟨by omega, by omega⟩ ⟨by omega, by omega⟩ (fun h_6 => by exfalso; omega) (fun h_6 => ?_)
  refine ar_aload_n (pc := 9) d_Or_put_9 rfl ?_
  refine ar_getR (pc := 10) gf_Or_24 d_Or_put_10 (by first | rfl | exact sh_wheel (by omega) | exact sh_milk (by omega)) (hF _ _ _ rfl) ?_
  refine ar_aload_n (pc := 13) d_Or_put_13 rfl ?_
  refine ar_getIv (pc := 14) gf_Or_69 d_Or_put_14 (by first | rfl | exact sh_wheel (by omega) | exact sh_milk (by omega)) g (fun r_14 => ?_)
  refine ar_iload_n (pc := 17) d_Or_put_17 rfl ?_
  refine ar_iast (pc := 18) d_Or_put_18 rfl (h) (by omega) (by omega) ⟨by omega, by omega⟩ ?_
  rw [hp]
  refine ar_aload_n (pc := 19) d_Or_put_19 rfl ?_
  refine ar_dup (pc := 20) d_Or_put_20 rfl ?_
  refine ar_getIv (pc := 21) gf_Or_69 d_Or_put_21 (by first | rfl | exact sh_wheel (by omega) | exact sh_milk (by omega)) g2 (fun r_21 => ?_)
  refine ar_iconst (pc := 24) d_Or_put_24 ?_
  refine ar_iadd (pc := 25) d_Or_put_25 ?_
  refine ar_putI (pc := 26) gf_Or_69 d_Or_put_26 rfl (by first | rfl | exact sh_wheel (by omega) | exact sh_milk (by omega)) ⟨by omega, by omega⟩ ?_
  rw [hh2]
  refine ar_ret (pc := 29) d_Or_put_29 rfl ?_
  rotate_left
  -- leaves: ret 29
  · exact ⟨rfl, rfl⟩
theorem cm_Or_pick_b (X : gx_T) (d : Nat) (G : mm_T) {p : Nat → Int} {h : Nat} (hF : fx_R G) (hh : h < 80) : aw_M X (d + 1) mt_Or_pick [av_r (some 48)] (ow_b G p (h + 1)) 0 0 (fun r G' => (r = some (av_i (p h)) ∧ i3_in (p h)) ∧ G' = ow_b G p h) := by
  have g := ow_g_b G p (h + 1)
  have hh2 := ow_h_b G p (h + 1) (k := h) (v := ((h + 1 : Nat) : Int) - 1) (by omega)
  have g2 := ow_g_b G p h
  have g3 := ow_r_b G p h hh
  have hF2 : fx_R (ow_b G p (h + 1)) := hF
  have hF3 : fx_R (ow_b G p h) := hF
  generalize ow_b G p (h + 1) = G1 at *
  generalize ow_b G p h = G2 at *
  refine aw_enter pf_Or_pick (Nat.le_of_ble_eq_true rfl) ?_
  refine ar_aload_n (pc := 0) d_Or_pick_0 rfl ?_
  refine ar_getIv (pc := 1) gf_Or_69 d_Or_pick_1 (by first | rfl | exact sh_wheel (by omega) | exact sh_milk (by omega)) g (fun r_1 => ?_)
  refine ar_if_gt (pc := 4) 9 d_Or_pick_4 (by decide) ⟨by omega, by omega⟩ (fun h_4 => ?_) (fun h_4 => by exfalso; omega)
  refine ar_aload_n (pc := 9) d_Or_pick_9 rfl ?_
  refine ar_dup (pc := 10) d_Or_pick_10 rfl ?_
  refine ar_getIv (pc := 11) gf_Or_69 d_Or_pick_11 (by first | rfl | exact sh_wheel (by omega) | exact sh_milk (by omega)) g (fun r_11 => ?_)
  refine ar_iconst (pc := 14) d_Or_pick_14 ?_
  refine ar_isub (pc := 15) d_Or_pick_15 ?_
  refine ar_putI (pc := 16) gf_Or_69 d_Or_pick_16 rfl (by first | rfl | exact sh_wheel (by omega) | exact sh_milk (by omega)) ⟨by omega, by omega⟩ ?_
  rw [hh2]; have hF := hF3
  refine ar_aload_n (pc := 19) d_Or_pick_19 rfl ?_
  refine ar_getR (pc := 20) gf_Or_24 d_Or_pick_20 (by first | rfl | exact sh_wheel (by omega) | exact sh_milk (by omega)) (hF _ _ _ rfl) ?_
  refine ar_aload_n (pc := 23) d_Or_pick_23 rfl ?_
  refine ar_getIv (pc := 24) gf_Or_69 d_Or_pick_24 (by first | rfl | exact sh_wheel (by omega) | exact sh_milk (by omega)) g2 (fun r_24 => ?_)
  refine ar_ialdv (pc := 27) d_Or_pick_27 rfl (h) (by omega) (by omega) g3 (fun r_27 => ?_)
  refine ar_iret (pc := 28) d_Or_pick_28 rfl ?_
  rotate_left
  -- leaves: ret 28
  · exact ⟨⟨rfl, r_27⟩, rfl⟩
theorem cm_Or_apNot_b (X : gx_T) (d : Nat) (G : mm_T) {p : Nat → Int} {k : Nat} (hF : fx_R G) (hk : k < 80) : aw_M X (d + 2) mt_Or_applyToken [av_r (some 48), av_i 7] (ow_b G p (k + 1)) 0 0 (fun r G' => r = none ∧ G' = ow_b G (upp p k (if p k = 0 then 1 else 0)) (k + 1)) := by
  have hF1 := hF
  refine aw_enter pf_Or_applyToken (Nat.le_of_ble_eq_true rfl) ?_
  refine ar_iload_n (pc := 0) d_Or_applyToken_0 rfl ?_
  refine ar_bipush (pc := 1) d_Or_applyToken_1 (by decide) ?_
  refine ar_icmp_ne (pc := 3) 25 d_Or_applyToken_3 (by decide) ⟨by omega, by omega⟩ ⟨by omega, by omega⟩ (fun h_3 => by exfalso; omega) (fun h_3 => ?_)
  refine ar_aload_n (pc := 6) d_Or_applyToken_6 rfl ?_
  refine ar_aload_n (pc := 7) d_Or_applyToken_7 rfl ?_
  refine ac_virt (pc := 8) (N := mt_Or_pick) _ _ mv_Or_pick ml_Or_78 ck_3 d_Or_applyToken_8 (cm_Or_pick_b X _ G (p := p) (h := k) hF hk) (by first | rfl | exact sh_wheel (by omega) | exact sh_milk (by omega)) rfl rfl (Nat.le_of_ble_eq_true rfl) (Nat.le_of_eq (Nat.zero_add _)) (Nat.le_of_eq (Nat.zero_add _)) (fun r_8 G_8 h_8 => ?_)
  obtain ⟨⟨rfl, q8⟩, e8⟩ := h_8
  subst G_8
  refine ar_if_ne (pc := 11) 18 d_Or_applyToken_11 (by decide) ⟨by omega, by omega⟩ (fun h_11 => ?_) (fun h_11 => ?_)
  refine ar_iconst (pc := 18) d_Or_applyToken_18 ?_
  refine ac_virt (pc := 19) (N := mt_Or_put) _ _ mv_Or_put ml_Or_72 ck_3 d_Or_applyToken_19 (cm_Or_put_b X _ G (p := p) (h := k) hF ⟨by omega, by omega⟩ hk) (by first | rfl | exact sh_wheel (by omega) | exact sh_milk (by omega)) rfl rfl (Nat.le_of_ble_eq_true rfl) (Nat.le_of_eq (Nat.zero_add _)) (Nat.le_of_eq (Nat.zero_add _)) (fun r_19 G_19 h_19 => ?_)
  obtain ⟨rfl, e_19⟩ := h_19
  subst G_19
  refine ar_goto (pc := 22) 70 d_Or_applyToken_22 (by decide) ?_
  refine ar_ret (pc := 70) d_Or_applyToken_70 rfl ?_
  rotate_left
  refine ar_iconst (pc := 14) d_Or_applyToken_14 ?_
  refine ar_goto (pc := 15) 19 d_Or_applyToken_15 (by decide) ?_
  refine ac_virt (pc := 19) (N := mt_Or_put) _ _ mv_Or_put ml_Or_72 ck_3 d_Or_applyToken_19 (cm_Or_put_b X _ G (p := p) (h := k) hF ⟨by omega, by omega⟩ hk) (by first | rfl | exact sh_wheel (by omega) | exact sh_milk (by omega)) rfl rfl (Nat.le_of_ble_eq_true rfl) (Nat.le_of_eq (Nat.zero_add _)) (Nat.le_of_eq (Nat.zero_add _)) (fun r_19 G_19 h_19 => ?_)
  obtain ⟨rfl, e_19⟩ := h_19
  subst G_19
  refine ar_goto (pc := 22) 70 d_Or_applyToken_22 (by decide) ?_
  refine ar_ret (pc := 70) d_Or_applyToken_70 rfl ?_
  rotate_left
  -- leaves: ret 70, ret 70
  · rw [if_neg (by omega)]; exact ⟨rfl, rfl⟩
  · rw [if_pos (by omega)]; exact ⟨rfl, rfl⟩
theorem cm_Or_apName_b (X : gx_T) (d : Nat) (G : mm_T) {p : Nat → Int} {h : Nat} {t : Int} (hF : fx_R G) (ht : 8 ≤ t ∧ t ≤ 17) (hh : h < 80) : aw_M X (d + 2) mt_Or_applyToken [av_r (some 48), av_i t] (ow_b G p h) 0 0 (fun r G' => r = none ∧ G' = ow_b G (upp p h (mm_I G 52 t.toNat)) (h + 1)) := by
  refine aw_enter pf_Or_applyToken (Nat.le_of_ble_eq_true rfl) ?_
  refine ar_iload_n (pc := 0) d_Or_applyToken_0 rfl ?_
  refine ar_bipush (pc := 1) d_Or_applyToken_1 (by decide) ?_
  refine ar_icmp_ne (pc := 3) 25 d_Or_applyToken_3 (by decide) ⟨by omega, by omega⟩ ⟨by omega, by omega⟩ (fun h_3 => ?_) (fun h_3 => by exfalso; omega)
  refine ar_iload_n (pc := 25) d_Or_applyToken_25 rfl ?_
  refine ar_bipush (pc := 26) d_Or_applyToken_26 (by decide) ?_
  refine ar_icmp_ge (pc := 28) 50 d_Or_applyToken_28 (by decide) ⟨by omega, by omega⟩ ⟨by omega, by omega⟩ (fun h_28 => by exfalso; omega) (fun h_28 => ?_)
  refine ar_iload_n (pc := 31) d_Or_applyToken_31 rfl ?_
  refine ar_bipush (pc := 32) d_Or_applyToken_32 (by decide) ?_
  refine ar_icmp_le (pc := 34) 50 d_Or_applyToken_34 (by decide) ⟨by omega, by omega⟩ ⟨by omega, by omega⟩ (fun h_34 => by exfalso; omega) (fun h_34 => ?_)
  refine ar_aload_n (pc := 37) d_Or_applyToken_37 rfl ?_
  refine ar_aload_n (pc := 38) d_Or_applyToken_38 rfl ?_
  refine ar_getR (pc := 39) gf_Or_21 d_Or_applyToken_39 (by first | rfl | exact sh_wheel (by omega) | exact sh_milk (by omega)) (hF _ _ _ rfl) ?_
  refine ar_iload_n (pc := 42) d_Or_applyToken_42 rfl ?_
  refine ar_ialdv (pc := 43) d_Or_applyToken_43 rfl _ (Int.toNat_of_nonneg (by omega)).symm (by omega) (show _ = mm_I G 52 t.toNat from rfl) (fun r_43 => ?_)
  refine ac_virt (pc := 44) (N := mt_Or_put) _ _ mv_Or_put ml_Or_72 ck_3 d_Or_applyToken_44 (cm_Or_put_b X _ G (p := p) (h := h) hF r_43 hh) (by first | rfl | exact sh_wheel (by omega) | exact sh_milk (by omega)) rfl rfl (Nat.le_of_ble_eq_true rfl) (Nat.le_of_eq (Nat.zero_add _)) (Nat.le_of_eq (Nat.zero_add _)) (fun r_44 G_44 h_44 => ?_)
  obtain ⟨rfl, e_44⟩ := h_44
  subst G_44
  refine ar_goto (pc := 47) 70 d_Or_applyToken_47 (by decide) ?_
  refine ar_ret (pc := 70) d_Or_applyToken_70 rfl ?_
  rotate_left
  -- leaves: ret 70
  · exact ⟨rfl, rfl⟩
theorem cm_Or_apTwo_b (X : gx_T) (d : Nat) (G : mm_T) {p : Nat → Int} {k : Nat} {t : Int} (hF : fx_R G) (ht : wf_b (-1 - t)) (hk : k < 79) : aw_M X (d + 2) mt_Or_applyToken [av_r (some 48), av_i t] (ow_b G p (k + 2)) 0 0 (fun r G' => r = none ∧ G' = ow_b G (upp p k (jn_v t (p k) (p (k + 1)))) (k + 1)) := by
  unfold wf_b at ht
  have h3 : t ≠ 7 := by omega
  have h4 : 18 ≤ t ∨ t ≤ 7 := by omega
  have h5 : i3_in t := ⟨by omega, by omega⟩
  clear ht
  refine aw_enter pf_Or_applyToken (Nat.le_of_ble_eq_true rfl) ?_
  refine ar_iload_n (pc := 0) d_Or_applyToken_0 rfl ?_
  refine ar_bipush (pc := 1) d_Or_applyToken_1 (by decide) ?_
  refine ar_icmp_ne (pc := 3) 25 d_Or_applyToken_3 (by decide) ⟨by omega, by omega⟩ ⟨by omega, by omega⟩ (fun h_3 => ?_) (fun h_3 => by exfalso; omega)
  refine ar_iload_n (pc := 25) d_Or_applyToken_25 rfl ?_
  refine ar_bipush (pc := 26) d_Or_applyToken_26 (by decide) ?_
  refine ar_icmp_ge (pc := 28) 50 d_Or_applyToken_28 (by decide) ⟨by omega, by omega⟩ ⟨by omega, by omega⟩ (fun h_28 => ?_) (fun h_28 => ?_)
  rotate_left
  refine ar_iload_n (pc := 31) d_Or_applyToken_31 rfl ?_
  refine ar_bipush (pc := 32) d_Or_applyToken_32 (by decide) ?_
  refine ar_icmp_le (pc := 34) 50 d_Or_applyToken_34 (by decide) ⟨by omega, by omega⟩ ⟨by omega, by omega⟩ (fun h_34 => ?_) (fun h_34 => by exfalso; omega)
  rotate_left
  -- leaves: stop 50, stop 50
  · skip
    refine ar_aload_n (pc := 50) d_Or_applyToken_50 rfl ?_
    refine ac_virt (pc := 51) (N := mt_Or_pick) _ _ mv_Or_pick ml_Or_78 ck_3 d_Or_applyToken_51 (cm_Or_pick_b X _ G (p := p) (h := k + 1) hF (by omega)) (by first | rfl | exact sh_wheel (by omega) | exact sh_milk (by omega)) rfl rfl (Nat.le_of_ble_eq_true rfl) (Nat.le_of_eq (Nat.zero_add _)) (Nat.le_of_eq (Nat.zero_add _)) (fun r_51 G_51 h_51 => ?_)
    obtain ⟨⟨rfl, q51⟩, e51⟩ := h_51
    subst G_51
    refine ar_istore_n (pc := 54) d_Or_applyToken_54 rfl (by decide) ?_
    refine ar_aload_n (pc := 55) d_Or_applyToken_55 rfl ?_
    refine ac_virt (pc := 56) (N := mt_Or_pick) _ _ mv_Or_pick ml_Or_78 ck_3 d_Or_applyToken_56 (cm_Or_pick_b X _ G (p := p) (h := k) hF (by omega)) (by first | rfl | exact sh_wheel (by omega) | exact sh_milk (by omega)) rfl rfl (Nat.le_of_ble_eq_true rfl) (Nat.le_of_eq (Nat.zero_add _)) (Nat.le_of_eq (Nat.zero_add _)) (fun r_56 G_56 h_56 => ?_)
    obtain ⟨⟨rfl, q56⟩, e56⟩ := h_56
    subst G_56
    refine ar_istore_n (pc := 59) d_Or_applyToken_59 rfl (by decide) ?_
    refine ar_aload_n (pc := 60) d_Or_applyToken_60 rfl ?_
    refine ar_iload_n (pc := 61) d_Or_applyToken_61 rfl ?_
    refine ar_iload_n (pc := 62) d_Or_applyToken_62 rfl ?_
    refine ar_iload_n (pc := 63) d_Or_applyToken_63 rfl ?_
    refine ac_stat (pc := 64) (N := mt_Or_join) _ _ sv_Or_join ml_Or_82 d_Or_applyToken_64 (cm_Or_join X _ _ h5 q56 q51) rfl rfl (Nat.le_of_ble_eq_true rfl) (Nat.le_of_eq (Nat.zero_add _)) (Nat.le_of_eq (Nat.zero_add _)) (fun r_64 G_64 h_64 => ?_)
    obtain ⟨rfl, e_64⟩ := h_64
    subst G_64
    refine ac_virt (pc := 67) (N := mt_Or_put) _ _ mv_Or_put ml_Or_72 ck_3 d_Or_applyToken_67 (cm_Or_put_b X _ G (p := p) (h := k) hF (jn_in _ _ _) (by omega)) (by first | rfl | exact sh_wheel (by omega) | exact sh_milk (by omega)) rfl rfl (Nat.le_of_ble_eq_true rfl) (Nat.le_of_eq (Nat.zero_add _)) (Nat.le_of_eq (Nat.zero_add _)) (fun r_67 G_67 h_67 => ?_)
    obtain ⟨rfl, e_67⟩ := h_67
    subst G_67
    refine ar_ret (pc := 70) d_Or_applyToken_70 rfl ?_
    rotate_left
    -- leaves: ret 70
    · exact ⟨rfl, rfl⟩
  · skip
    refine ar_aload_n (pc := 50) d_Or_applyToken_50 rfl ?_
    refine ac_virt (pc := 51) (N := mt_Or_pick) _ _ mv_Or_pick ml_Or_78 ck_3 d_Or_applyToken_51 (cm_Or_pick_b X _ G (p := p) (h := k + 1) hF (by omega)) (by first | rfl | exact sh_wheel (by omega) | exact sh_milk (by omega)) rfl rfl (Nat.le_of_ble_eq_true rfl) (Nat.le_of_eq (Nat.zero_add _)) (Nat.le_of_eq (Nat.zero_add _)) (fun r_51 G_51 h_51 => ?_)
    obtain ⟨⟨rfl, q51⟩, e51⟩ := h_51
    subst G_51
    refine ar_istore_n (pc := 54) d_Or_applyToken_54 rfl (by decide) ?_
    refine ar_aload_n (pc := 55) d_Or_applyToken_55 rfl ?_
    refine ac_virt (pc := 56) (N := mt_Or_pick) _ _ mv_Or_pick ml_Or_78 ck_3 d_Or_applyToken_56 (cm_Or_pick_b X _ G (p := p) (h := k) hF (by omega)) (by first | rfl | exact sh_wheel (by omega) | exact sh_milk (by omega)) rfl rfl (Nat.le_of_ble_eq_true rfl) (Nat.le_of_eq (Nat.zero_add _)) (Nat.le_of_eq (Nat.zero_add _)) (fun r_56 G_56 h_56 => ?_)
    obtain ⟨⟨rfl, q56⟩, e56⟩ := h_56
    subst G_56
    refine ar_istore_n (pc := 59) d_Or_applyToken_59 rfl (by decide) ?_
    refine ar_aload_n (pc := 60) d_Or_applyToken_60 rfl ?_
    refine ar_iload_n (pc := 61) d_Or_applyToken_61 rfl ?_
    refine ar_iload_n (pc := 62) d_Or_applyToken_62 rfl ?_
    refine ar_iload_n (pc := 63) d_Or_applyToken_63 rfl ?_
    refine ac_stat (pc := 64) (N := mt_Or_join) _ _ sv_Or_join ml_Or_82 d_Or_applyToken_64 (cm_Or_join X _ _ h5 q56 q51) rfl rfl (Nat.le_of_ble_eq_true rfl) (Nat.le_of_eq (Nat.zero_add _)) (Nat.le_of_eq (Nat.zero_add _)) (fun r_64 G_64 h_64 => ?_)
    obtain ⟨rfl, e_64⟩ := h_64
    subst G_64
    refine ac_virt (pc := 67) (N := mt_Or_put) _ _ mv_Or_put ml_Or_72 ck_3 d_Or_applyToken_67 (cm_Or_put_b X _ G (p := p) (h := k) hF (jn_in _ _ _) (by omega)) (by first | rfl | exact sh_wheel (by omega) | exact sh_milk (by omega)) rfl rfl (Nat.le_of_ble_eq_true rfl) (Nat.le_of_eq (Nat.zero_add _)) (Nat.le_of_eq (Nat.zero_add _)) (fun r_67 G_67 h_67 => ?_)
    obtain ⟨rfl, e_67⟩ := h_67
    subst G_67
    refine ar_ret (pc := 70) d_Or_applyToken_70 rfl ?_
    rotate_left
    -- leaves: ret 70
    · exact ⟨rfl, rfl⟩
theorem lp_Or_workOut_b (X : gx_T) (d : Nat) (G : mm_T) {e : Nat} (hF : fx_R G) (he : e ≤ 500) : ∀ n a p h, a + n = e → h ≤ 80 → wf_p (mm_I G 49) n a h → aw_W X mt_Or_workOut (d + 3) 7 [(0, some (av_r (some 48))), (2, some (av_i (e : Int))), (3, some (av_i (a : Int)))] [] (ow_b G p h) 0 0 (fun r G' => (r = some (av_i (ev_n (fun z => mm_I G 52 (-1 - z).toNat) (mm_I G 49) n a p h 0)) ∧ i3_in (ev_n (fun z => mm_I G 52 (-1 - z).toNat) (mm_I G 49) n a p h 0)) ∧ G' = ow_b G (ev_n (fun z => mm_I G 52 (-1 - z).toNat) (mm_I G 49) n a p h) 0) := by
  intro n
  induction n with
  | zero =>
    intro a p h ha hh hw
    have hw : h = 1 := hw
    subst hw
    refine ar_iload_n (pc := 7) d_Or_workOut_7 rfl ?_
    refine ar_iload_n (pc := 8) d_Or_workOut_8 rfl ?_
    refine ar_icmp_ge (pc := 9) 48 d_Or_workOut_9 (by decide) ⟨by omega, by omega⟩ ⟨by omega, by omega⟩ (fun h_9 => ?_) (fun h_9 => by exfalso; omega)
    refine ar_aload_n (pc := 48) d_Or_workOut_48 rfl ?_
    refine ac_virt (pc := 49) (N := mt_Or_pick) _ _ mv_Or_pick ml_Or_78 ck_3 d_Or_workOut_49 (cm_Or_pick_b X _ G (p := p) (h := 0) hF (by omega)) (by first | rfl | exact sh_wheel (by omega) | exact sh_milk (by omega)) rfl rfl (Nat.le_of_ble_eq_true rfl) (Nat.le_of_eq (Nat.zero_add _)) (Nat.le_of_eq (Nat.zero_add _)) (fun r_49 G_49 h_49 => ?_)
    obtain ⟨⟨rfl, q49⟩, e49⟩ := h_49
    subst G_49
    refine ar_iret (pc := 52) d_Or_workOut_52 rfl ?_
    rotate_left
    -- leaves: ret 52
    · exact ⟨⟨rfl, q49⟩, rfl⟩
  | succ n ih =>
    intro a p h ha hh hw
    rw [wf_p] at hw
    rw [ev_n]
    rcases hw with ⟨h1, h2, h3⟩ | ⟨h1, h2, h3⟩ | ⟨h1, h2, h3⟩
    · by_cases hz : 0 ≤ mm_I G 49 a
      · have i1 := ih (a + 1) (upp p h (mm_I G 49 a)) (h + 1) (by omega) (by omega) h3
        have es : ev_s (fun z => mm_I G 52 (-1 - z).toNat) (mm_I G 49 a) p h = (upp p h (mm_I G 49 a), h + 1) := by unfold ev_s; rw [if_pos hz]
        rw [es]
        clear ih es h3
        refine ar_iload_n (pc := 7) d_Or_workOut_7 rfl ?_
        refine ar_iload_n (pc := 8) d_Or_workOut_8 rfl ?_
        refine ar_icmp_ge (pc := 9) 48 d_Or_workOut_9 (by decide) ⟨by omega, by omega⟩ ⟨by omega, by omega⟩ (fun h_9 => by exfalso; omega) (fun h_9 => ?_)
        refine ar_aload_n (pc := 12) d_Or_workOut_12 rfl ?_
        refine ar_getR (pc := 13) gf_Or_9 d_Or_workOut_13 (by first | rfl | exact sh_wheel (by omega) | exact sh_milk (by omega)) (hF _ _ _ rfl) ?_
        refine ar_iload_n (pc := 16) d_Or_workOut_16 rfl ?_
        refine ar_ialdv (pc := 17) d_Or_workOut_17 rfl (a) (by omega) (by omega) (show _ = mm_I G 49 a from rfl) (fun r_17 => ?_)
        refine ar_istore (pc := 18) d_Or_workOut_18 rfl (by decide) ?_
        refine ar_iload (pc := 20) d_Or_workOut_20 rfl ?_
        refine ar_if_lt (pc := 22) 34 d_Or_workOut_22 (by decide) ⟨by omega, by omega⟩ (fun h_22 => by exfalso; omega) (fun h_22 => ?_)
        refine ar_aload_n (pc := 25) d_Or_workOut_25 rfl ?_
        refine ar_iload (pc := 26) d_Or_workOut_26 rfl ?_
        refine ac_virt (pc := 28) (N := mt_Or_put) _ _ mv_Or_put ml_Or_72 ck_3 d_Or_workOut_28 (cm_Or_put_b X _ G (p := p) (h := h) hF r_17 h2) (by first | rfl | exact sh_wheel (by omega) | exact sh_milk (by omega)) rfl rfl (Nat.le_of_ble_eq_true rfl) (Nat.le_of_eq (Nat.zero_add _)) (Nat.le_of_eq (Nat.zero_add _)) (fun r_28 G_28 h_28 => ?_)
        obtain ⟨rfl, e_28⟩ := h_28
        subst G_28
        refine ar_goto (pc := 31) 42 d_Or_workOut_31 (by decide) ?_
        refine ar_iinc (pc := 42) d_Or_workOut_42 rfl rfl (by decide) ?_
        refine ar_goto (pc := 45) 7 d_Or_workOut_45 (by decide) ?_
        rotate_left
        -- leaves: stop 7
        · exact ar_loc i1 ⟨rfl, rfl, li_i rfl (by omega), trivial⟩
      · have i1 := ih (a + 1) (upp p h (mm_I G 52 (-1 - mm_I G 49 a).toNat)) (h + 1) (by omega) (by omega) h3
        have es : ev_s (fun z => mm_I G 52 (-1 - z).toNat) (mm_I G 49 a) p h = (upp p h (mm_I G 52 (-1 - mm_I G 49 a).toNat), h + 1) := by unfold ev_s; rw [if_neg hz, if_neg (by omega), if_pos (by omega)]
        rw [es]
        clear ih es h3
        refine ar_iload_n (pc := 7) d_Or_workOut_7 rfl ?_
        refine ar_iload_n (pc := 8) d_Or_workOut_8 rfl ?_
        refine ar_icmp_ge (pc := 9) 48 d_Or_workOut_9 (by decide) ⟨by omega, by omega⟩ ⟨by omega, by omega⟩ (fun h_9 => by exfalso; omega) (fun h_9 => ?_)
        refine ar_aload_n (pc := 12) d_Or_workOut_12 rfl ?_
        refine ar_getR (pc := 13) gf_Or_9 d_Or_workOut_13 (by first | rfl | exact sh_wheel (by omega) | exact sh_milk (by omega)) (hF _ _ _ rfl) ?_
        refine ar_iload_n (pc := 16) d_Or_workOut_16 rfl ?_
        refine ar_ialdv (pc := 17) d_Or_workOut_17 rfl (a) (by omega) (by omega) (show _ = mm_I G 49 a from rfl) (fun r_17 => ?_)
        refine ar_istore (pc := 18) d_Or_workOut_18 rfl (by decide) ?_
        refine ar_iload (pc := 20) d_Or_workOut_20 rfl ?_
        refine ar_if_lt (pc := 22) 34 d_Or_workOut_22 (by decide) ⟨by omega, by omega⟩ (fun h_22 => ?_) (fun h_22 => by exfalso; omega)
        refine ar_aload_n (pc := 34) d_Or_workOut_34 rfl ?_
        refine ar_iload (pc := 35) d_Or_workOut_35 rfl ?_
        refine ar_iconst (pc := 37) d_Or_workOut_37 ?_
        refine ar_ixor (pc := 38) d_Or_workOut_38 ?_
        refine ar_mod (ixor_m1 r_17) ?_
        refine ac_virt (pc := 39) (N := mt_Or_applyToken) _ _ mv_Or_applyToken ml_Or_75 ck_3 d_Or_workOut_39 (cm_Or_apName_b X _ G (p := p) (h := h) (t := -1 - mm_I G 49 a) hF (by omega) h2) (by first | rfl | exact sh_wheel (by omega) | exact sh_milk (by omega)) rfl rfl (Nat.le_of_ble_eq_true rfl) (Nat.le_of_eq (Nat.zero_add _)) (Nat.le_of_eq (Nat.zero_add _)) (fun r_39 G_39 h_39 => ?_)
        obtain ⟨rfl, e_39⟩ := h_39
        subst G_39
        refine ar_iinc (pc := 42) d_Or_workOut_42 rfl rfl (by decide) ?_
        refine ar_goto (pc := 45) 7 d_Or_workOut_45 (by decide) ?_
        rotate_left
        -- leaves: stop 7
        · exact ar_loc i1 ⟨rfl, rfl, li_i rfl (by omega), trivial⟩
    · obtain ⟨k, rfl⟩ : ∃ k, h = k + 1 := ⟨h - 1, by omega⟩
      have i1 := ih (a + 1) (upp p k (if p k = 0 then 1 else 0)) (k + 1) (by omega) (by omega) h3
      have es : ev_s (fun z => mm_I G 52 (-1 - z).toNat) (mm_I G 49 a) p (k + 1) = (upp p k (if p k = 0 then 1 else 0), k + 1) := by unfold ev_s; rw [if_neg (by omega), if_pos (by omega)]; rfl
      rw [es]
      clear ih es h3
      refine ar_iload_n (pc := 7) d_Or_workOut_7 rfl ?_
      refine ar_iload_n (pc := 8) d_Or_workOut_8 rfl ?_
      refine ar_icmp_ge (pc := 9) 48 d_Or_workOut_9 (by decide) ⟨by omega, by omega⟩ ⟨by omega, by omega⟩ (fun h_9 => by exfalso; omega) (fun h_9 => ?_)
      refine ar_aload_n (pc := 12) d_Or_workOut_12 rfl ?_
      refine ar_getR (pc := 13) gf_Or_9 d_Or_workOut_13 (by first | rfl | exact sh_wheel (by omega) | exact sh_milk (by omega)) (hF _ _ _ rfl) ?_
      refine ar_iload_n (pc := 16) d_Or_workOut_16 rfl ?_
      refine ar_ialdv (pc := 17) d_Or_workOut_17 rfl (a) (by omega) (by omega) (show _ = mm_I G 49 a from rfl) (fun r_17 => ?_)
      refine ar_istore (pc := 18) d_Or_workOut_18 rfl (by decide) ?_
      refine ar_iload (pc := 20) d_Or_workOut_20 rfl ?_
      refine ar_if_lt (pc := 22) 34 d_Or_workOut_22 (by decide) ⟨by omega, by omega⟩ (fun h_22 => ?_) (fun h_22 => by exfalso; omega)
      refine ar_aload_n (pc := 34) d_Or_workOut_34 rfl ?_
      refine ar_iload (pc := 35) d_Or_workOut_35 rfl ?_
      refine ar_iconst (pc := 37) d_Or_workOut_37 ?_
      refine ar_ixor (pc := 38) d_Or_workOut_38 ?_
      refine ar_mod ((ixor_m1 r_17).trans (congrArg Int32.ofInt (show _ = 7 by omega))) ?_
      refine ac_virt (pc := 39) (N := mt_Or_applyToken) _ _ mv_Or_applyToken ml_Or_75 ck_3 d_Or_workOut_39 (cm_Or_apNot_b X _ G (p := p) (k := k) hF (by omega)) (by first | rfl | exact sh_wheel (by omega) | exact sh_milk (by omega)) rfl rfl (Nat.le_of_ble_eq_true rfl) (Nat.le_of_eq (Nat.zero_add _)) (Nat.le_of_eq (Nat.zero_add _)) (fun r_39 G_39 h_39 => ?_)
      obtain ⟨rfl, e_39⟩ := h_39
      subst G_39
      refine ar_iinc (pc := 42) d_Or_workOut_42 rfl rfl (by decide) ?_
      refine ar_goto (pc := 45) 7 d_Or_workOut_45 (by decide) ?_
      rotate_left
      -- leaves: stop 7
      · exact ar_loc i1 ⟨rfl, rfl, li_i rfl (by omega), trivial⟩
    · obtain ⟨k, rfl⟩ : ∃ k, h = k + 2 := ⟨h - 2, by omega⟩
      have i1 := ih (a + 1) (upp p k (jn_v (-1 - mm_I G 49 a) (p k) (p (k + 1)))) (k + 1) (by omega) (by omega) h3
      have hb := h1
      unfold wf_b at hb
      have hneg : mm_I G 49 a < 0 := by omega
      have es : ev_s (fun z => mm_I G 52 (-1 - z).toNat) (mm_I G 49 a) p (k + 2) = (upp p k (jn_v (-1 - mm_I G 49 a) (p k) (p (k + 1))), k + 1) := by unfold ev_s; rw [if_neg (by omega), if_neg (by omega), if_neg (by omega)]; rfl
      rw [es]
      clear ih es h3 hb
      have h1' : wf_b (-1 - (-1 - mm_I G 49 a)) := by rw [show -1 - (-1 - mm_I G 49 a) = mm_I G 49 a by omega]; exact h1
      refine ar_iload_n (pc := 7) d_Or_workOut_7 rfl ?_
      refine ar_iload_n (pc := 8) d_Or_workOut_8 rfl ?_
      refine ar_icmp_ge (pc := 9) 48 d_Or_workOut_9 (by decide) ⟨by omega, by omega⟩ ⟨by omega, by omega⟩ (fun h_9 => by exfalso; omega) (fun h_9 => ?_)
      refine ar_aload_n (pc := 12) d_Or_workOut_12 rfl ?_
      refine ar_getR (pc := 13) gf_Or_9 d_Or_workOut_13 (by first | rfl | exact sh_wheel (by omega) | exact sh_milk (by omega)) (hF _ _ _ rfl) ?_
      refine ar_iload_n (pc := 16) d_Or_workOut_16 rfl ?_
      refine ar_ialdv (pc := 17) d_Or_workOut_17 rfl (a) (by omega) (by omega) (show _ = mm_I G 49 a from rfl) (fun r_17 => ?_)
      refine ar_istore (pc := 18) d_Or_workOut_18 rfl (by decide) ?_
      refine ar_iload (pc := 20) d_Or_workOut_20 rfl ?_
      refine ar_if_lt (pc := 22) 34 d_Or_workOut_22 (by decide) ⟨by omega, by omega⟩ (fun h_22 => ?_) (fun h_22 => by exfalso; omega)
      refine ar_aload_n (pc := 34) d_Or_workOut_34 rfl ?_
      refine ar_iload (pc := 35) d_Or_workOut_35 rfl ?_
      refine ar_iconst (pc := 37) d_Or_workOut_37 ?_
      refine ar_ixor (pc := 38) d_Or_workOut_38 ?_
      refine ar_mod (ixor_m1 r_17) ?_
      refine ac_virt (pc := 39) (N := mt_Or_applyToken) _ _ mv_Or_applyToken ml_Or_75 ck_3 d_Or_workOut_39 (cm_Or_apTwo_b X _ G (p := p) (k := k) (t := -1 - mm_I G 49 a) hF h1' (by omega)) (by first | rfl | exact sh_wheel (by omega) | exact sh_milk (by omega)) rfl rfl (Nat.le_of_ble_eq_true rfl) (Nat.le_of_eq (Nat.zero_add _)) (Nat.le_of_eq (Nat.zero_add _)) (fun r_39 G_39 h_39 => ?_)
      obtain ⟨rfl, e_39⟩ := h_39
      subst G_39
      refine ar_iinc (pc := 42) d_Or_workOut_42 rfl rfl (by decide) ?_
      refine ar_goto (pc := 45) 7 d_Or_workOut_45 (by decide) ?_
      rotate_left
      -- leaves: stop 7
      · exact ar_loc i1 ⟨rfl, rfl, li_i rfl (by omega), trivial⟩
theorem cm_Or_workOut_b (X : gx_T) (d : Nat) (G : mm_T) {a n e : Nat} (hF : fx_R G) (he : e ≤ 500) (ha : a + n = e) (hw : wf_p (mm_I G 49) n a 0) : aw_M X (d + 3) mt_Or_workOut [av_r (some 48), av_i (a : Int), av_i (e : Int)] G 0 0 (fun r G' => (r = some (av_i (ev_n (fun z => mm_I G 52 (-1 - z).toNat) (mm_I G 49) n a (mm_I G 53) 0 0)) ∧ i3_in (ev_n (fun z => mm_I G 52 (-1 - z).toNat) (mm_I G 49) n a (mm_I G 53) 0 0)) ∧ G' = ow_b G (ev_n (fun z => mm_I G 52 (-1 - z).toNat) (mm_I G 49) n a (mm_I G 53) 0) 0) := by
  have h := lp_Or_workOut_b X d G hF he n a (mm_I G 53) 0 ha (by omega) hw
  have e0 : ms_I G 48 7 0 = ow_b G (mm_I G 53) 0 := by unfold ow_b; rw [row_id]; rfl
  refine aw_enter pf_Or_workOut (Nat.le_of_ble_eq_true rfl) ?_
  refine ar_aload_n (pc := 0) d_Or_workOut_0 rfl ?_
  refine ar_iconst (pc := 1) d_Or_workOut_1 ?_
  refine ar_putI (pc := 2) gf_Or_69 d_Or_workOut_2 rfl (by first | rfl | exact sh_wheel (by omega) | exact sh_milk (by omega)) ⟨by omega, by omega⟩ ?_
  refine ar_iload_n (pc := 5) d_Or_workOut_5 rfl ?_
  refine ar_istore_n (pc := 6) d_Or_workOut_6 rfl (by decide) ?_
  rotate_left
  -- leaves: stop 7
  · rw [e0]; exact ar_loc h ⟨rfl, rfl, rfl, trivial⟩
