/-! ===== the class: public methods without loops ===== -/
theorem mr_I (G : mm_T) (a k : Nat) (v : Option Nat) : mm_I (ms_R G a k v) = mm_I G := rfl
theorem mn_I (G : mm_T) {a b : Nat} (j : Nat) (h : b ≠ a) : mm_I (ms_N G a) b j = mm_I G b j := by show (if b = a then _ else _) = _; rw [if_neg h]; rfl
theorem mn_R (G : mm_T) {a b : Nat} (j : Nat) (h : b ≠ a) : mm_R (ms_N G a) b j = mm_R G b j := by show (if b = a then _ else _) = _; rw [if_neg h]; rfl
theorem cm_K_air (X : gx_T) (d : Nat) (G : mm_T) {s a : Int} (hF : fx_R G) (hs : i3_in s) (ha : i3_in a) : aw_M X (d + 2) mt_K_air [av_r (some 0), av_i s, av_i a] G 0 0 (fun r G' => (0 ≤ s ∧ s ≤ 23 ∧ 0 ≤ a ∧ a ≤ 9) ∧ r = some (av_i 1) ∧ G' = ms_I (ms_I G 2 s.toNat a) 24 11 1 ∨ ¬ (0 ≤ s ∧ s ≤ 23 ∧ 0 ≤ a ∧ a ≤ 9) ∧ r = some (av_i 0) ∧ G' = G) := by
  refine aw_enter pf_K_air (Nat.le_of_ble_eq_true rfl) ?_
  refine ar_iload_n (pc := 0) d_K_air_0 rfl ?_
  refine ar_bipush (pc := 1) d_K_air_1 (by decide) ?_
  refine ac_stat (pc := 3) (N := mt_K_isUpTo) _ _ sv_K_isUpTo ml_K_87 d_K_air_3 (cm_K_isUpTo _ _ _ ⟨by omega, by omega⟩ ⟨by omega, by omega⟩) rfl rfl (Nat.le_of_ble_eq_true rfl) (Nat.le_of_eq (Nat.zero_add _)) (Nat.le_of_eq (Nat.zero_add _)) (fun r_3 G_3 h_3 => ?_)
  obtain ⟨rfl, e_3⟩ := h_3
  subst G_3
  refine ar_if_eq (pc := 6) 18 d_K_air_6 (by decide) ⟨by omega, by omega⟩ (fun h_6 => ?_) (fun h_6 => ?_)
  refine ar_iconst (pc := 18) d_K_air_18 ?_
  refine ar_zret (pc := 19) d_K_air_19 rfl (by omega) ?_
  rotate_left
  refine ar_iload_n (pc := 9) d_K_air_9 rfl ?_
  refine ar_bipush (pc := 10) d_K_air_10 (by decide) ?_
  refine ac_stat (pc := 12) (N := mt_K_isUpTo) _ _ sv_K_isUpTo ml_K_87 d_K_air_12 (cm_K_isUpTo _ _ _ ⟨by omega, by omega⟩ ⟨by omega, by omega⟩) rfl rfl (Nat.le_of_ble_eq_true rfl) (Nat.le_of_eq (Nat.zero_add _)) (Nat.le_of_eq (Nat.zero_add _)) (fun r_12 G_12 h_12 => ?_)
  obtain ⟨rfl, e_12⟩ := h_12
  subst G_12
  refine ar_if_ne (pc := 15) 20 d_K_air_15 (by decide) ⟨by omega, by omega⟩ (fun h_15 => ?_) (fun h_15 => ?_)
  refine ar_aload_n (pc := 20) d_K_air_20 rfl ?_
  refine ar_getR (pc := 21) gf_K_10 d_K_air_21 (by first | rfl | exact sh_wheel (by omega) | exact sh_milk (by omega)) (hF _ _ _ rfl) ?_
  refine ar_getR (pc := 24) gf_K_91 d_K_air_24 (by first | rfl | exact sh_wheel (by omega) | exact sh_milk (by omega)) (hF _ _ _ rfl) ?_
  refine ar_iload_n (pc := 27) d_K_air_27 rfl ?_
  refine ar_iload_n (pc := 28) d_K_air_28 rfl ?_
  refine ar_iast (pc := 29) d_K_air_29 rfl _ (Int.toNat_of_nonneg (by omega)).symm (by omega) ⟨by omega, by omega⟩ ?_
  refine ar_aload_n (pc := 30) d_K_air_30 rfl ?_
  refine ar_getR (pc := 31) gf_K_52 d_K_air_31 (by first | rfl | exact sh_wheel (by omega) | exact sh_milk (by omega)) (hF _ _ _ rfl) ?_
  refine ac_virt (pc := 34) (N := mt_Pl_spoil) _ _ mv_Pl_spoil ml_K_94 ck_4 d_K_air_34 (cm_Pl_spoil _ _ _) (by first | rfl | exact sh_wheel (by omega) | exact sh_milk (by omega)) rfl rfl (Nat.le_of_ble_eq_true rfl) (Nat.le_of_eq (Nat.zero_add _)) (Nat.le_of_eq (Nat.zero_add _)) (fun r_34 G_34 h_34 => ?_)
  obtain ⟨rfl, e_34⟩ := h_34
  subst G_34
  refine ar_iconst (pc := 37) d_K_air_37 ?_
  refine ar_zret (pc := 38) d_K_air_38 rfl (by omega) ?_
  rotate_left
  refine ar_iconst (pc := 18) d_K_air_18 ?_
  refine ar_zret (pc := 19) d_K_air_19 rfl (by omega) ?_
  rotate_left
  -- leaves: ret 19, ret 38, ret 19
  all_goals first | exact Or.inr ⟨by omega, rfl, rfl⟩ | exact Or.inl ⟨by omega, rfl, rfl⟩
theorem cm_K_damp (X : gx_T) (d : Nat) (G : mm_T) {s a : Int} (hF : fx_R G) (hs : i3_in s) (ha : i3_in a) : aw_M X (d + 2) mt_K_damp [av_r (some 0), av_i s, av_i a] G 0 0 (fun r G' => (0 ≤ s ∧ s ≤ 3 ∧ 0 ≤ a ∧ a ≤ 99) ∧ r = some (av_i 1) ∧ G' = ms_I G 3 s.toNat a ∨ ¬ (0 ≤ s ∧ s ≤ 3 ∧ 0 ≤ a ∧ a ≤ 99) ∧ r = some (av_i 0) ∧ G' = G) := by
  refine aw_enter pf_K_damp (Nat.le_of_ble_eq_true rfl) ?_
  refine ar_iload_n (pc := 0) d_K_damp_0 rfl ?_
  refine ar_iconst (pc := 1) d_K_damp_1 ?_
  refine ac_stat (pc := 2) (N := mt_K_isUpTo) _ _ sv_K_isUpTo ml_K_87 d_K_damp_2 (cm_K_isUpTo _ _ _ ⟨by omega, by omega⟩ ⟨by omega, by omega⟩) rfl rfl (Nat.le_of_ble_eq_true rfl) (Nat.le_of_eq (Nat.zero_add _)) (Nat.le_of_eq (Nat.zero_add _)) (fun r_2 G_2 h_2 => ?_)
  obtain ⟨rfl, e_2⟩ := h_2
  subst G_2
  refine ar_if_eq (pc := 5) 17 d_K_damp_5 (by decide) ⟨by omega, by omega⟩ (fun h_5 => ?_) (fun h_5 => ?_)
  refine ar_iconst (pc := 17) d_K_damp_17 ?_
  refine ar_zret (pc := 18) d_K_damp_18 rfl (by omega) ?_
  rotate_left
  refine ar_iload_n (pc := 8) d_K_damp_8 rfl ?_
  refine ar_bipush (pc := 9) d_K_damp_9 (by decide) ?_
  refine ac_stat (pc := 11) (N := mt_K_isUpTo) _ _ sv_K_isUpTo ml_K_87 d_K_damp_11 (cm_K_isUpTo _ _ _ ⟨by omega, by omega⟩ ⟨by omega, by omega⟩) rfl rfl (Nat.le_of_ble_eq_true rfl) (Nat.le_of_eq (Nat.zero_add _)) (Nat.le_of_eq (Nat.zero_add _)) (fun r_11 G_11 h_11 => ?_)
  obtain ⟨rfl, e_11⟩ := h_11
  subst G_11
  refine ar_if_ne (pc := 14) 19 d_K_damp_14 (by decide) ⟨by omega, by omega⟩ (fun h_14 => ?_) (fun h_14 => ?_)
  refine ar_aload_n (pc := 19) d_K_damp_19 rfl ?_
  refine ar_getR (pc := 20) gf_K_10 d_K_damp_20 (by first | rfl | exact sh_wheel (by omega) | exact sh_milk (by omega)) (hF _ _ _ rfl) ?_
  refine ar_getR (pc := 23) gf_K_97 d_K_damp_23 (by first | rfl | exact sh_wheel (by omega) | exact sh_milk (by omega)) (hF _ _ _ rfl) ?_
  refine ar_iload_n (pc := 26) d_K_damp_26 rfl ?_
  refine ar_iload_n (pc := 27) d_K_damp_27 rfl ?_
  refine ar_iast (pc := 28) d_K_damp_28 rfl _ (Int.toNat_of_nonneg (by omega)).symm (by omega) ⟨by omega, by omega⟩ ?_
  refine ar_iconst (pc := 29) d_K_damp_29 ?_
  refine ar_zret (pc := 30) d_K_damp_30 rfl (by omega) ?_
  rotate_left
  refine ar_iconst (pc := 17) d_K_damp_17 ?_
  refine ar_zret (pc := 18) d_K_damp_18 rfl (by omega) ?_
  rotate_left
  -- leaves: ret 18, ret 30, ret 18
  all_goals first | exact Or.inr ⟨by omega, rfl, rfl⟩ | exact Or.inl ⟨by omega, rfl, rfl⟩
theorem cm_Mi_init (X : gx_T) (d : Nat) (G : mm_T) {k : Nat} {f l : Int} (hk : k < 30) (hf : i3_in f) (hl : i3_in l) : aw_M X (d + 1) mt_Mi_init [av_r (some (200 + k)), av_i f, av_i l] G 0 0 (fun r G' => r = none ∧ G' = ms_I (ms_I G (200 + k) 0 f) (200 + k) 1 l) := by
  refine aw_enter pf_Mi_init (Nat.le_of_ble_eq_true rfl) ?_
  refine ar_aload_n (pc := 0) d_Mi_init_0 rfl ?_
  refine ac_obj (pc := 1) ml_Mi_1 d_Mi_init_1 (Nat.le_of_ble_eq_true rfl) ?_
  refine ar_aload_n (pc := 4) d_Mi_init_4 rfl ?_
  refine ar_iload_n (pc := 5) d_Mi_init_5 rfl ?_
  refine ar_putFI (pc := 6) gf_Mi_7 d_Mi_init_6 rfl rfl rfl (by first | rfl | exact sh_wheel (by omega) | exact sh_milk (by omega)) ⟨by omega, by omega⟩ ?_
  refine ar_aload_n (pc := 9) d_Mi_init_9 rfl ?_
  refine ar_iload_n (pc := 10) d_Mi_init_10 rfl ?_
  refine ar_putI (pc := 11) gf_Mi_13 d_Mi_init_11 rfl (by first | rfl | exact sh_wheel (by omega) | exact sh_milk (by omega)) ⟨by omega, by omega⟩ ?_
  refine ar_ret (pc := 14) d_Mi_init_14 rfl ?_
  rotate_left
  -- leaves: ret 14
  · exact ⟨rfl, rfl⟩
theorem cm_K_milk (X : gx_T) (d : Nat) (G : mm_T) {f l : Int} (hF : fx_R G) (hf : i3_in f) (hl : i3_in l) {c : Nat} (hc : mm_I G 0 13 = c) (hc2 : c ≤ 30) (hA : c < 30 → mm_A G (200 + c) = false) : aw_M X (d + 2) mt_K_milk [av_r (some 0), av_i f, av_i l] G 1 3 (fun r G' => (c < 30 ∧ 0 ≤ f ∧ f ≤ 99 ∧ 1 ≤ l ∧ l ≤ 1000) ∧ r = some (av_i c) ∧ G' = ms_I (ms_R (ms_I (ms_I (ms_N G (200 + c)) (200 + c) 0 f) (200 + c) 1 l) 5 c (some (200 + c))) 0 13 (c + 1) ∨ ¬ (c < 30 ∧ 0 ≤ f ∧ f ≤ 99 ∧ 1 ≤ l ∧ l ≤ 1000) ∧ r = some (av_i (-1)) ∧ G' = G) := by
  refine aw_enter pf_K_milk (Nat.le_of_ble_eq_true rfl) ?_
  refine ar_iload_n (pc := 0) d_K_milk_0 rfl ?_
  refine ar_bipush (pc := 1) d_K_milk_1 (by decide) ?_
  refine ac_stat (pc := 3) (N := mt_K_isUpTo) _ _ sv_K_isUpTo ml_K_87 d_K_milk_3 (cm_K_isUpTo _ _ _ ⟨by omega, by omega⟩ ⟨by omega, by omega⟩) rfl rfl (Nat.le_of_ble_eq_true rfl) (Nat.le_of_eq (Nat.zero_add _)) (Nat.le_of_eq (Nat.zero_add _)) (fun r_3 G_3 h_3 => ?_)
  obtain ⟨rfl, e_3⟩ := h_3
  subst G_3
  refine ar_if_eq (pc := 6) 25 d_K_milk_6 (by decide) ⟨by omega, by omega⟩ (fun h_6 => ?_) (fun h_6 => ?_)
  refine ar_iconst (pc := 25) d_K_milk_25 ?_
  refine ar_istore_n (pc := 26) d_K_milk_26 rfl (by decide) ?_
  refine ar_iload_n (pc := 27) d_K_milk_27 rfl ?_
  refine ar_if_eq (pc := 28) 40 d_K_milk_28 (by decide) ⟨by omega, by omega⟩ (fun h_28 => ?_) (fun h_28 => by exfalso; omega)
  refine ar_iconst (pc := 40) d_K_milk_40 ?_
  refine ar_iret (pc := 41) d_K_milk_41 rfl ?_
  rotate_left
  refine ar_iload_n (pc := 9) d_K_milk_9 rfl ?_
  refine ar_iconst (pc := 10) d_K_milk_10 ?_
  refine ar_icmp_lt (pc := 11) 25 d_K_milk_11 (by decide) ⟨by omega, by omega⟩ ⟨by omega, by omega⟩ (fun h_11 => ?_) (fun h_11 => ?_)
  refine ar_iconst (pc := 25) d_K_milk_25 ?_
  refine ar_istore_n (pc := 26) d_K_milk_26 rfl (by decide) ?_
  refine ar_iload_n (pc := 27) d_K_milk_27 rfl ?_
  refine ar_if_eq (pc := 28) 40 d_K_milk_28 (by decide) ⟨by omega, by omega⟩ (fun h_28 => ?_) (fun h_28 => by exfalso; omega)
  refine ar_iconst (pc := 40) d_K_milk_40 ?_
  refine ar_iret (pc := 41) d_K_milk_41 rfl ?_
  rotate_left
  refine ar_iload_n (pc := 14) d_K_milk_14 rfl ?_
  refine ar_sipush (pc := 15) d_K_milk_15 (by decide) ?_
  refine ar_icmp_gt (pc := 18) 25 d_K_milk_18 (by decide) ⟨by omega, by omega⟩ ⟨by omega, by omega⟩ (fun h_18 => ?_) (fun h_18 => ?_)
  refine ar_iconst (pc := 25) d_K_milk_25 ?_
  refine ar_istore_n (pc := 26) d_K_milk_26 rfl (by decide) ?_
  refine ar_iload_n (pc := 27) d_K_milk_27 rfl ?_
  refine ar_if_eq (pc := 28) 40 d_K_milk_28 (by decide) ⟨by omega, by omega⟩ (fun h_28 => ?_) (fun h_28 => by exfalso; omega)
  refine ar_iconst (pc := 40) d_K_milk_40 ?_
  refine ar_iret (pc := 41) d_K_milk_41 rfl ?_
  rotate_left
  refine ar_iconst (pc := 21) d_K_milk_21 ?_
  refine ar_goto (pc := 22) 26 d_K_milk_22 (by decide) ?_
  refine ar_istore_n (pc := 26) d_K_milk_26 rfl (by decide) ?_
  refine ar_iload_n (pc := 27) d_K_milk_27 rfl ?_
  refine ar_if_eq (pc := 28) 40 d_K_milk_28 (by decide) ⟨by omega, by omega⟩ (fun h_28 => by exfalso; omega) (fun h_28 => ?_)
  refine ar_aload_n (pc := 31) d_K_milk_31 rfl ?_
  refine ar_getIv (pc := 32) gf_K_100 d_K_milk_32 (by first | rfl | exact sh_wheel (by omega) | exact sh_milk (by omega)) hc (fun r_32 => ?_)
  refine ar_bipush (pc := 35) d_K_milk_35 (by decide) ?_
  refine ar_icmp_lt (pc := 37) 42 d_K_milk_37 (by decide) ⟨by omega, by omega⟩ ⟨by omega, by omega⟩ (fun h_37 => ?_) (fun h_37 => ?_)
  refine ar_aload_n (pc := 42) d_K_milk_42 rfl ?_
  refine ar_getR (pc := 43) gf_K_18 d_K_milk_43 (by first | rfl | exact sh_wheel (by omega) | exact sh_milk (by omega)) (hF _ _ _ rfl) ?_
  refine ar_aload_n (pc := 46) d_K_milk_46 rfl ?_
  refine ar_getIv (pc := 47) gf_K_100 d_K_milk_47 (by first | rfl | exact sh_wheel (by omega) | exact sh_milk (by omega)) hc (fun r_47 => ?_)
  refine ac_new (pc := 50) (200 + c) ck_2 kl_K_16 in_Mi it_Mi d_K_milk_50 (sh_milk (by omega)) (hA (by omega)) ?_
  refine ar_dup (pc := 53) d_K_milk_53 rfl ?_
  refine ar_iload_n (pc := 54) d_K_milk_54 rfl ?_
  refine ar_iload_n (pc := 55) d_K_milk_55 rfl ?_
  refine ac_init (pc := 56) (N := mt_Mi_init) _ _ iv_Mi_init ml_K_104 d_K_milk_56 (cm_Mi_init (k := c) _ _ _ (by omega) hf hl) rfl rfl (Nat.le_of_ble_eq_true rfl) (Nat.le_of_eq (Nat.zero_add _)) (Nat.le_of_eq (Nat.zero_add _)) (fun r_56 G_56 h_56 => ?_)
  obtain ⟨rfl, e_56⟩ := h_56
  subst G_56
  refine ar_aast103 (pc := 59) d_K_milk_59 ck_2 rfl (sh_milk (by omega)) (c) (by omega) (by omega) ?_
  refine ar_aload_n (pc := 60) d_K_milk_60 rfl ?_
  refine ar_dup (pc := 61) d_K_milk_61 rfl ?_
  refine ar_getIv (pc := 62) gf_K_100 d_K_milk_62 (by first | rfl | exact sh_wheel (by omega) | exact sh_milk (by omega)) (show _ = (c : Int) from by rw [mr_I, mi_n (by omega), mi_n (by omega), mn_I _ _ (by omega)]; exact hc) (fun r_62 => ?_)
  refine ar_iconst (pc := 65) d_K_milk_65 ?_
  refine ar_iadd (pc := 66) d_K_milk_66 ?_
  refine ar_putI (pc := 67) gf_K_100 d_K_milk_67 rfl (by first | rfl | exact sh_wheel (by omega) | exact sh_milk (by omega)) ⟨by omega, by omega⟩ ?_
  refine ar_aload_n (pc := 70) d_K_milk_70 rfl ?_
  refine ar_getI (pc := 71) gf_K_100 d_K_milk_71 (by first | rfl | exact sh_wheel (by omega) | exact sh_milk (by omega)) (fun r_71 => ?_)
  refine ar_iconst (pc := 74) d_K_milk_74 ?_
  refine ar_isub (pc := 75) d_K_milk_75 ?_
  refine ar_iret (pc := 76) d_K_milk_76 rfl ?_
  rotate_left
  refine ar_iconst (pc := 40) d_K_milk_40 ?_
  refine ar_iret (pc := 41) d_K_milk_41 rfl ?_
  rotate_left
  -- leaves: ret 41, ret 41, ret 41, ret 76, ret 41
  all_goals first | exact Or.inr ⟨by omega, rfl, rfl⟩ | exact Or.inl ⟨by omega, congrArg (fun x => some (av_i x)) (show (c : Int) + 1 - 1 = c by omega), rfl⟩
theorem cm_K_sell (X : gx_T) (d : Nat) (G : mm_T) {w : Int} (hF : fx_R G) (hW : fx_W G) (hw : i3_in w) (hsc : mm_I G 12 4 ≤ 200) (hst : ∀ k : Nat, (k : Int) < mm_I G 0 14 → 0 ≤ mm_I G (300 + k) 5 ∧ mm_I G (300 + k) 5 < mm_I G 12 4) (hsh : ∀ k : Nat, (k : Int) < mm_I G 0 14 → -1 ≤ mm_I G (300 + k) 4 ∧ mm_I G (300 + k) 4 ≤ 23) (hly : ∀ k, k < 24 → 0 ≤ mm_I G 4 k ∧ mm_I G 4 k ≤ 4) : aw_M X (d + 3) mt_K_sell [av_r (some 0), av_i w] G 0 0 (fun r G' => ((0 ≤ w ∧ w < mm_I G 0 14) ∧ mm_I G (300 + w.toNat) 4 ≠ -1) ∧ r = some (av_i 1) ∧ G' = ms_I (ms_I (ms_I (ms_I G 16 (mm_I G (300 + w.toNat) 5).toNat (mm_I G 0 15)) 4 (mm_I G (300 + w.toNat) 4).toNat (mm_I G 4 (mm_I G (300 + w.toNat) 4).toNat - 1)) (300 + w.toNat) 4 (-1)) 24 11 1 ∨ ¬ ((0 ≤ w ∧ w < mm_I G 0 14) ∧ mm_I G (300 + w.toNat) 4 ≠ -1) ∧ r = some (av_i 0) ∧ G' = G) := by
  have hW2 := hW.2.1
  have h := cm_K_lyingWheel X (d + 0) G hF hW hw
  by_cases hin : (0 ≤ w ∧ w < mm_I G 0 14) ∧ mm_I G (300 + w.toNat) 4 ≠ -1
  · rw [if_pos hin] at h
    have hst := hst w.toNat (by omega)
    have hsh := hsh w.toNat (by omega)
    have hly := hly (mm_I G (300 + w.toNat) 4).toNat (by omega)
    refine aw_enter pf_K_sell (Nat.le_of_ble_eq_true rfl) ?_
    refine ar_aload_n (pc := 0) d_K_sell_0 rfl ?_
    refine ar_iload_n (pc := 1) d_K_sell_1 rfl ?_
    refine ac_virt (pc := 2) (N := mt_K_lyingWheel) _ _ mv_K_lyingWheel ml_K_125 ck_11 d_K_sell_2 h (by first | rfl | exact sh_wheel (by omega) | exact sh_milk (by omega)) rfl rfl (Nat.le_of_ble_eq_true rfl) (Nat.le_of_eq (Nat.zero_add _)) (Nat.le_of_eq (Nat.zero_add _)) (fun r_2 G_2 h_2 => ?_)
    obtain ⟨rfl, e_2⟩ := h_2
    subst G_2
    refine ar_astore_n (pc := 5) d_K_sell_5 rfl (by decide) ?_
    refine ar_aload_n (pc := 6) d_K_sell_6 rfl ?_
    refine ar_ifnonnull (pc := 7) 12 d_K_sell_7 (by decide) (fun _ _ => ?_) (fun h => by cases h)
    refine ar_aload_n (pc := 12) d_K_sell_12 rfl ?_
    refine ar_getR (pc := 13) gf_K_38 d_K_sell_13 (by first | rfl | exact sh_wheel (by omega) | exact sh_milk (by omega)) (hF _ _ _ rfl) ?_
    refine ar_aload_n (pc := 16) d_K_sell_16 rfl ?_
    refine ar_getI (pc := 17) gf_K_129 d_K_sell_17 (by first | rfl | exact sh_wheel (by omega) | exact sh_milk (by omega)) (fun r_17 => ?_)
    refine ar_aload_n (pc := 20) d_K_sell_20 rfl ?_
    refine ar_getI (pc := 21) gf_K_132 d_K_sell_21 (by first | rfl | exact sh_wheel (by omega) | exact sh_milk (by omega)) (fun r_21 => ?_)
    refine ac_virt (pc := 24) (N := mt_St_finish) _ _ mv_St_finish ml_K_135 ck_7 d_K_sell_24 (cm_St_finish _ _ _ hF hst ⟨by omega, by omega⟩ hsc) (by first | rfl | exact sh_wheel (by omega) | exact sh_milk (by omega)) rfl rfl (Nat.le_of_ble_eq_true rfl) (Nat.le_of_eq (Nat.zero_add _)) (Nat.le_of_eq (Nat.zero_add _)) (fun r_24 G_24 h_24 => ?_)
    obtain ⟨rfl, e_24⟩ := h_24
    subst G_24
    refine ar_aload_n (pc := 27) d_K_sell_27 rfl ?_
    refine ar_getR (pc := 28) gf_K_10 d_K_sell_28 (by first | rfl | exact sh_wheel (by omega) | exact sh_milk (by omega)) (hF _ _ _ rfl) ?_
    refine ar_aload_n (pc := 31) d_K_sell_31 rfl ?_
    refine ar_getIv (pc := 32) gf_K_138 d_K_sell_32 (by first | rfl | exact sh_wheel (by omega) | exact sh_milk (by omega)) (show _ = mm_I G (300 + w.toNat) 4 from mi_n (by omega)) (fun r_32 => ?_)
    refine ac_virt (pc := 35) (N := mt_Sh_lift) _ _ mv_Sh_lift ml_K_141 ck_6 d_K_sell_35 (cm_Sh_lift _ _ _ (by exact hF) (by omega) (by exact hly)) (by first | rfl | exact sh_wheel (by omega) | exact sh_milk (by omega)) rfl rfl (Nat.le_of_ble_eq_true rfl) (Nat.le_of_eq (Nat.zero_add _)) (Nat.le_of_eq (Nat.zero_add _)) (fun r_35 G_35 h_35 => ?_)
    obtain ⟨rfl, e_35⟩ := h_35
    subst G_35
    refine ar_aload_n (pc := 38) d_K_sell_38 rfl ?_
    refine ar_iconst (pc := 39) d_K_sell_39 ?_
    refine ar_putI (pc := 40) gf_K_138 d_K_sell_40 rfl (by first | rfl | exact sh_wheel (by omega) | exact sh_milk (by omega)) ⟨by omega, by omega⟩ ?_
    refine ar_aload_n (pc := 43) d_K_sell_43 rfl ?_
    refine ar_getR (pc := 44) gf_K_52 d_K_sell_44 (by first | rfl | exact sh_wheel (by omega) | exact sh_milk (by omega)) (hF _ _ _ rfl) ?_
    refine ac_virt (pc := 47) (N := mt_Pl_spoil) _ _ mv_Pl_spoil ml_K_94 ck_4 d_K_sell_47 (cm_Pl_spoil _ _ _) (by first | rfl | exact sh_wheel (by omega) | exact sh_milk (by omega)) rfl rfl (Nat.le_of_ble_eq_true rfl) (Nat.le_of_eq (Nat.zero_add _)) (Nat.le_of_eq (Nat.zero_add _)) (fun r_47 G_47 h_47 => ?_)
    obtain ⟨rfl, e_47⟩ := h_47
    subst G_47
    refine ar_iconst (pc := 50) d_K_sell_50 ?_
    refine ar_zret (pc := 51) d_K_sell_51 rfl (by omega) ?_
    rotate_left
    -- leaves: ret 51
    · exact Or.inl ⟨hin, rfl, rfl⟩
  · rw [if_neg hin] at h
    refine aw_enter pf_K_sell (Nat.le_of_ble_eq_true rfl) ?_
    refine ar_aload_n (pc := 0) d_K_sell_0 rfl ?_
    refine ar_iload_n (pc := 1) d_K_sell_1 rfl ?_
    refine ac_virt (pc := 2) (N := mt_K_lyingWheel) _ _ mv_K_lyingWheel ml_K_125 ck_11 d_K_sell_2 h (by first | rfl | exact sh_wheel (by omega) | exact sh_milk (by omega)) rfl rfl (Nat.le_of_ble_eq_true rfl) (Nat.le_of_eq (Nat.zero_add _)) (Nat.le_of_eq (Nat.zero_add _)) (fun r_2 G_2 h_2 => ?_)
    obtain ⟨rfl, e_2⟩ := h_2
    subst G_2
    refine ar_astore_n (pc := 5) d_K_sell_5 rfl (by decide) ?_
    refine ar_aload_n (pc := 6) d_K_sell_6 rfl ?_
    refine ar_ifnonnull (pc := 7) 12 d_K_sell_7 (by decide) (fun _ h => by cases h) (fun _ => ?_)
    refine ar_iconst (pc := 10) d_K_sell_10 ?_
    refine ar_zret (pc := 11) d_K_sell_11 rfl (by omega) ?_
    rotate_left
    -- leaves: ret 11
    · exact Or.inr ⟨hin, rfl, rfl⟩
theorem cm_K_end (X : gx_T) (d : Nat) (G : mm_T) {n : Int} (hF : fx_R G) (hn : i3_in n) : aw_M X (d + 2) mt_K_end [av_r (some 0), av_i n] G 0 0 (fun r G' => (0 ≤ n ∧ n ≤ mm_I G 33 1) ∧ r = some (av_i n) ∧ G' = ms_I G 33 1 n ∨ ¬ (0 ≤ n ∧ n ≤ mm_I G 33 1) ∧ r = some (av_i (-1)) ∧ G' = G) := by
  refine aw_enter pf_K_end (Nat.le_of_ble_eq_true rfl) ?_
  refine ar_iload_n (pc := 0) d_K_end_0 rfl ?_
  refine ar_aload_n (pc := 1) d_K_end_1 rfl ?_
  refine ar_getR (pc := 2) gf_K_59 d_K_end_2 (by first | rfl | exact sh_wheel (by omega) | exact sh_milk (by omega)) (hF _ _ _ rfl) ?_
  refine ar_getI (pc := 5) gf_K_145 d_K_end_5 (by first | rfl | exact sh_wheel (by omega) | exact sh_milk (by omega)) (fun r_5 => ?_)
  refine ac_stat (pc := 8) (N := mt_K_isUpTo) _ _ sv_K_isUpTo ml_K_87 d_K_end_8 (cm_K_isUpTo _ _ _ ⟨by omega, by omega⟩ ⟨by omega, by omega⟩) rfl rfl (Nat.le_of_ble_eq_true rfl) (Nat.le_of_eq (Nat.zero_add _)) (Nat.le_of_eq (Nat.zero_add _)) (fun r_8 G_8 h_8 => ?_)
  obtain ⟨rfl, e_8⟩ := h_8
  subst G_8
  refine ar_if_ne (pc := 11) 16 d_K_end_11 (by decide) ⟨by omega, by omega⟩ (fun h_11 => ?_) (fun h_11 => ?_)
  refine ar_aload_n (pc := 16) d_K_end_16 rfl ?_
  refine ar_getR (pc := 17) gf_K_59 d_K_end_17 (by first | rfl | exact sh_wheel (by omega) | exact sh_milk (by omega)) (hF _ _ _ rfl) ?_
  refine ar_iload_n (pc := 20) d_K_end_20 rfl ?_
  refine ar_putI (pc := 21) gf_K_145 d_K_end_21 rfl (by first | rfl | exact sh_wheel (by omega) | exact sh_milk (by omega)) ⟨by omega, by omega⟩ ?_
  refine ar_iload_n (pc := 24) d_K_end_24 rfl ?_
  refine ar_iret (pc := 25) d_K_end_25 rfl ?_
  rotate_left
  refine ar_iconst (pc := 14) d_K_end_14 ?_
  refine ar_iret (pc := 15) d_K_end_15 rfl ?_
  rotate_left
  -- leaves: ret 25, ret 15
  all_goals first | exact Or.inr ⟨by omega, rfl, rfl⟩ | exact Or.inl ⟨by omega, rfl, rfl⟩
theorem cm_K_fault (X : gx_T) (d : Nat) (G : mm_T) {w : Int} (hF : fx_R G) (hw : i3_in w) : aw_M X (d + 1) mt_K_fault [av_r (some 0), av_i w] G 0 0 (fun r G' => r = some (av_i (if w = 0 then mm_I G 35 6 else if w = 1 then mm_I G 35 7 else -1)) ∧ G' = G) := by
  refine aw_enter pf_K_fault (Nat.le_of_ble_eq_true rfl) ?_
  refine ar_iload_n (pc := 0) d_K_fault_0 rfl ?_
  refine ar_case (w = 0) (fun hs_1_0 => ?_) (fun hn_1_0 => ?_)
  refine ar_lookup (pc := 1) (off := 27) 28 d_K_fault_1 ⟨by omega, by omega⟩ (by decide) (by rw [hs_1_0]; try rfl) (by decide) ?_
  refine ar_aload_n (pc := 28) d_K_fault_28 rfl ?_
  refine ar_getR (pc := 29) gf_K_66 d_K_fault_29 (by first | rfl | exact sh_wheel (by omega) | exact sh_milk (by omega)) (hF _ _ _ rfl) ?_
  refine ar_getI (pc := 32) gf_K_158 d_K_fault_32 (by first | rfl | exact sh_wheel (by omega) | exact sh_milk (by omega)) (fun r_32 => ?_)
  refine ar_iret (pc := 35) d_K_fault_35 rfl ?_
  rotate_left
  refine ar_case (w = 1) (fun hs_1_1 => ?_) (fun hn_1_1 => ?_)
  refine ar_lookup (pc := 1) (off := 35) 36 d_K_fault_1 ⟨by omega, by omega⟩ (by decide) (by rw [hs_1_1]; try rfl) (by decide) ?_
  refine ar_aload_n (pc := 36) d_K_fault_36 rfl ?_
  refine ar_getR (pc := 37) gf_K_66 d_K_fault_37 (by first | rfl | exact sh_wheel (by omega) | exact sh_milk (by omega)) (hF _ _ _ rfl) ?_
  refine ar_getI (pc := 40) gf_K_161 d_K_fault_40 (by first | rfl | exact sh_wheel (by omega) | exact sh_milk (by omega)) (fun r_40 => ?_)
  refine ar_iret (pc := 43) d_K_fault_43 rfl ?_
  rotate_left
  refine ar_lookup (pc := 1) (off := 43) 44 d_K_fault_1 ⟨by omega, by omega⟩ (by decide) (by simp only [Op.lookupswitch.offset_cons]; rw [if_neg (by omega), if_neg (by omega)]; try rfl) (by decide) ?_
  refine ar_iconst (pc := 44) d_K_fault_44 ?_
  refine ar_iret (pc := 45) d_K_fault_45 rfl ?_
  rotate_left
  -- leaves: ret 35, ret 43, ret 45
  all_goals (refine ⟨congrArg (fun x => some (av_i x)) ?_, rfl⟩)
  all_goals omega
theorem cm_K_from (X : gx_T) (d : Nat) (G : mm_T) {m q : Int} (hF : fx_R G) (hW : fx_W G) (hm : i3_in m) (hq : i3_in q) : aw_M X (d + 2) mt_K_from [av_r (some 0), av_i m, av_i q] G 0 0 (fun r G' => r = some (av_i (if 0 ≤ m ∧ m < mm_I G 0 13 then (if q = 0 then mm_I G (200 + m.toNat) 0 else if q = 1 then mm_I G (200 + m.toNat) 1 else if q = 2 then mm_I G (200 + m.toNat) 2 else -1) else -1)) ∧ G' = G) := by
  have hW1 := hW.1
  have h := cm_K_milkAt X (d + 0) G hF hW hm
  by_cases hin : 0 ≤ m ∧ m < mm_I G 0 13
  · rw [if_pos hin] at h ⊢
    refine aw_enter pf_K_from (Nat.le_of_ble_eq_true rfl) ?_
    refine ar_aload_n (pc := 0) d_K_from_0 rfl ?_
    refine ar_iload_n (pc := 1) d_K_from_1 rfl ?_
    refine ac_virt (pc := 2) (N := mt_K_milkAt) _ _ mv_K_milkAt ml_K_199 ck_11 d_K_from_2 h (by first | rfl | exact sh_wheel (by omega) | exact sh_milk (by omega)) rfl rfl (Nat.le_of_ble_eq_true rfl) (Nat.le_of_eq (Nat.zero_add _)) (Nat.le_of_eq (Nat.zero_add _)) (fun r_2 G_2 h_2 => ?_)
    obtain ⟨rfl, e_2⟩ := h_2
    subst G_2
    refine ar_astore_n (pc := 5) d_K_from_5 rfl (by decide) ?_
    refine ar_aload_n (pc := 6) d_K_from_6 rfl ?_
    refine ar_ifnonnull (pc := 7) 12 d_K_from_7 (by decide) (fun _ _ => ?_) (fun h => by cases h)
    refine ar_iload_n (pc := 12) d_K_from_12 rfl ?_
    refine ar_case (q = 0) (fun hs_13_0 => ?_) (fun hn_13_0 => ?_)
    refine ar_tableIn (pc := 13) 40 d_K_from_13 ⟨by omega, by omega⟩ (by omega) (by omega) (by rw [hs_13_0]; try rfl) (by decide) ?_
    refine ar_aload_n (pc := 40) d_K_from_40 rfl ?_
    refine ar_getI (pc := 41) gf_K_203 d_K_from_41 (by first | rfl | exact sh_wheel (by omega) | exact sh_milk (by omega)) (fun r_41 => ?_)
    refine ar_iret (pc := 44) d_K_from_44 rfl ?_
    rotate_left
    refine ar_case (q = 1) (fun hs_13_1 => ?_) (fun hn_13_1 => ?_)
    refine ar_tableIn (pc := 13) 45 d_K_from_13 ⟨by omega, by omega⟩ (by omega) (by omega) (by rw [hs_13_1]; try rfl) (by decide) ?_
    refine ar_aload_n (pc := 45) d_K_from_45 rfl ?_
    refine ar_getI (pc := 46) gf_K_206 d_K_from_46 (by first | rfl | exact sh_wheel (by omega) | exact sh_milk (by omega)) (fun r_46 => ?_)
    refine ar_iret (pc := 49) d_K_from_49 rfl ?_
    rotate_left
    refine ar_case (q = 2) (fun hs_13_2 => ?_) (fun hn_13_2 => ?_)
    refine ar_tableIn (pc := 13) 50 d_K_from_13 ⟨by omega, by omega⟩ (by omega) (by omega) (by rw [hs_13_2]; try rfl) (by decide) ?_
    refine ar_aload_n (pc := 50) d_K_from_50 rfl ?_
    refine ar_getI (pc := 51) gf_K_209 d_K_from_51 (by first | rfl | exact sh_wheel (by omega) | exact sh_milk (by omega)) (fun r_51 => ?_)
    refine ar_iret (pc := 54) d_K_from_54 rfl ?_
    rotate_left
    refine ar_tableOut (pc := 13) 55 d_K_from_13 ⟨by omega, by omega⟩ (by omega) (by decide) ?_
    refine ar_iconst (pc := 55) d_K_from_55 ?_
    refine ar_iret (pc := 56) d_K_from_56 rfl ?_
    rotate_left
    -- leaves: ret 44, ret 49, ret 54, ret 56
    all_goals (refine ⟨congrArg (fun x => some (av_i x)) ?_, rfl⟩)
    all_goals omega
  · rw [if_neg hin] at h ⊢
    refine aw_enter pf_K_from (Nat.le_of_ble_eq_true rfl) ?_
    refine ar_aload_n (pc := 0) d_K_from_0 rfl ?_
    refine ar_iload_n (pc := 1) d_K_from_1 rfl ?_
    refine ac_virt (pc := 2) (N := mt_K_milkAt) _ _ mv_K_milkAt ml_K_199 ck_11 d_K_from_2 h (by first | rfl | exact sh_wheel (by omega) | exact sh_milk (by omega)) rfl rfl (Nat.le_of_ble_eq_true rfl) (Nat.le_of_eq (Nat.zero_add _)) (Nat.le_of_eq (Nat.zero_add _)) (fun r_2 G_2 h_2 => ?_)
    obtain ⟨rfl, e_2⟩ := h_2
    subst G_2
    refine ar_astore_n (pc := 5) d_K_from_5 rfl (by decide) ?_
    refine ar_aload_n (pc := 6) d_K_from_6 rfl ?_
    refine ar_ifnonnull (pc := 7) 12 d_K_from_7 (by decide) (fun _ h => by cases h) (fun _ => ?_)
    refine ar_iconst (pc := 10) d_K_from_10 ?_
    refine ar_iret (pc := 11) d_K_from_11 rfl ?_
    rotate_left
    -- leaves: ret 11
    · exact ⟨rfl, rfl⟩
theorem cm_K_of (X : gx_T) (d : Nat) (G : mm_T) {w q : Int} (hF : fx_R G) (hW : fx_W G) (hw : i3_in w) (hq : i3_in q) (hk : ∀ k : Nat, (k : Int) < mm_I G 0 14 → 0 ≤ mm_I G (300 + k) 1 ∧ mm_I G (300 + k) 1 ≤ 2) (hag : ∀ k : Nat, (k : Int) < mm_I G 0 14 → i3_in (mm_I G 0 15 - mm_I G (300 + k) 2)) (hc : ∀ k, k < 3 → 0 ≤ mm_I G 8 k ∧ mm_I G 8 k ≤ 4) : aw_M X (d + 5) mt_K_of [av_r (some 0), av_i w, av_i q] G 0 0 (fun r G' => r = some (av_i (if 0 ≤ w ∧ w < mm_I G 0 14 then (if q = 0 then mm_I G (300 + w.toNat) 1 else if q = 1 then mm_I G (300 + w.toNat) 4 else if q = 2 then mm_I G (300 + w.toNat) 6 else if q = 3 then mm_I G (300 + w.toNat) 7 else if q = 4 then mm_I G (300 + w.toNat) 8 else if q = 5 then mm_I G 0 15 - mm_I G (300 + w.toNat) 2 else if q = 6 then mm_I G (300 + w.toNat) 9 else if q = 7 then (if 0 ≤ mm_I G (300 + w.toNat) 4 ∧ mm_I G (300 + w.toNat) 4 ≤ 23 then bv_p (bd_suit (mm_I G 8) (mm_I G 9) (mm_I G 10) (mm_I G 11) (mm_I G (300 + w.toNat) 1) (mm_I G 0 15 - mm_I G (300 + w.toNat) 2) (mm_I G 2 (mm_I G (300 + w.toNat) 4).toNat)) else 0) else -1) else -1)) ∧ G' = G) := by
  have hW2 := hW.2.1
  have h := cm_K_wheelAt X (d + 3) G hF hW hw
  have hbv := bv_c (bd_suit (mm_I G 8) (mm_I G 9) (mm_I G 10) (mm_I G 11) (mm_I G (300 + w.toNat) 1) (mm_I G 0 15 - mm_I G (300 + w.toNat) 2) (mm_I G 2 (mm_I G (300 + w.toNat) 4).toNat))
  by_cases hin : 0 ≤ w ∧ w < mm_I G 0 14
  · rw [if_pos hin] at h ⊢
    have hk := hk w.toNat (by omega)
    have hag := hag w.toNat (by omega)
    refine aw_enter pf_K_of (Nat.le_of_ble_eq_true rfl) ?_
    refine ar_aload_n (pc := 0) d_K_of_0 rfl ?_
    refine ar_iload_n (pc := 1) d_K_of_1 rfl ?_
    refine ac_virt (pc := 2) (N := mt_K_wheelAt) _ _ mv_K_wheelAt ml_K_173 ck_11 d_K_of_2 h (by first | rfl | exact sh_wheel (by omega) | exact sh_milk (by omega)) rfl rfl (Nat.le_of_ble_eq_true rfl) (Nat.le_of_eq (Nat.zero_add _)) (Nat.le_of_eq (Nat.zero_add _)) (fun r_2 G_2 h_2 => ?_)
    obtain ⟨rfl, e_2⟩ := h_2
    subst G_2
    refine ar_astore_n (pc := 5) d_K_of_5 rfl (by decide) ?_
    refine ar_aload_n (pc := 6) d_K_of_6 rfl ?_
    refine ar_ifnonnull (pc := 7) 12 d_K_of_7 (by decide) (fun _ _ => ?_) (fun h => by cases h)
    refine ar_iload_n (pc := 12) d_K_of_12 rfl ?_
    refine ar_case (q = 0) (fun hs_13_0 => ?_) (fun hn_13_0 => ?_)
    refine ar_tableIn (pc := 13) 60 d_K_of_13 ⟨by omega, by omega⟩ (by omega) (by omega) (by rw [hs_13_0]; try rfl) (by decide) ?_
    refine ar_aload_n (pc := 60) d_K_of_60 rfl ?_
    refine ar_getI (pc := 61) gf_K_176 d_K_of_61 (by first | rfl | exact sh_wheel (by omega) | exact sh_milk (by omega)) (fun r_61 => ?_)
    refine ar_iret (pc := 64) d_K_of_64 rfl ?_
    rotate_left
    refine ar_case (q = 1) (fun hs_13_1 => ?_) (fun hn_13_1 => ?_)
    refine ar_tableIn (pc := 13) 65 d_K_of_13 ⟨by omega, by omega⟩ (by omega) (by omega) (by rw [hs_13_1]; try rfl) (by decide) ?_
    refine ar_aload_n (pc := 65) d_K_of_65 rfl ?_
    refine ar_getI (pc := 66) gf_K_138 d_K_of_66 (by first | rfl | exact sh_wheel (by omega) | exact sh_milk (by omega)) (fun r_66 => ?_)
    refine ar_iret (pc := 69) d_K_of_69 rfl ?_
    rotate_left
    refine ar_case (q = 2) (fun hs_13_2 => ?_) (fun hn_13_2 => ?_)
    refine ar_tableIn (pc := 13) 70 d_K_of_13 ⟨by omega, by omega⟩ (by omega) (by omega) (by rw [hs_13_2]; try rfl) (by decide) ?_
    refine ar_aload_n (pc := 70) d_K_of_70 rfl ?_
    refine ar_getI (pc := 71) gf_K_179 d_K_of_71 (by first | rfl | exact sh_wheel (by omega) | exact sh_milk (by omega)) (fun r_71 => ?_)
    refine ar_iret (pc := 74) d_K_of_74 rfl ?_
    rotate_left
    refine ar_case (q = 3) (fun hs_13_3 => ?_) (fun hn_13_3 => ?_)
    refine ar_tableIn (pc := 13) 75 d_K_of_13 ⟨by omega, by omega⟩ (by omega) (by omega) (by rw [hs_13_3]; try rfl) (by decide) ?_
    refine ar_aload_n (pc := 75) d_K_of_75 rfl ?_
    refine ar_getI (pc := 76) gf_K_182 d_K_of_76 (by first | rfl | exact sh_wheel (by omega) | exact sh_milk (by omega)) (fun r_76 => ?_)
    refine ar_iret (pc := 79) d_K_of_79 rfl ?_
    rotate_left
    refine ar_case (q = 4) (fun hs_13_4 => ?_) (fun hn_13_4 => ?_)
    refine ar_tableIn (pc := 13) 80 d_K_of_13 ⟨by omega, by omega⟩ (by omega) (by omega) (by rw [hs_13_4]; try rfl) (by decide) ?_
    refine ar_aload_n (pc := 80) d_K_of_80 rfl ?_
    refine ar_getI (pc := 81) gf_K_185 d_K_of_81 (by first | rfl | exact sh_wheel (by omega) | exact sh_milk (by omega)) (fun r_81 => ?_)
    refine ar_iret (pc := 84) d_K_of_84 rfl ?_
    rotate_left
    refine ar_case (q = 5) (fun hs_13_5 => ?_) (fun hn_13_5 => ?_)
    refine ar_tableIn (pc := 13) 85 d_K_of_13 ⟨by omega, by omega⟩ (by omega) (by omega) (by rw [hs_13_5]; try rfl) (by decide) ?_
    refine ar_aload_n (pc := 85) d_K_of_85 rfl ?_
    refine ar_aload_n (pc := 86) d_K_of_86 rfl ?_
    refine ac_virt (pc := 87) (N := mt_K_ageOf) _ _ mv_K_ageOf ml_K_188 ck_11 d_K_of_87 (cm_K_ageOf _ _ _ (by omega)) (by first | rfl | exact sh_wheel (by omega) | exact sh_milk (by omega)) rfl rfl (Nat.le_of_ble_eq_true rfl) (Nat.le_of_eq (Nat.zero_add _)) (Nat.le_of_eq (Nat.zero_add _)) (fun r_87 G_87 h_87 => ?_)
    obtain ⟨rfl, e_87⟩ := h_87
    subst G_87
    refine ar_iret (pc := 90) d_K_of_90 rfl ?_
    rotate_left
    refine ar_case (q = 6) (fun hs_13_6 => ?_) (fun hn_13_6 => ?_)
    refine ar_tableIn (pc := 13) 91 d_K_of_13 ⟨by omega, by omega⟩ (by omega) (by omega) (by rw [hs_13_6]; try rfl) (by decide) ?_
    refine ar_aload_n (pc := 91) d_K_of_91 rfl ?_
    refine ar_getI (pc := 92) gf_K_192 d_K_of_92 (by first | rfl | exact sh_wheel (by omega) | exact sh_milk (by omega)) (fun r_92 => ?_)
    refine ar_iret (pc := 95) d_K_of_95 rfl ?_
    rotate_left
    refine ar_case (q = 7) (fun hs_13_7 => ?_) (fun hn_13_7 => ?_)
    refine ar_tableIn (pc := 13) 96 d_K_of_13 ⟨by omega, by omega⟩ (by omega) (by omega) (by rw [hs_13_7]; try rfl) (by decide) ?_
    refine ar_aload_n (pc := 96) d_K_of_96 rfl ?_
    refine ar_aload_n (pc := 97) d_K_of_97 rfl ?_
    refine ar_aload_n (pc := 98) d_K_of_98 rfl ?_
    refine ar_getI (pc := 99) gf_K_138 d_K_of_99 (by first | rfl | exact sh_wheel (by omega) | exact sh_milk (by omega)) (fun r_99 => ?_)
    refine ac_virt (pc := 102) (N := mt_K_isSuited) _ _ mv_K_isSuited ml_K_195 ck_11 d_K_of_102 (cm_K_isSuited _ _ _ hF (by omega) ⟨by omega, by omega⟩ hk hag hc) (by first | rfl | exact sh_wheel (by omega) | exact sh_milk (by omega)) rfl rfl (Nat.le_of_ble_eq_true rfl) (Nat.le_of_eq (Nat.zero_add _)) (Nat.le_of_eq (Nat.zero_add _)) (fun r_102 G_102 h_102 => ?_)
    obtain ⟨rfl, e_102⟩ := h_102
    subst G_102
    refine ar_if_eq (pc := 105) 112 d_K_of_105 (by decide) ⟨by omega, by omega⟩ (fun h_105 => ?_) (fun h_105 => ?_)
    refine ar_iconst (pc := 112) d_K_of_112 ?_
    refine ar_iret (pc := 113) d_K_of_113 rfl ?_
    rotate_left
    refine ar_iconst (pc := 108) d_K_of_108 ?_
    refine ar_goto (pc := 109) 113 d_K_of_109 (by decide) ?_
    refine ar_iret (pc := 113) d_K_of_113 rfl ?_
    rotate_left
    refine ar_tableOut (pc := 13) 114 d_K_of_13 ⟨by omega, by omega⟩ (by omega) (by decide) ?_
    refine ar_iconst (pc := 114) d_K_of_114 ?_
    refine ar_iret (pc := 115) d_K_of_115 rfl ?_
    rotate_left
    -- leaves: ret 64, ret 69, ret 74, ret 79, ret 84, ret 90, ret 95, ret 113, ret 113, ret 115
    all_goals (refine ⟨congrArg (fun x => some (av_i x)) ?_, rfl⟩)
    all_goals omega
  · rw [if_neg hin] at h ⊢
    refine aw_enter pf_K_of (Nat.le_of_ble_eq_true rfl) ?_
    refine ar_aload_n (pc := 0) d_K_of_0 rfl ?_
    refine ar_iload_n (pc := 1) d_K_of_1 rfl ?_
    refine ac_virt (pc := 2) (N := mt_K_wheelAt) _ _ mv_K_wheelAt ml_K_173 ck_11 d_K_of_2 h (by first | rfl | exact sh_wheel (by omega) | exact sh_milk (by omega)) rfl rfl (Nat.le_of_ble_eq_true rfl) (Nat.le_of_eq (Nat.zero_add _)) (Nat.le_of_eq (Nat.zero_add _)) (fun r_2 G_2 h_2 => ?_)
    obtain ⟨rfl, e_2⟩ := h_2
    subst G_2
    refine ar_astore_n (pc := 5) d_K_of_5 rfl (by decide) ?_
    refine ar_aload_n (pc := 6) d_K_of_6 rfl ?_
    refine ar_ifnonnull (pc := 7) 12 d_K_of_7 (by decide) (fun _ h => by cases h) (fun _ => ?_)
    refine ar_iconst (pc := 10) d_K_of_10 ?_
    refine ar_iret (pc := 11) d_K_of_11 rfl ?_
    rotate_left
    -- leaves: ret 11
    · exact ⟨rfl, rfl⟩
theorem cm_K_band (X : gx_T) (d : Nat) (G : mm_T) {kd ag le mo : Int} (hF : fx_R G) (h0 : i3_in kd) (h1 : i3_in ag) (h2 : i3_in le) (h3 : i3_in mo) (hc : ∀ k, k < 3 → 0 ≤ mm_I G 8 k ∧ mm_I G 8 k ≤ 4) : aw_M X (d + 4) mt_K_band [av_r (some 0), av_i kd, av_i ag, av_i le, av_i mo] G 0 0 (fun r G' => ((0 ≤ kd ∧ kd ≤ 2) ∧ mm_I G 8 kd.toNat < 4 ∧ 0 ≤ ag ∧ ag ≤ 1000 ∧ 0 ≤ le ∧ le ≤ mo ∧ mo ≤ 9) ∧ r = some (av_i (mm_I G 8 kd.toNat + 1)) ∧ (∃ p : Nat, (p : Int) = 4 * kd + mm_I G 8 kd.toNat ∧ G' = ms_I (ms_I (ms_I (ms_I (ms_I G 24 11 1) 9 p ag) 10 p le) 11 p mo) 8 kd.toNat (mm_I G 8 kd.toNat + 1)) ∨ ¬ ((0 ≤ kd ∧ kd ≤ 2) ∧ mm_I G 8 kd.toNat < 4 ∧ 0 ≤ ag ∧ ag ≤ 1000 ∧ 0 ≤ le ∧ le ≤ mo ∧ mo ≤ 9) ∧ r = some (av_i (-1)) ∧ G' = G) := by
  have hc := hc kd.toNat
  refine aw_enter pf_K_band (Nat.le_of_ble_eq_true rfl) ?_
  refine ar_iload_n (pc := 0) d_K_band_0 rfl ?_
  refine ar_iconst (pc := 1) d_K_band_1 ?_
  refine ac_stat (pc := 2) (N := mt_K_isUpTo) _ _ sv_K_isUpTo ml_K_87 d_K_band_2 (cm_K_isUpTo _ _ _ ⟨by omega, by omega⟩ ⟨by omega, by omega⟩) rfl rfl (Nat.le_of_ble_eq_true rfl) (Nat.le_of_eq (Nat.zero_add _)) (Nat.le_of_eq (Nat.zero_add _)) (fun r_2 G_2 h_2 => ?_)
  obtain ⟨rfl, e_2⟩ := h_2
  subst G_2
  refine ar_if_eq (pc := 5) 41 d_K_band_5 (by decide) ⟨by omega, by omega⟩ (fun h_5 => ?_) (fun h_5 => ?_)
  refine ar_iconst (pc := 41) d_K_band_41 ?_
  refine ar_istore (pc := 42) d_K_band_42 rfl (by decide) ?_
  refine ar_iload (pc := 44) d_K_band_44 rfl ?_
  refine ar_if_eq (pc := 46) 60 d_K_band_46 (by decide) ⟨by omega, by omega⟩ (fun h_46 => ?_) (fun h_46 => by exfalso; omega)
  refine ar_iconst (pc := 60) d_K_band_60 ?_
  refine ar_iret (pc := 61) d_K_band_61 rfl ?_
  rotate_left
  refine ar_iload_n (pc := 8) d_K_band_8 rfl ?_
  refine ar_sipush (pc := 9) d_K_band_9 (by decide) ?_
  refine ac_stat (pc := 12) (N := mt_K_isUpTo) _ _ sv_K_isUpTo ml_K_87 d_K_band_12 (cm_K_isUpTo _ _ _ ⟨by omega, by omega⟩ ⟨by omega, by omega⟩) rfl rfl (Nat.le_of_ble_eq_true rfl) (Nat.le_of_eq (Nat.zero_add _)) (Nat.le_of_eq (Nat.zero_add _)) (fun r_12 G_12 h_12 => ?_)
  obtain ⟨rfl, e_12⟩ := h_12
  subst G_12
  refine ar_if_eq (pc := 15) 41 d_K_band_15 (by decide) ⟨by omega, by omega⟩ (fun h_15 => ?_) (fun h_15 => ?_)
  refine ar_iconst (pc := 41) d_K_band_41 ?_
  refine ar_istore (pc := 42) d_K_band_42 rfl (by decide) ?_
  refine ar_iload (pc := 44) d_K_band_44 rfl ?_
  refine ar_if_eq (pc := 46) 60 d_K_band_46 (by decide) ⟨by omega, by omega⟩ (fun h_46 => ?_) (fun h_46 => by exfalso; omega)
  refine ar_iconst (pc := 60) d_K_band_60 ?_
  refine ar_iret (pc := 61) d_K_band_61 rfl ?_
  rotate_left
  refine ar_iload (pc := 18) d_K_band_18 rfl ?_
  refine ar_bipush (pc := 20) d_K_band_20 (by decide) ?_
  refine ac_stat (pc := 22) (N := mt_K_isUpTo) _ _ sv_K_isUpTo ml_K_87 d_K_band_22 (cm_K_isUpTo _ _ _ ⟨by omega, by omega⟩ ⟨by omega, by omega⟩) rfl rfl (Nat.le_of_ble_eq_true rfl) (Nat.le_of_eq (Nat.zero_add _)) (Nat.le_of_eq (Nat.zero_add _)) (fun r_22 G_22 h_22 => ?_)
  obtain ⟨rfl, e_22⟩ := h_22
  subst G_22
  refine ar_if_eq (pc := 25) 41 d_K_band_25 (by decide) ⟨by omega, by omega⟩ (fun h_25 => ?_) (fun h_25 => ?_)
  refine ar_iconst (pc := 41) d_K_band_41 ?_
  refine ar_istore (pc := 42) d_K_band_42 rfl (by decide) ?_
  refine ar_iload (pc := 44) d_K_band_44 rfl ?_
  refine ar_if_eq (pc := 46) 60 d_K_band_46 (by decide) ⟨by omega, by omega⟩ (fun h_46 => ?_) (fun h_46 => by exfalso; omega)
  refine ar_iconst (pc := 60) d_K_band_60 ?_
  refine ar_iret (pc := 61) d_K_band_61 rfl ?_
  rotate_left
  refine ar_iload_n (pc := 28) d_K_band_28 rfl ?_
  refine ar_iload (pc := 29) d_K_band_29 rfl ?_
  refine ac_stat (pc := 31) (N := mt_K_isUpTo) _ _ sv_K_isUpTo ml_K_87 d_K_band_31 (cm_K_isUpTo _ _ _ ⟨by omega, by omega⟩ ⟨by omega, by omega⟩) rfl rfl (Nat.le_of_ble_eq_true rfl) (Nat.le_of_eq (Nat.zero_add _)) (Nat.le_of_eq (Nat.zero_add _)) (fun r_31 G_31 h_31 => ?_)
  obtain ⟨rfl, e_31⟩ := h_31
  subst G_31
  refine ar_if_eq (pc := 34) 41 d_K_band_34 (by decide) ⟨by omega, by omega⟩ (fun h_34 => ?_) (fun h_34 => ?_)
  refine ar_iconst (pc := 41) d_K_band_41 ?_
  refine ar_istore (pc := 42) d_K_band_42 rfl (by decide) ?_
  refine ar_iload (pc := 44) d_K_band_44 rfl ?_
  refine ar_if_eq (pc := 46) 60 d_K_band_46 (by decide) ⟨by omega, by omega⟩ (fun h_46 => ?_) (fun h_46 => by exfalso; omega)
  refine ar_iconst (pc := 60) d_K_band_60 ?_
  refine ar_iret (pc := 61) d_K_band_61 rfl ?_
  rotate_left
  refine ar_iconst (pc := 37) d_K_band_37 ?_
  refine ar_goto (pc := 38) 42 d_K_band_38 (by decide) ?_
  refine ar_istore (pc := 42) d_K_band_42 rfl (by decide) ?_
  refine ar_iload (pc := 44) d_K_band_44 rfl ?_
  refine ar_if_eq (pc := 46) 60 d_K_band_46 (by decide) ⟨by omega, by omega⟩ (fun h_46 => by exfalso; omega) (fun h_46 => ?_)
  refine ar_aload_n (pc := 49) d_K_band_49 rfl ?_
  refine ar_getR (pc := 50) gf_K_31 d_K_band_50 (by first | rfl | exact sh_wheel (by omega) | exact sh_milk (by omega)) (hF _ _ _ rfl) ?_
  refine ar_iload_n (pc := 53) d_K_band_53 rfl ?_
  refine ac_virt (pc := 54) (N := mt_Ba_haveRoomFor) _ _ mv_Ba_haveRoomFor ml_K_212 ck_0 d_K_band_54 (cm_Ba_haveRoomFor _ _ _ hF h0) (by first | rfl | exact sh_wheel (by omega) | exact sh_milk (by omega)) rfl rfl (Nat.le_of_ble_eq_true rfl) (Nat.le_of_eq (Nat.zero_add _)) (Nat.le_of_eq (Nat.zero_add _)) (fun r_54 G_54 h_54 => ?_)
  obtain ⟨rfl, e_54⟩ := h_54
  subst G_54
  refine ar_if_ne (pc := 57) 62 d_K_band_57 (by decide) ⟨by omega, by omega⟩ (fun h_57 => ?_) (fun h_57 => ?_)
  refine ar_aload_n (pc := 62) d_K_band_62 rfl ?_
  refine ar_getR (pc := 63) gf_K_52 d_K_band_63 (by first | rfl | exact sh_wheel (by omega) | exact sh_milk (by omega)) (hF _ _ _ rfl) ?_
  refine ac_virt (pc := 66) (N := mt_Pl_spoil) _ _ mv_Pl_spoil ml_K_94 ck_4 d_K_band_66 (cm_Pl_spoil _ _ _) (by first | rfl | exact sh_wheel (by omega) | exact sh_milk (by omega)) rfl rfl (Nat.le_of_ble_eq_true rfl) (Nat.le_of_eq (Nat.zero_add _)) (Nat.le_of_eq (Nat.zero_add _)) (fun r_66 G_66 h_66 => ?_)
  obtain ⟨rfl, e_66⟩ := h_66
  subst G_66
  refine ar_aload_n (pc := 69) d_K_band_69 rfl ?_
  refine ar_getR (pc := 70) gf_K_31 d_K_band_70 (by first | rfl | exact sh_wheel (by omega) | exact sh_milk (by omega)) (hF _ _ _ rfl) ?_
  refine ar_iload_n (pc := 73) d_K_band_73 rfl ?_
  refine ar_iload_n (pc := 74) d_K_band_74 rfl ?_
  refine ar_iload_n (pc := 75) d_K_band_75 rfl ?_
  refine ar_iload (pc := 76) d_K_band_76 rfl ?_
  refine ac_virt (pc := 78) (N := mt_Ba_keep) _ _ mv_Ba_keep ml_K_213 ck_0 d_K_band_78 (cm_Ba_keep _ _ _ (by exact hF) (by omega) (show 0 ≤ mm_I G 8 kd.toNat ∧ mm_I G 8 kd.toNat < 4 by omega) h1 h2 h3) (by first | rfl | exact sh_wheel (by omega) | exact sh_milk (by omega)) rfl rfl (Nat.le_of_ble_eq_true rfl) (Nat.le_of_eq (Nat.zero_add _)) (Nat.le_of_eq (Nat.zero_add _)) (fun r_78 G_78 h_78 => ?_)
  obtain ⟨rfl, p, hp, rfl⟩ := h_78
  refine ar_iret (pc := 81) d_K_band_81 rfl ?_
  rotate_left
  refine ar_iconst (pc := 60) d_K_band_60 ?_
  refine ar_iret (pc := 61) d_K_band_61 rfl ?_
  rotate_left
  -- leaves: ret 61, ret 61, ret 61, ret 61, ret 81, ret 61
  all_goals first | exact Or.inr ⟨by omega, rfl, rfl⟩ | exact Or.inl ⟨by omega, rfl, p, hp, rfl⟩
theorem cm_K_suits (X : gx_T) (d : Nat) (G : mm_T) {w s : Int} (hF : fx_R G) (hW : fx_W G) (hw : i3_in w) (hs : i3_in s) (hk : ∀ k : Nat, (k : Int) < mm_I G 0 14 → 0 ≤ mm_I G (300 + k) 1 ∧ mm_I G (300 + k) 1 ≤ 2) (hag : ∀ k : Nat, (k : Int) < mm_I G 0 14 → i3_in (mm_I G 0 15 - mm_I G (300 + k) 2)) (hc : ∀ k, k < 3 → 0 ≤ mm_I G 8 k ∧ mm_I G 8 k ≤ 4) : aw_M X (d + 5) mt_K_suits [av_r (some 0), av_i w, av_i s] G 0 0 (fun r G' => r = some (av_i (if ((0 ≤ w ∧ w < mm_I G 0 14) ∧ mm_I G (300 + w.toNat) 4 ≠ -1) ∧ 0 ≤ s ∧ s ≤ 23 then bv_p (bd_suit (mm_I G 8) (mm_I G 9) (mm_I G 10) (mm_I G 11) (mm_I G (300 + w.toNat) 1) (mm_I G 0 15 - mm_I G (300 + w.toNat) 2) (mm_I G 2 s.toNat)) else -1)) ∧ G' = G) := by
  have hW2 := hW.2.1
  have h := cm_K_lyingWheel X (d + 2) G hF hW hw
  have hbv := bv_c (bd_suit (mm_I G 8) (mm_I G 9) (mm_I G 10) (mm_I G 11) (mm_I G (300 + w.toNat) 1) (mm_I G 0 15 - mm_I G (300 + w.toNat) 2) (mm_I G 2 s.toNat))
  by_cases hin : (0 ≤ w ∧ w < mm_I G 0 14) ∧ mm_I G (300 + w.toNat) 4 ≠ -1
  · rw [if_pos hin] at h
    have hk := hk w.toNat (by omega)
    have hag := hag w.toNat (by omega)
    refine aw_enter pf_K_suits (Nat.le_of_ble_eq_true rfl) ?_
    refine ar_aload_n (pc := 0) d_K_suits_0 rfl ?_
    refine ar_iload_n (pc := 1) d_K_suits_1 rfl ?_
    refine ac_virt (pc := 2) (N := mt_K_lyingWheel) _ _ mv_K_lyingWheel ml_K_125 ck_11 d_K_suits_2 h (by first | rfl | exact sh_wheel (by omega) | exact sh_milk (by omega)) rfl rfl (Nat.le_of_ble_eq_true rfl) (Nat.le_of_eq (Nat.zero_add _)) (Nat.le_of_eq (Nat.zero_add _)) (fun r_2 G_2 h_2 => ?_)
    obtain ⟨rfl, e_2⟩ := h_2
    subst G_2
    refine ar_astore_n (pc := 5) d_K_suits_5 rfl (by decide) ?_
    refine ar_aload_n (pc := 6) d_K_suits_6 rfl ?_
    refine ar_ifnull (pc := 7) 19 d_K_suits_7 (by decide) (fun h => by cases h) (fun _ _ => ?_)
    refine ar_iload_n (pc := 10) d_K_suits_10 rfl ?_
    refine ar_bipush (pc := 11) d_K_suits_11 (by decide) ?_
    refine ac_stat (pc := 13) (N := mt_K_isUpTo) _ _ sv_K_isUpTo ml_K_87 d_K_suits_13 (cm_K_isUpTo _ _ _ ⟨by omega, by omega⟩ ⟨by omega, by omega⟩) rfl rfl (Nat.le_of_ble_eq_true rfl) (Nat.le_of_eq (Nat.zero_add _)) (Nat.le_of_eq (Nat.zero_add _)) (fun r_13 G_13 h_13 => ?_)
    obtain ⟨rfl, e_13⟩ := h_13
    subst G_13
    refine ar_if_ne (pc := 16) 21 d_K_suits_16 (by decide) ⟨by omega, by omega⟩ (fun h_16 => ?_) (fun h_16 => ?_)
    refine ar_aload_n (pc := 21) d_K_suits_21 rfl ?_
    refine ar_aload_n (pc := 22) d_K_suits_22 rfl ?_
    refine ar_iload_n (pc := 23) d_K_suits_23 rfl ?_
    refine ac_virt (pc := 24) (N := mt_K_isSuited) _ _ mv_K_isSuited ml_K_195 ck_11 d_K_suits_24 (cm_K_isSuited _ _ _ hF (by omega) ⟨by omega, by omega⟩ hk hag hc) (by first | rfl | exact sh_wheel (by omega) | exact sh_milk (by omega)) rfl rfl (Nat.le_of_ble_eq_true rfl) (Nat.le_of_eq (Nat.zero_add _)) (Nat.le_of_eq (Nat.zero_add _)) (fun r_24 G_24 h_24 => ?_)
    obtain ⟨rfl, e_24⟩ := h_24
    subst G_24
    refine ar_if_eq (pc := 27) 34 d_K_suits_27 (by decide) ⟨by omega, by omega⟩ (fun h_27 => ?_) (fun h_27 => ?_)
    refine ar_iconst (pc := 34) d_K_suits_34 ?_
    refine ar_iret (pc := 35) d_K_suits_35 rfl ?_
    rotate_left
    refine ar_iconst (pc := 30) d_K_suits_30 ?_
    refine ar_goto (pc := 31) 35 d_K_suits_31 (by decide) ?_
    refine ar_iret (pc := 35) d_K_suits_35 rfl ?_
    rotate_left
    refine ar_iconst (pc := 19) d_K_suits_19 ?_
    refine ar_iret (pc := 20) d_K_suits_20 rfl ?_
    rotate_left
    -- leaves: ret 35, ret 35, ret 20
    all_goals (refine ⟨congrArg (fun x => some (av_i x)) ?_, rfl⟩)
    all_goals omega
  · rw [if_neg hin] at h
    refine aw_enter pf_K_suits (Nat.le_of_ble_eq_true rfl) ?_
    refine ar_aload_n (pc := 0) d_K_suits_0 rfl ?_
    refine ar_iload_n (pc := 1) d_K_suits_1 rfl ?_
    refine ac_virt (pc := 2) (N := mt_K_lyingWheel) _ _ mv_K_lyingWheel ml_K_125 ck_11 d_K_suits_2 h (by first | rfl | exact sh_wheel (by omega) | exact sh_milk (by omega)) rfl rfl (Nat.le_of_ble_eq_true rfl) (Nat.le_of_eq (Nat.zero_add _)) (Nat.le_of_eq (Nat.zero_add _)) (fun r_2 G_2 h_2 => ?_)
    obtain ⟨rfl, e_2⟩ := h_2
    subst G_2
    refine ar_astore_n (pc := 5) d_K_suits_5 rfl (by decide) ?_
    refine ar_aload_n (pc := 6) d_K_suits_6 rfl ?_
    refine ar_ifnull (pc := 7) 19 d_K_suits_7 (by decide) (fun _ => ?_) (fun _ h => by cases h)
    refine ar_iconst (pc := 19) d_K_suits_19 ?_
    refine ar_iret (pc := 20) d_K_suits_20 rfl ?_
    rotate_left
    -- leaves: ret 20
    · refine ⟨congrArg (fun x => some (av_i x)) ?_, rfl⟩
      rw [if_neg (fun z => hin z.1)]
theorem cm_K_planned (X : gx_T) (d : Nat) (G : mm_T) {w : Int} (hF : fx_R G) (hw : i3_in w) : aw_M X (d + 3) mt_K_planned [av_r (some 0), av_i w] G 0 0 (fun r G' => r = some (av_i (if mm_I G 24 10 ≠ 0 ∧ 0 ≤ w ∧ w ≤ 39 then mm_I G 32 w.toNat else -1)) ∧ G' = G) := by
  refine aw_enter pf_K_planned (Nat.le_of_ble_eq_true rfl) ?_
  refine ar_aload_n (pc := 0) d_K_planned_0 rfl ?_
  refine ar_getR (pc := 1) gf_K_52 d_K_planned_1 (by first | rfl | exact sh_wheel (by omega) | exact sh_milk (by omega)) (hF _ _ _ rfl) ?_
  refine ar_iload_n (pc := 4) d_K_planned_4 rfl ?_
  refine ac_virt (pc := 5) (N := mt_Pl_shelfFor) _ _ mv_Pl_shelfFor ml_K_236 ck_4 d_K_planned_5 (cm_Pl_shelfFor _ _ _ hF hw) (by first | rfl | exact sh_wheel (by omega) | exact sh_milk (by omega)) rfl rfl (Nat.le_of_ble_eq_true rfl) (Nat.le_of_eq (Nat.zero_add _)) (Nat.le_of_eq (Nat.zero_add _)) (fun r_5 G_5 h_5 => ?_)
  obtain ⟨rfl, e_5⟩ := h_5
  subst G_5
  refine ar_iret (pc := 8) d_K_planned_8 rfl ?_
  rotate_left
  -- leaves: ret 8
  · exact ⟨rfl, rfl⟩
theorem cm_K_mark (X : gx_T) (d : Nat) (G : mm_T) {g w v : Int} (hF : fx_R G) (hW : fx_W G) (hg : i3_in g) (hw : i3_in w) (hv : i3_in v) {c : Nat} (hc : mm_I G 17 6 = c) (hc2 : c ≤ 100) : aw_M X (d + 3) mt_K_mark [av_r (some 0), av_i g, av_i w, av_i v] G 0 0 (fun r G' => (c < 100 ∧ 0 ≤ g ∧ g ≤ 4 ∧ 0 ≤ w ∧ w < mm_I G 0 14 ∧ 0 ≤ v ∧ v ≤ 20) ∧ r = some (av_i c) ∧ G' = ms_I (ms_I (ms_I (ms_I (ms_I (ms_I G 18 c g) 19 c w) 20 c v) 21 c (mm_I G 0 15)) 22 c (-1)) 17 6 (c + 1) ∨ ¬ (c < 100 ∧ 0 ≤ g ∧ g ≤ 4 ∧ 0 ≤ w ∧ w < mm_I G 0 14 ∧ 0 ≤ v ∧ v ≤ 20) ∧ r = some (av_i (-1)) ∧ G' = G) := by
  have h := cm_K_wheelAt X (d + 1) G hF hW hw
  by_cases hin : 0 ≤ w ∧ w < mm_I G 0 14
  · rw [if_pos hin] at h
    refine aw_enter pf_K_mark (Nat.le_of_ble_eq_true rfl) ?_
    refine ar_iload_n (pc := 0) d_K_mark_0 rfl ?_
    refine ar_iconst (pc := 1) d_K_mark_1 ?_
    refine ac_stat (pc := 2) (N := mt_K_isUpTo) _ _ sv_K_isUpTo ml_K_87 d_K_mark_2 (cm_K_isUpTo _ _ _ ⟨by omega, by omega⟩ ⟨by omega, by omega⟩) rfl rfl (Nat.le_of_ble_eq_true rfl) (Nat.le_of_eq (Nat.zero_add _)) (Nat.le_of_eq (Nat.zero_add _)) (fun r_2 G_2 h_2 => ?_)
    obtain ⟨rfl, e_2⟩ := h_2
    subst G_2
    refine ar_if_eq (pc := 5) 29 d_K_mark_5 (by decide) ⟨by omega, by omega⟩ (fun h_5 => ?_) (fun h_5 => ?_)
    refine ar_iconst (pc := 29) d_K_mark_29 ?_
    refine ar_istore (pc := 30) d_K_mark_30 rfl (by decide) ?_
    refine ar_iload (pc := 32) d_K_mark_32 rfl ?_
    refine ar_if_eq (pc := 34) 47 d_K_mark_34 (by decide) ⟨by omega, by omega⟩ (fun h_34 => ?_) (fun h_34 => by exfalso; omega)
    refine ar_iconst (pc := 47) d_K_mark_47 ?_
    refine ar_iret (pc := 48) d_K_mark_48 rfl ?_
    rotate_left
    refine ar_aload_n (pc := 8) d_K_mark_8 rfl ?_
    refine ar_iload_n (pc := 9) d_K_mark_9 rfl ?_
    refine ac_virt (pc := 10) (N := mt_K_wheelAt) _ _ mv_K_wheelAt ml_K_173 ck_11 d_K_mark_10 h (by first | rfl | exact sh_wheel (by omega) | exact sh_milk (by omega)) rfl rfl (Nat.le_of_ble_eq_true rfl) (Nat.le_of_eq (Nat.zero_add _)) (Nat.le_of_eq (Nat.zero_add _)) (fun r_10 G_10 h_10 => ?_)
    obtain ⟨rfl, e_10⟩ := h_10
    subst G_10
    refine ar_ifnull (pc := 13) 29 d_K_mark_13 (by decide) (fun h => by cases h) (fun _ _ => ?_)
    refine ar_iload_n (pc := 16) d_K_mark_16 rfl ?_
    refine ar_bipush (pc := 17) d_K_mark_17 (by decide) ?_
    refine ac_stat (pc := 19) (N := mt_K_isUpTo) _ _ sv_K_isUpTo ml_K_87 d_K_mark_19 (cm_K_isUpTo _ _ _ ⟨by omega, by omega⟩ ⟨by omega, by omega⟩) rfl rfl (Nat.le_of_ble_eq_true rfl) (Nat.le_of_eq (Nat.zero_add _)) (Nat.le_of_eq (Nat.zero_add _)) (fun r_19 G_19 h_19 => ?_)
    obtain ⟨rfl, e_19⟩ := h_19
    subst G_19
    refine ar_if_eq (pc := 22) 29 d_K_mark_22 (by decide) ⟨by omega, by omega⟩ (fun h_22 => ?_) (fun h_22 => ?_)
    refine ar_iconst (pc := 29) d_K_mark_29 ?_
    refine ar_istore (pc := 30) d_K_mark_30 rfl (by decide) ?_
    refine ar_iload (pc := 32) d_K_mark_32 rfl ?_
    refine ar_if_eq (pc := 34) 47 d_K_mark_34 (by decide) ⟨by omega, by omega⟩ (fun h_34 => ?_) (fun h_34 => by exfalso; omega)
    refine ar_iconst (pc := 47) d_K_mark_47 ?_
    refine ar_iret (pc := 48) d_K_mark_48 rfl ?_
    rotate_left
    refine ar_iconst (pc := 25) d_K_mark_25 ?_
    refine ar_goto (pc := 26) 30 d_K_mark_26 (by decide) ?_
    refine ar_istore (pc := 30) d_K_mark_30 rfl (by decide) ?_
    refine ar_iload (pc := 32) d_K_mark_32 rfl ?_
    refine ar_if_eq (pc := 34) 47 d_K_mark_34 (by decide) ⟨by omega, by omega⟩ (fun h_34 => by exfalso; omega) (fun h_34 => ?_)
    refine ar_aload_n (pc := 37) d_K_mark_37 rfl ?_
    refine ar_getR (pc := 38) gf_K_45 d_K_mark_38 (by first | rfl | exact sh_wheel (by omega) | exact sh_milk (by omega)) (hF _ _ _ rfl) ?_
    refine ac_virt (pc := 41) (N := mt_Ma_areFull) _ _ mv_Ma_areFull ml_K_249 ck_1 d_K_mark_41 (cm_Ma_areFull _ _ _) (by first | rfl | exact sh_wheel (by omega) | exact sh_milk (by omega)) rfl rfl (Nat.le_of_ble_eq_true rfl) (Nat.le_of_eq (Nat.zero_add _)) (Nat.le_of_eq (Nat.zero_add _)) (fun r_41 G_41 h_41 => ?_)
    obtain ⟨rfl, e_41⟩ := h_41
    subst G_41
    refine ar_if_eq (pc := 44) 49 d_K_mark_44 (by decide) ⟨by omega, by omega⟩ (fun h_44 => ?_) (fun h_44 => ?_)
    refine ar_aload_n (pc := 49) d_K_mark_49 rfl ?_
    refine ar_getR (pc := 50) gf_K_45 d_K_mark_50 (by first | rfl | exact sh_wheel (by omega) | exact sh_milk (by omega)) (hF _ _ _ rfl) ?_
    refine ar_iload_n (pc := 53) d_K_mark_53 rfl ?_
    refine ar_iload_n (pc := 54) d_K_mark_54 rfl ?_
    refine ar_iload_n (pc := 55) d_K_mark_55 rfl ?_
    refine ar_aload_n (pc := 56) d_K_mark_56 rfl ?_
    refine ar_getI (pc := 57) gf_K_132 d_K_mark_57 (by first | rfl | exact sh_wheel (by omega) | exact sh_milk (by omega)) (fun r_57 => ?_)
    refine ac_virt (pc := 60) (N := mt_Ma_keep) _ _ mv_Ma_keep ml_K_252 ck_1 d_K_mark_60 (cm_Ma_keep _ _ _ hF hg hw hv ⟨by omega, by omega⟩ hc (by omega)) (by first | rfl | exact sh_wheel (by omega) | exact sh_milk (by omega)) rfl rfl (Nat.le_of_ble_eq_true rfl) (Nat.le_of_eq (Nat.zero_add _)) (Nat.le_of_eq (Nat.zero_add _)) (fun r_60 G_60 h_60 => ?_)
    obtain ⟨rfl, e_60⟩ := h_60
    subst G_60
    refine ar_iret (pc := 63) d_K_mark_63 rfl ?_
    rotate_left
    refine ar_iconst (pc := 47) d_K_mark_47 ?_
    refine ar_iret (pc := 48) d_K_mark_48 rfl ?_
    rotate_left
    -- leaves: ret 48, ret 48, ret 63, ret 48
    all_goals first | exact Or.inr ⟨by omega, rfl, rfl⟩ | exact Or.inl ⟨by omega, rfl, rfl⟩
  · rw [if_neg hin] at h
    refine aw_enter pf_K_mark (Nat.le_of_ble_eq_true rfl) ?_
    refine ar_iload_n (pc := 0) d_K_mark_0 rfl ?_
    refine ar_iconst (pc := 1) d_K_mark_1 ?_
    refine ac_stat (pc := 2) (N := mt_K_isUpTo) _ _ sv_K_isUpTo ml_K_87 d_K_mark_2 (cm_K_isUpTo _ _ _ ⟨by omega, by omega⟩ ⟨by omega, by omega⟩) rfl rfl (Nat.le_of_ble_eq_true rfl) (Nat.le_of_eq (Nat.zero_add _)) (Nat.le_of_eq (Nat.zero_add _)) (fun r_2 G_2 h_2 => ?_)
    obtain ⟨rfl, e_2⟩ := h_2
    subst G_2
    refine ar_if_eq (pc := 5) 29 d_K_mark_5 (by decide) ⟨by omega, by omega⟩ (fun h_5 => ?_) (fun h_5 => ?_)
    refine ar_iconst (pc := 29) d_K_mark_29 ?_
    refine ar_istore (pc := 30) d_K_mark_30 rfl (by decide) ?_
    refine ar_iload (pc := 32) d_K_mark_32 rfl ?_
    refine ar_if_eq (pc := 34) 47 d_K_mark_34 (by decide) ⟨by omega, by omega⟩ (fun h_34 => ?_) (fun h_34 => by exfalso; omega)
    refine ar_iconst (pc := 47) d_K_mark_47 ?_
    refine ar_iret (pc := 48) d_K_mark_48 rfl ?_
    rotate_left
    refine ar_aload_n (pc := 8) d_K_mark_8 rfl ?_
    refine ar_iload_n (pc := 9) d_K_mark_9 rfl ?_
    refine ac_virt (pc := 10) (N := mt_K_wheelAt) _ _ mv_K_wheelAt ml_K_173 ck_11 d_K_mark_10 h (by first | rfl | exact sh_wheel (by omega) | exact sh_milk (by omega)) rfl rfl (Nat.le_of_ble_eq_true rfl) (Nat.le_of_eq (Nat.zero_add _)) (Nat.le_of_eq (Nat.zero_add _)) (fun r_10 G_10 h_10 => ?_)
    obtain ⟨rfl, e_10⟩ := h_10
    subst G_10
    refine ar_ifnull (pc := 13) 29 d_K_mark_13 (by decide) (fun _ => ?_) (fun _ h => by cases h)
    refine ar_iconst (pc := 29) d_K_mark_29 ?_
    refine ar_istore (pc := 30) d_K_mark_30 rfl (by decide) ?_
    refine ar_iload (pc := 32) d_K_mark_32 rfl ?_
    refine ar_if_eq (pc := 34) 47 d_K_mark_34 (by decide) ⟨by omega, by omega⟩ (fun h_34 => ?_) (fun h_34 => by exfalso; omega)
    refine ar_iconst (pc := 47) d_K_mark_47 ?_
    refine ar_iret (pc := 48) d_K_mark_48 rfl ?_
    rotate_left
    -- leaves: ret 48, ret 48
    all_goals exact Or.inr ⟨by omega, rfl, rfl⟩
theorem cm_K_untell (X : gx_T) (d : Nat) (G : mm_T) {m : Int} (hF : fx_R G) (hm : i3_in m) (hc : mm_I G 17 6 ≤ 100) : aw_M X (d + 2) mt_K_untell [av_r (some 0), av_i m] G 0 0 (fun r G' => (0 ≤ m ∧ m < mm_I G 17 6 ∧ mm_I G 22 m.toNat = -1) ∧ r = some (av_i 1) ∧ G' = ms_I G 22 m.toNat (mm_I G 0 15) ∨ ¬ (0 ≤ m ∧ m < mm_I G 17 6 ∧ mm_I G 22 m.toNat = -1) ∧ r = some (av_i 0) ∧ G' = G) := by
  refine aw_enter pf_K_untell (Nat.le_of_ble_eq_true rfl) ?_
  refine ar_aload_n (pc := 0) d_K_untell_0 rfl ?_
  refine ar_getR (pc := 1) gf_K_45 d_K_untell_1 (by first | rfl | exact sh_wheel (by omega) | exact sh_milk (by omega)) (hF _ _ _ rfl) ?_
  refine ar_iload_n (pc := 4) d_K_untell_4 rfl ?_
  refine ar_aload_n (pc := 5) d_K_untell_5 rfl ?_
  refine ar_getI (pc := 6) gf_K_132 d_K_untell_6 (by first | rfl | exact sh_wheel (by omega) | exact sh_milk (by omega)) (fun r_6 => ?_)
  refine ac_virt (pc := 9) (N := mt_Ma_takeBack) _ _ mv_Ma_takeBack ml_K_253 ck_1 d_K_untell_9 (cm_Ma_takeBack _ _ _ hF hm ⟨by omega, by omega⟩ hc) (by first | rfl | exact sh_wheel (by omega) | exact sh_milk (by omega)) rfl rfl (Nat.le_of_ble_eq_true rfl) (Nat.le_of_eq (Nat.zero_add _)) (Nat.le_of_eq (Nat.zero_add _)) (fun r_9 G_9 h_9 => ?_)
  obtain ⟨hc9, rfl, rfl⟩ | ⟨hc9, rfl, rfl⟩ := h_9
  refine ar_zret (pc := 12) d_K_untell_12 rfl (by omega) ?_
  rotate_left
  refine ar_zret (pc := 12) d_K_untell_12 rfl (by omega) ?_
  rotate_left
  -- leaves: ret 12, ret 12
  · exact Or.inl ⟨hc9, rfl, rfl⟩
  · exact Or.inr ⟨hc9, rfl, rfl⟩
theorem cm_K_about (X : gx_T) (d : Nat) (G : mm_T) {q : Int} (hF : fx_R G) (hq : i3_in q) {o : Nat} (ho : mm_R G 0 11 = some o) (hos : sh_t o = (3, 8)) : aw_M X (d + 1) mt_K_about [av_r (some 0), av_i q] G 0 0 (fun r G' => r = some (av_i (if q = 0 then mm_I G 0 15 else if q = 1 then mm_I G 0 13 else if q = 2 then mm_I G 0 14 else if q = 3 then mm_I G o 6 else if q = 4 then mm_I G 17 6 else if q = 5 then mm_I G 12 4 else if q = 6 then mm_I G 33 1 else -1)) ∧ G' = G) := by
  refine aw_enter pf_K_about (Nat.le_of_ble_eq_true rfl) ?_
  refine ar_iload_n (pc := 0) d_K_about_0 rfl ?_
  refine ar_case (q = 0) (fun hs_1_0 => ?_) (fun hn_1_0 => ?_)
  refine ar_tableIn (pc := 1) 44 d_K_about_1 ⟨by omega, by omega⟩ (by omega) (by omega) (by rw [hs_1_0]; try rfl) (by decide) ?_
  refine ar_aload_n (pc := 44) d_K_about_44 rfl ?_
  refine ar_getI (pc := 45) gf_K_132 d_K_about_45 (by first | rfl | exact sh_wheel (by omega) | exact sh_milk (by omega)) (fun r_45 => ?_)
  refine ar_iret (pc := 48) d_K_about_48 rfl ?_
  rotate_left
  refine ar_case (q = 1) (fun hs_1_1 => ?_) (fun hn_1_1 => ?_)
  refine ar_tableIn (pc := 1) 49 d_K_about_1 ⟨by omega, by omega⟩ (by omega) (by omega) (by rw [hs_1_1]; try rfl) (by decide) ?_
  refine ar_aload_n (pc := 49) d_K_about_49 rfl ?_
  refine ar_getI (pc := 50) gf_K_100 d_K_about_50 (by first | rfl | exact sh_wheel (by omega) | exact sh_milk (by omega)) (fun r_50 => ?_)
  refine ar_iret (pc := 53) d_K_about_53 rfl ?_
  rotate_left
  refine ar_case (q = 2) (fun hs_1_2 => ?_) (fun hn_1_2 => ?_)
  refine ar_tableIn (pc := 1) 54 d_K_about_1 ⟨by omega, by omega⟩ (by omega) (by omega) (by rw [hs_1_2]; try rfl) (by decide) ?_
  refine ar_aload_n (pc := 54) d_K_about_54 rfl ?_
  refine ar_getI (pc := 55) gf_K_115 d_K_about_55 (by first | rfl | exact sh_wheel (by omega) | exact sh_milk (by omega)) (fun r_55 => ?_)
  refine ar_iret (pc := 58) d_K_about_58 rfl ?_
  rotate_left
  refine ar_case (q = 3) (fun hs_1_3 => ?_) (fun hn_1_3 => ?_)
  refine ar_tableIn (pc := 1) 59 d_K_about_1 ⟨by omega, by omega⟩ (by omega) (by omega) (by rw [hs_1_3]; try rfl) (by decide) ?_
  refine ar_aload_n (pc := 59) d_K_about_59 rfl ?_
  refine ar_getR (pc := 60) gf_K_80 d_K_about_60 (by first | rfl | exact sh_wheel (by omega) | exact sh_milk (by omega)) ho ?_
  refine ar_getI (pc := 63) gf_K_155 d_K_about_63 hos (fun r_63 => ?_)
  refine ar_iret (pc := 66) d_K_about_66 rfl ?_
  rotate_left
  refine ar_case (q = 4) (fun hs_1_4 => ?_) (fun hn_1_4 => ?_)
  refine ar_tableIn (pc := 1) 67 d_K_about_1 ⟨by omega, by omega⟩ (by omega) (by omega) (by rw [hs_1_4]; try rfl) (by decide) ?_
  refine ar_aload_n (pc := 67) d_K_about_67 rfl ?_
  refine ar_getR (pc := 68) gf_K_45 d_K_about_68 (by first | rfl | exact sh_wheel (by omega) | exact sh_milk (by omega)) (hF _ _ _ rfl) ?_
  refine ar_getI (pc := 71) gf_K_269 d_K_about_71 (by first | rfl | exact sh_wheel (by omega) | exact sh_milk (by omega)) (fun r_71 => ?_)
  refine ar_iret (pc := 74) d_K_about_74 rfl ?_
  rotate_left
  refine ar_case (q = 5) (fun hs_1_5 => ?_) (fun hn_1_5 => ?_)
  refine ar_tableIn (pc := 1) 75 d_K_about_1 ⟨by omega, by omega⟩ (by omega) (by omega) (by rw [hs_1_5]; try rfl) (by decide) ?_
  refine ar_aload_n (pc := 75) d_K_about_75 rfl ?_
  refine ar_getR (pc := 76) gf_K_38 d_K_about_76 (by first | rfl | exact sh_wheel (by omega) | exact sh_milk (by omega)) (hF _ _ _ rfl) ?_
  refine ar_getI (pc := 79) gf_K_272 d_K_about_79 (by first | rfl | exact sh_wheel (by omega) | exact sh_milk (by omega)) (fun r_79 => ?_)
  refine ar_iret (pc := 82) d_K_about_82 rfl ?_
  rotate_left
  refine ar_case (q = 6) (fun hs_1_6 => ?_) (fun hn_1_6 => ?_)
  refine ar_tableIn (pc := 1) 83 d_K_about_1 ⟨by omega, by omega⟩ (by omega) (by omega) (by rw [hs_1_6]; try rfl) (by decide) ?_
  refine ar_aload_n (pc := 83) d_K_about_83 rfl ?_
  refine ar_getR (pc := 84) gf_K_59 d_K_about_84 (by first | rfl | exact sh_wheel (by omega) | exact sh_milk (by omega)) (hF _ _ _ rfl) ?_
  refine ar_getI (pc := 87) gf_K_145 d_K_about_87 (by first | rfl | exact sh_wheel (by omega) | exact sh_milk (by omega)) (fun r_87 => ?_)
  refine ar_iret (pc := 90) d_K_about_90 rfl ?_
  rotate_left
  refine ar_tableOut (pc := 1) 91 d_K_about_1 ⟨by omega, by omega⟩ (by omega) (by decide) ?_
  refine ar_iconst (pc := 91) d_K_about_91 ?_
  refine ar_iret (pc := 92) d_K_about_92 rfl ?_
  rotate_left
  -- leaves: ret 48, ret 53, ret 58, ret 66, ret 74, ret 82, ret 90, ret 92
  all_goals (refine ⟨congrArg (fun x => some (av_i x)) ?_, rfl⟩)
  all_goals omega
theorem cm_K_layOn (X : gx_T) (d : Nat) (G : mm_T) {w : Nat} {s : Int} (hF : fx_R G) (hw : w < 40) (hs : 0 ≤ s ∧ s ≤ 23) (hn : mm_I G (300 + w) 0 = w) {c : Nat} (hc : mm_I G 12 4 = c) (hc2 : c < 200) (hl : 0 ≤ mm_I G 4 s.toNat ∧ mm_I G 4 s.toNat ≤ 4) : aw_M X (d + 3) mt_K_layOn [av_r (some 0), av_r (some (300 + w)), av_i s] G 0 0 (fun r G' => r = none ∧ G' = ms_I (ms_I (ms_I (ms_I (ms_I (ms_I (ms_I (ms_I G (300 + w) 4 s) 13 c w) 14 c s) 15 c (mm_I G 0 15)) 16 c (-1)) 12 4 (c + 1)) (300 + w) 5 c) 4 s.toNat (mm_I G 4 s.toNat + 1)) := by
  refine aw_enter pf_K_layOn (Nat.le_of_ble_eq_true rfl) ?_
  refine ar_aload_n (pc := 0) d_K_layOn_0 rfl ?_
  refine ar_iload_n (pc := 1) d_K_layOn_1 rfl ?_
  refine ar_putI (pc := 2) gf_K_138 d_K_layOn_2 rfl (by first | rfl | exact sh_wheel (by omega) | exact sh_milk (by omega)) ⟨by omega, by omega⟩ ?_
  refine ar_aload_n (pc := 5) d_K_layOn_5 rfl ?_
  refine ar_aload_n (pc := 6) d_K_layOn_6 rfl ?_
  refine ar_getR (pc := 7) gf_K_38 d_K_layOn_7 (by first | rfl | exact sh_wheel (by omega) | exact sh_milk (by omega)) (hF _ _ _ rfl) ?_
  refine ar_aload_n (pc := 10) d_K_layOn_10 rfl ?_
  refine ar_getIv (pc := 11) gf_K_292 d_K_layOn_11 (by first | rfl | exact sh_wheel (by omega) | exact sh_milk (by omega)) (show _ = (w : Int) from (mi_n (by omega)).trans hn) (fun r_11 => ?_)
  refine ar_iload_n (pc := 14) d_K_layOn_14 rfl ?_
  refine ar_aload_n (pc := 15) d_K_layOn_15 rfl ?_
  refine ar_getIv (pc := 16) gf_K_132 d_K_layOn_16 (by first | rfl | exact sh_wheel (by omega) | exact sh_milk (by omega)) (show _ = mm_I G 0 15 from mi_n (by omega)) (fun r_16 => ?_)
  refine ac_virt (pc := 19) (N := mt_St_begin) _ _ mv_St_begin ml_K_295 ck_7 d_K_layOn_19 (cm_St_begin (c := c) _ _ _ (by exact hF) ⟨by omega, by omega⟩ ⟨by omega, by omega⟩ ⟨by omega, by omega⟩ (by rw [mi_n (by omega)]; exact hc) hc2) (by first | rfl | exact sh_wheel (by omega) | exact sh_milk (by omega)) rfl rfl (Nat.le_of_ble_eq_true rfl) (Nat.le_of_eq (Nat.zero_add _)) (Nat.le_of_eq (Nat.zero_add _)) (fun r_19 G_19 h_19 => ?_)
  obtain ⟨rfl, e_19⟩ := h_19
  subst G_19
  refine ar_putI (pc := 22) gf_K_129 d_K_layOn_22 rfl (by first | rfl | exact sh_wheel (by omega) | exact sh_milk (by omega)) ⟨by omega, by omega⟩ ?_
  refine ar_aload_n (pc := 25) d_K_layOn_25 rfl ?_
  refine ar_getR (pc := 26) gf_K_10 d_K_layOn_26 (by first | rfl | exact sh_wheel (by omega) | exact sh_milk (by omega)) (hF _ _ _ rfl) ?_
  refine ar_iload_n (pc := 29) d_K_layOn_29 rfl ?_
  refine ac_virt (pc := 30) (N := mt_Sh_lay) _ _ mv_Sh_lay ml_K_299 ck_6 d_K_layOn_30 (cm_Sh_lay _ _ _ (by exact hF) hs (by rw [mi_n (by omega)]; show 0 ≤ mm_I (ms_I G (300 + w) 4 s) 4 s.toNat ∧ mm_I (ms_I G (300 + w) 4 s) 4 s.toNat ≤ 4; rw [mi_n (by omega)]; exact hl)) (by first | rfl | exact sh_wheel (by omega) | exact sh_milk (by omega)) rfl rfl (Nat.le_of_ble_eq_true rfl) (Nat.le_of_eq (Nat.zero_add _)) (Nat.le_of_eq (Nat.zero_add _)) (fun r_30 G_30 h_30 => ?_)
  obtain ⟨rfl, e_30⟩ := h_30
  subst G_30
  refine ar_ret (pc := 33) d_K_layOn_33 rfl ?_
  rotate_left
  -- leaves: ret 33
  · refine ⟨rfl, ?_⟩
    congr 1
    rw [mi_n (by omega)]
    show mm_I (ms_I G (300 + w) 4 s) 4 s.toNat + 1 = _
    rw [mi_n (by omega)]
theorem cm_K_takeTo (X : gx_T) (d : Nat) (G : mm_T) {w : Nat} {s : Int} (hF : fx_R G) (hw : w < 40) (hs : 0 ≤ s ∧ s ≤ 23) (hn : mm_I G (300 + w) 0 = w) {c : Nat} (hc : mm_I G 12 4 = c) (hc2 : c < 200) (hst : 0 ≤ mm_I G (300 + w) 5 ∧ mm_I G (300 + w) 5 < c) (hsh : 0 ≤ mm_I G (300 + w) 4 ∧ mm_I G (300 + w) 4 ≤ 23) (hly : ∀ k, k < 24 → 0 ≤ mm_I G 4 k ∧ mm_I G 4 k ≤ 4) (hl1 : 1 ≤ mm_I G 4 (mm_I G (300 + w) 4).toNat) : aw_M X (d + 4) mt_K_takeTo [av_r (some 0), av_r (some (300 + w)), av_i s] G 0 0 (fun r G' => r = none ∧ ∃ G1, G1 = ms_I (ms_I G 16 (mm_I G (300 + w) 5).toNat (mm_I G 0 15)) 4 (mm_I G (300 + w) 4).toNat (mm_I G 4 (mm_I G (300 + w) 4).toNat - 1) ∧ G' = ms_I (ms_I (ms_I (ms_I (ms_I (ms_I (ms_I (ms_I G1 (300 + w) 4 s) 13 c w) 14 c s) 15 c (mm_I G 0 15)) 16 c (-1)) 12 4 (c + 1)) (300 + w) 5 c) 4 s.toNat (mm_I G1 4 s.toNat + 1)) := by
  have hlh := hly (mm_I G (300 + w) 4).toNat (by omega)
  have hls := hly s.toNat (by omega)
  have hG1 : ∀ k, k < 24 → 0 ≤ mm_I (ms_I (ms_I G 16 (mm_I G (300 + w) 5).toNat (mm_I G 0 15)) 4 (mm_I G (300 + w) 4).toNat (mm_I G 4 (mm_I G (300 + w) 4).toNat - 1)) 4 k ∧ mm_I (ms_I (ms_I G 16 (mm_I G (300 + w) 5).toNat (mm_I G 0 15)) 4 (mm_I G (300 + w) 4).toNat (mm_I G 4 (mm_I G (300 + w) 4).toNat - 1)) 4 k ≤ 4 := by
    intro k hk
    by_cases he : k = (mm_I G (300 + w) 4).toNat
    · rw [he, mi_s]; omega
    · rw [mi_n (by omega), mi_n (by omega)]; exact hly k hk
  refine aw_enter pf_K_takeTo (Nat.le_of_ble_eq_true rfl) ?_
  refine ar_aload_n (pc := 0) d_K_takeTo_0 rfl ?_
  refine ar_getR (pc := 1) gf_K_38 d_K_takeTo_1 (by first | rfl | exact sh_wheel (by omega) | exact sh_milk (by omega)) (hF _ _ _ rfl) ?_
  refine ar_aload_n (pc := 4) d_K_takeTo_4 rfl ?_
  refine ar_getI (pc := 5) gf_K_129 d_K_takeTo_5 (by first | rfl | exact sh_wheel (by omega) | exact sh_milk (by omega)) (fun r_5 => ?_)
  refine ar_aload_n (pc := 8) d_K_takeTo_8 rfl ?_
  refine ar_getI (pc := 9) gf_K_132 d_K_takeTo_9 (by first | rfl | exact sh_wheel (by omega) | exact sh_milk (by omega)) (fun r_9 => ?_)
  refine ac_virt (pc := 12) (N := mt_St_finish) _ _ mv_St_finish ml_K_135 ck_7 d_K_takeTo_12 (cm_St_finish _ _ _ hF (by rw [hc]; exact hst) ⟨by omega, by omega⟩ (by omega)) (by first | rfl | exact sh_wheel (by omega) | exact sh_milk (by omega)) rfl rfl (Nat.le_of_ble_eq_true rfl) (Nat.le_of_eq (Nat.zero_add _)) (Nat.le_of_eq (Nat.zero_add _)) (fun r_12 G_12 h_12 => ?_)
  obtain ⟨rfl, e_12⟩ := h_12
  subst G_12
  refine ar_aload_n (pc := 15) d_K_takeTo_15 rfl ?_
  refine ar_getR (pc := 16) gf_K_10 d_K_takeTo_16 (by first | rfl | exact sh_wheel (by omega) | exact sh_milk (by omega)) (hF _ _ _ rfl) ?_
  refine ar_aload_n (pc := 19) d_K_takeTo_19 rfl ?_
  refine ar_getIv (pc := 20) gf_K_138 d_K_takeTo_20 (by first | rfl | exact sh_wheel (by omega) | exact sh_milk (by omega)) (show _ = mm_I G (300 + w) 4 from mi_n (by omega)) (fun r_20 => ?_)
  refine ac_virt (pc := 23) (N := mt_Sh_lift) _ _ mv_Sh_lift ml_K_141 ck_6 d_K_takeTo_23 (cm_Sh_lift _ _ _ (by exact hF) hsh (by exact hlh)) (by first | rfl | exact sh_wheel (by omega) | exact sh_milk (by omega)) rfl rfl (Nat.le_of_ble_eq_true rfl) (Nat.le_of_eq (Nat.zero_add _)) (Nat.le_of_eq (Nat.zero_add _)) (fun r_23 G_23 h_23 => ?_)
  obtain ⟨rfl, e_23⟩ := h_23
  subst G_23
  refine ar_aload_n (pc := 26) d_K_takeTo_26 rfl ?_
  refine ar_aload_n (pc := 27) d_K_takeTo_27 rfl ?_
  refine ar_iload_n (pc := 28) d_K_takeTo_28 rfl ?_
  refine ac_virt (pc := 29) (N := mt_K_layOn) _ _ mv_K_layOn ml_K_289 ck_11 d_K_takeTo_29 (cm_K_layOn (c := c) _ _ _ (by exact hF) hw hs (by rw [mi_n (by omega), mi_n (by omega)]; exact hn) (by exact hc) hc2 (hG1 _ (by omega))) (by first | rfl | exact sh_wheel (by omega) | exact sh_milk (by omega)) rfl rfl (Nat.le_of_ble_eq_true rfl) (Nat.le_of_eq (Nat.zero_add _)) (Nat.le_of_eq (Nat.zero_add _)) (fun r_29 G_29 h_29 => ?_)
  obtain ⟨rfl, e_29⟩ := h_29
  subst G_29
  refine ar_ret (pc := 32) d_K_takeTo_32 rfl ?_
  rotate_left
  -- leaves: ret 32
  · exact ⟨rfl, _, rfl, rfl⟩
theorem cm_K_move (X : gx_T) (d : Nat) (G : mm_T) {w s : Int} (hF : fx_R G) (hW : fx_W G) (hw : i3_in w) (hs : i3_in s) {c : Nat} (hc : mm_I G 12 4 = c) (hc2 : c ≤ 200) (hn : ∀ k : Nat, (k : Int) < mm_I G 0 14 → mm_I G (300 + k) 0 = k) (hst : ∀ k : Nat, (k : Int) < mm_I G 0 14 → 0 ≤ mm_I G (300 + k) 5 ∧ mm_I G (300 + k) 5 < c) (hsh : ∀ k : Nat, (k : Int) < mm_I G 0 14 → -1 ≤ mm_I G (300 + k) 4 ∧ mm_I G (300 + k) 4 ≤ 23) (hly : ∀ k, k < 24 → 0 ≤ mm_I G 4 k ∧ mm_I G 4 k ≤ 4) (hl1 : ∀ k : Nat, (k : Int) < mm_I G 0 14 → mm_I G (300 + k) 4 ≠ -1 → 1 ≤ mm_I G 4 (mm_I G (300 + k) 4).toNat) : aw_M X (d + 5) mt_K_move [av_r (some 0), av_i w, av_i s] G 0 0 (fun r G' => (((0 ≤ w ∧ w < mm_I G 0 14) ∧ mm_I G (300 + w.toNat) 4 ≠ -1) ∧ mm_I G (300 + w.toNat) 4 ≠ s ∧ (0 ≤ s ∧ s ≤ 23 ∧ mm_I G 4 s.toNat < 4) ∧ c < 200) ∧ r = some (av_i 1) ∧ (∃ G1, G1 = ms_I (ms_I G 16 (mm_I G (300 + w.toNat) 5).toNat (mm_I G 0 15)) 4 (mm_I G (300 + w.toNat) 4).toNat (mm_I G 4 (mm_I G (300 + w.toNat) 4).toNat - 1) ∧ G' = ms_I (ms_I (ms_I (ms_I (ms_I (ms_I (ms_I (ms_I (ms_I G1 (300 + w.toNat) 4 s) 13 c w) 14 c s) 15 c (mm_I G 0 15)) 16 c (-1)) 12 4 (c + 1)) (300 + w.toNat) 5 c) 4 s.toNat (mm_I G1 4 s.toNat + 1)) 24 11 1) ∨ ¬ (((0 ≤ w ∧ w < mm_I G 0 14) ∧ mm_I G (300 + w.toNat) 4 ≠ -1) ∧ mm_I G (300 + w.toNat) 4 ≠ s ∧ (0 ≤ s ∧ s ≤ 23 ∧ mm_I G 4 s.toNat < 4) ∧ c < 200) ∧ r = some (av_i 0) ∧ G' = G) := by
  have hW2 := hW.2.1
  have h := cm_K_lyingWheel X (d + 2) G hF hW hw
  by_cases hin : (0 ≤ w ∧ w < mm_I G 0 14) ∧ mm_I G (300 + w.toNat) 4 ≠ -1
  · rw [if_pos hin] at h
    have hst := hst w.toNat (by omega)
    have hsh := hsh w.toNat (by omega)
    have hn := hn w.toNat (by omega)
    have hl1 := hl1 w.toNat (by omega) hin.2
    have ht := cm_K_takeTo X d G (w := w.toNat) (s := s) hF (by omega)
    refine aw_enter pf_K_move (Nat.le_of_ble_eq_true rfl) ?_
    refine ar_aload_n (pc := 0) d_K_move_0 rfl ?_
    refine ar_iload_n (pc := 1) d_K_move_1 rfl ?_
    refine ac_virt (pc := 2) (N := mt_K_lyingWheel) _ _ mv_K_lyingWheel ml_K_125 ck_11 d_K_move_2 h (by first | rfl | exact sh_wheel (by omega) | exact sh_milk (by omega)) rfl rfl (Nat.le_of_ble_eq_true rfl) (Nat.le_of_eq (Nat.zero_add _)) (Nat.le_of_eq (Nat.zero_add _)) (fun r_2 G_2 h_2 => ?_)
    obtain ⟨rfl, e_2⟩ := h_2
    subst G_2
    refine ar_astore_n (pc := 5) d_K_move_5 rfl (by decide) ?_
    refine ar_aload_n (pc := 6) d_K_move_6 rfl ?_
    refine ar_ifnull (pc := 7) 40 d_K_move_7 (by decide) (fun h => by cases h) (fun _ _ => ?_)
    refine ar_aload_n (pc := 10) d_K_move_10 rfl ?_
    refine ar_getI (pc := 11) gf_K_138 d_K_move_11 (by first | rfl | exact sh_wheel (by omega) | exact sh_milk (by omega)) (fun r_11 => ?_)
    refine ar_iload_n (pc := 14) d_K_move_14 rfl ?_
    refine ar_icmp_eq (pc := 15) 40 d_K_move_15 (by decide) ⟨by omega, by omega⟩ ⟨by omega, by omega⟩ (fun h_15 => ?_) (fun h_15 => ?_)
    refine ar_iconst (pc := 40) d_K_move_40 ?_
    refine ar_zret (pc := 41) d_K_move_41 rfl (by omega) ?_
    rotate_left
    refine ar_aload_n (pc := 18) d_K_move_18 rfl ?_
    refine ar_getR (pc := 19) gf_K_10 d_K_move_19 (by first | rfl | exact sh_wheel (by omega) | exact sh_milk (by omega)) (hF _ _ _ rfl) ?_
    refine ar_iload_n (pc := 22) d_K_move_22 rfl ?_
    refine ac_virt (pc := 23) (N := mt_Sh_hasRoom) _ _ mv_Sh_hasRoom ml_K_107 ck_6 d_K_move_23 (cm_Sh_hasRoom _ _ _ hF hs hly) (by first | rfl | exact sh_wheel (by omega) | exact sh_milk (by omega)) rfl rfl (Nat.le_of_ble_eq_true rfl) (Nat.le_of_eq (Nat.zero_add _)) (Nat.le_of_eq (Nat.zero_add _)) (fun r_23 G_23 h_23 => ?_)
    obtain ⟨rfl, e_23⟩ := h_23
    subst G_23
    refine ar_if_eq (pc := 26) 40 d_K_move_26 (by decide) ⟨by omega, by omega⟩ (fun h_26 => ?_) (fun h_26 => ?_)
    refine ar_iconst (pc := 40) d_K_move_40 ?_
    refine ar_zret (pc := 41) d_K_move_41 rfl (by omega) ?_
    rotate_left
    refine ar_aload_n (pc := 29) d_K_move_29 rfl ?_
    refine ar_getR (pc := 30) gf_K_38 d_K_move_30 (by first | rfl | exact sh_wheel (by omega) | exact sh_milk (by omega)) (hF _ _ _ rfl) ?_
    refine ar_iconst (pc := 33) d_K_move_33 ?_
    refine ac_virt (pc := 34) (N := mt_St_haveRoomFor) _ _ mv_St_haveRoomFor ml_K_118 ck_7 d_K_move_34 (cm_St_haveRoomFor _ _ _ ⟨by omega, by omega⟩ (by omega)) (by first | rfl | exact sh_wheel (by omega) | exact sh_milk (by omega)) rfl rfl (Nat.le_of_ble_eq_true rfl) (Nat.le_of_eq (Nat.zero_add _)) (Nat.le_of_eq (Nat.zero_add _)) (fun r_34 G_34 h_34 => ?_)
    obtain ⟨rfl, e_34⟩ := h_34
    subst G_34
    refine ar_if_ne (pc := 37) 42 d_K_move_37 (by decide) ⟨by omega, by omega⟩ (fun h_37 => ?_) (fun h_37 => ?_)
    refine ar_aload_n (pc := 42) d_K_move_42 rfl ?_
    refine ar_aload_n (pc := 43) d_K_move_43 rfl ?_
    refine ar_iload_n (pc := 44) d_K_move_44 rfl ?_
    refine ac_virt (pc := 45) (N := mt_K_takeTo) _ _ mv_K_takeTo ml_K_217 ck_11 d_K_move_45 (ht (by omega) hn hc (by omega) hst (by omega) hly hl1) (by first | rfl | exact sh_wheel (by omega) | exact sh_milk (by omega)) rfl rfl (Nat.le_of_ble_eq_true rfl) (Nat.le_of_eq (Nat.zero_add _)) (Nat.le_of_eq (Nat.zero_add _)) (fun r_45 G_45 h_45 => ?_)
    obtain ⟨rfl, _, rfl, rfl⟩ := h_45
    refine ar_aload_n (pc := 48) d_K_move_48 rfl ?_
    refine ar_getR (pc := 49) gf_K_52 d_K_move_49 (by first | rfl | exact sh_wheel (by omega) | exact sh_milk (by omega)) (hF _ _ _ rfl) ?_
    refine ac_virt (pc := 52) (N := mt_Pl_spoil) _ _ mv_Pl_spoil ml_K_94 ck_4 d_K_move_52 (cm_Pl_spoil _ _ _) (by first | rfl | exact sh_wheel (by omega) | exact sh_milk (by omega)) rfl rfl (Nat.le_of_ble_eq_true rfl) (Nat.le_of_eq (Nat.zero_add _)) (Nat.le_of_eq (Nat.zero_add _)) (fun r_52 G_52 h_52 => ?_)
    obtain ⟨rfl, e_52⟩ := h_52
    subst G_52
    refine ar_iconst (pc := 55) d_K_move_55 ?_
    refine ar_zret (pc := 56) d_K_move_56 rfl (by omega) ?_
    rotate_left
    refine ar_iconst (pc := 40) d_K_move_40 ?_
    refine ar_zret (pc := 41) d_K_move_41 rfl (by omega) ?_
    rotate_left
    -- leaves: ret 41, ret 41, ret 56, ret 41
    all_goals first | exact Or.inr ⟨by omega, rfl, rfl⟩ | skip
    · refine Or.inl ⟨by omega, rfl, _, rfl, ?_⟩
      rw [Int.toNat_of_nonneg hin.1.1]
  · rw [if_neg hin] at h
    refine aw_enter pf_K_move (Nat.le_of_ble_eq_true rfl) ?_
    refine ar_aload_n (pc := 0) d_K_move_0 rfl ?_
    refine ar_iload_n (pc := 1) d_K_move_1 rfl ?_
    refine ac_virt (pc := 2) (N := mt_K_lyingWheel) _ _ mv_K_lyingWheel ml_K_125 ck_11 d_K_move_2 h (by first | rfl | exact sh_wheel (by omega) | exact sh_milk (by omega)) rfl rfl (Nat.le_of_ble_eq_true rfl) (Nat.le_of_eq (Nat.zero_add _)) (Nat.le_of_eq (Nat.zero_add _)) (fun r_2 G_2 h_2 => ?_)
    obtain ⟨rfl, e_2⟩ := h_2
    subst G_2
    refine ar_astore_n (pc := 5) d_K_move_5 rfl (by decide) ?_
    refine ar_aload_n (pc := 6) d_K_move_6 rfl ?_
    refine ar_ifnull (pc := 7) 40 d_K_move_7 (by decide) (fun _ => ?_) (fun _ h => by cases h)
    refine ar_iconst (pc := 40) d_K_move_40 ?_
    refine ar_zret (pc := 41) d_K_move_41 rfl (by omega) ?_
    rotate_left
    -- leaves: ret 41
    · exact Or.inr ⟨fun z => hin z.1, rfl, rfl⟩
