/-! ===== the reference: small methods ===== -/
theorem cm_Mo_isShelf (X : gx_T) (d : Nat) (G : mm_T) {s : Int} (hs : i3_in s) : aw_M X (d + 1) mt_Mo_isShelf [av_i s] G 0 0 (fun r G' => r = some (av_i (if 0 ≤ s ∧ s ≤ 23 then 1 else 0)) ∧ G' = G) := by
  refine aw_enter pf_Mo_isShelf (Nat.le_of_ble_eq_true rfl) ?_
  refine ar_iload_n (pc := 0) d_Mo_isShelf_0 rfl ?_
  refine ar_if_lt (pc := 1) 14 d_Mo_isShelf_1 (by decide) ⟨by omega, by omega⟩ (fun h_1 => ?_) (fun h_1 => ?_)
  refine ar_iconst (pc := 14) d_Mo_isShelf_14 ?_
  refine ar_zret (pc := 15) d_Mo_isShelf_15 rfl (by omega) ?_
  rotate_left
  refine ar_iload_n (pc := 4) d_Mo_isShelf_4 rfl ?_
  refine ar_bipush (pc := 5) d_Mo_isShelf_5 (by decide) ?_
  refine ar_icmp_ge (pc := 7) 14 d_Mo_isShelf_7 (by decide) ⟨by omega, by omega⟩ ⟨by omega, by omega⟩ (fun h_7 => ?_) (fun h_7 => ?_)
  refine ar_iconst (pc := 14) d_Mo_isShelf_14 ?_
  refine ar_zret (pc := 15) d_Mo_isShelf_15 rfl (by omega) ?_
  rotate_left
  refine ar_iconst (pc := 10) d_Mo_isShelf_10 ?_
  refine ar_goto (pc := 11) 15 d_Mo_isShelf_11 (by decide) ?_
  refine ar_zret (pc := 15) d_Mo_isShelf_15 rfl (by omega) ?_
  rotate_left
  -- leaves: ret 15, ret 15, ret 15
  all_goals (refine ⟨?_, rfl⟩)
  all_goals first | rw [if_pos (by omega)] | rw [if_neg (by omega)]
theorem cm_Mo_within (X : gx_T) (d : Nat) (G : mm_T) {v : Int} (hv : i3_in v) : aw_M X (d + 1) mt_Mo_within [av_i v] G 0 0 (fun r G' => r = some (av_i (max 0 (min v 1000000))) ∧ G' = G) := by
  refine aw_enter pf_Mo_within (Nat.le_of_ble_eq_true rfl) ?_
  refine ar_iload_n (pc := 0) d_Mo_within_0 rfl ?_
  refine ar_if_ge (pc := 1) 8 d_Mo_within_1 (by decide) ⟨by omega, by omega⟩ (fun h_1 => ?_) (fun h_1 => ?_)
  refine ar_iload_n (pc := 8) d_Mo_within_8 rfl ?_
  refine ar_ldcw (pc := 9) 1000000 ki_Mo_337 d_Mo_within_9 (by decide) ?_
  refine ar_icmp_le (pc := 12) 21 d_Mo_within_12 (by decide) ⟨by omega, by omega⟩ ⟨by omega, by omega⟩ (fun h_12 => ?_) (fun h_12 => ?_)
  refine ar_iload_n (pc := 21) d_Mo_within_21 rfl ?_
  refine ar_iret (pc := 22) d_Mo_within_22 rfl ?_
  rotate_left
  refine ar_ldcw (pc := 15) 1000000 ki_Mo_337 d_Mo_within_15 (by decide) ?_
  refine ar_goto (pc := 18) 22 d_Mo_within_18 (by decide) ?_
  refine ar_iret (pc := 22) d_Mo_within_22 rfl ?_
  rotate_left
  refine ar_iconst (pc := 4) d_Mo_within_4 ?_
  refine ar_goto (pc := 5) 22 d_Mo_within_5 (by decide) ?_
  refine ar_iret (pc := 22) d_Mo_within_22 rfl ?_
  rotate_left
  -- leaves: ret 22, ret 22, ret 22
  all_goals exact ⟨congrArg (fun x => some (av_i x)) (by omega), rfl⟩
theorem cm_Mo_air (X : gx_T) (d : Nat) (G : mm_T) {s a : Int} (hF : fx_R G) (hs : i3_in s) (ha : i3_in a) : aw_M X (d + 2) mt_Mo_air [av_r (some 60), av_i s, av_i a] G 0 0 (fun r G' => (0 ≤ s ∧ s ≤ 23 ∧ 0 ≤ a ∧ a ≤ 9) ∧ r = some (av_i 1) ∧ G' = ms_I (ms_I G 61 s.toNat a) 60 53 0 ∨ ¬ (0 ≤ s ∧ s ≤ 23 ∧ 0 ≤ a ∧ a ≤ 9) ∧ r = some (av_i 0) ∧ G' = G) := by
  refine aw_enter pf_Mo_air (Nat.le_of_ble_eq_true rfl) ?_
  refine ar_iload_n (pc := 0) d_Mo_air_0 rfl ?_
  refine ac_stat (pc := 1) (N := mt_Mo_isShelf) _ _ sv_Mo_isShelf ml_Mo_154 d_Mo_air_1 (cm_Mo_isShelf _ _ _ hs) rfl rfl (Nat.le_of_ble_eq_true rfl) (Nat.le_of_eq (Nat.zero_add _)) (Nat.le_of_eq (Nat.zero_add _)) (fun r_1 G_1 h_1 => ?_)
  obtain ⟨rfl, e_1⟩ := h_1
  subst G_1
  refine ar_if_eq (pc := 4) 17 d_Mo_air_4 (by decide) ⟨by omega, by omega⟩ (fun h_4 => ?_) (fun h_4 => ?_)
  refine ar_iconst (pc := 17) d_Mo_air_17 ?_
  refine ar_zret (pc := 18) d_Mo_air_18 rfl (by omega) ?_
  rotate_left
  refine ar_iload_n (pc := 7) d_Mo_air_7 rfl ?_
  refine ar_if_lt (pc := 8) 17 d_Mo_air_8 (by decide) ⟨by omega, by omega⟩ (fun h_8 => ?_) (fun h_8 => ?_)
  refine ar_iconst (pc := 17) d_Mo_air_17 ?_
  refine ar_zret (pc := 18) d_Mo_air_18 rfl (by omega) ?_
  rotate_left
  refine ar_iload_n (pc := 11) d_Mo_air_11 rfl ?_
  refine ar_bipush (pc := 12) d_Mo_air_12 (by decide) ?_
  refine ar_icmp_le (pc := 14) 19 d_Mo_air_14 (by decide) ⟨by omega, by omega⟩ ⟨by omega, by omega⟩ (fun h_14 => ?_) (fun h_14 => ?_)
  refine ar_aload_n (pc := 19) d_Mo_air_19 rfl ?_
  refine ar_getR (pc := 20) gf_Mo_7 d_Mo_air_20 (by first | rfl | exact sh_wheel (by omega) | exact sh_milk (by omega)) (hF _ _ _ rfl) ?_
  refine ar_iload_n (pc := 23) d_Mo_air_23 rfl ?_
  refine ar_iload_n (pc := 24) d_Mo_air_24 rfl ?_
  refine ar_iast (pc := 25) d_Mo_air_25 rfl _ (Int.toNat_of_nonneg (by omega)).symm (by omega) ⟨by omega, by omega⟩ ?_
  refine ar_aload_n (pc := 26) d_Mo_air_26 rfl ?_
  refine ar_iconst (pc := 27) d_Mo_air_27 ?_
  refine ar_putZ (pc := 28) gf_Mo_158 d_Mo_air_28 rfl (by first | rfl | exact sh_wheel (by omega) | exact sh_milk (by omega)) (by omega) ?_
  refine ar_iconst (pc := 31) d_Mo_air_31 ?_
  refine ar_zret (pc := 32) d_Mo_air_32 rfl (by omega) ?_
  rotate_left
  refine ar_iconst (pc := 17) d_Mo_air_17 ?_
  refine ar_zret (pc := 18) d_Mo_air_18 rfl (by omega) ?_
  rotate_left
  -- leaves: ret 18, ret 18, ret 32, ret 18
  all_goals first | exact Or.inr ⟨by omega, rfl, rfl⟩ | exact Or.inl ⟨by omega, rfl, rfl⟩
theorem cm_Mo_damp (X : gx_T) (d : Nat) (G : mm_T) {s a : Int} (hF : fx_R G) (hs : i3_in s) (ha : i3_in a) : aw_M X (d + 1) mt_Mo_damp [av_r (some 60), av_i s, av_i a] G 0 0 (fun r G' => (0 ≤ s ∧ s ≤ 3 ∧ 0 ≤ a ∧ a ≤ 99) ∧ r = some (av_i 1) ∧ G' = ms_I G 62 s.toNat a ∨ ¬ (0 ≤ s ∧ s ≤ 3 ∧ 0 ≤ a ∧ a ≤ 99) ∧ r = some (av_i 0) ∧ G' = G) := by
  refine aw_enter pf_Mo_damp (Nat.le_of_ble_eq_true rfl) ?_
  refine ar_iload_n (pc := 0) d_Mo_damp_0 rfl ?_
  refine ar_if_lt (pc := 1) 19 d_Mo_damp_1 (by decide) ⟨by omega, by omega⟩ (fun h_1 => ?_) (fun h_1 => ?_)
  refine ar_iconst (pc := 19) d_Mo_damp_19 ?_
  refine ar_zret (pc := 20) d_Mo_damp_20 rfl (by omega) ?_
  rotate_left
  refine ar_iload_n (pc := 4) d_Mo_damp_4 rfl ?_
  refine ar_iconst (pc := 5) d_Mo_damp_5 ?_
  refine ar_icmp_ge (pc := 6) 19 d_Mo_damp_6 (by decide) ⟨by omega, by omega⟩ ⟨by omega, by omega⟩ (fun h_6 => ?_) (fun h_6 => ?_)
  refine ar_iconst (pc := 19) d_Mo_damp_19 ?_
  refine ar_zret (pc := 20) d_Mo_damp_20 rfl (by omega) ?_
  rotate_left
  refine ar_iload_n (pc := 9) d_Mo_damp_9 rfl ?_
  refine ar_if_lt (pc := 10) 19 d_Mo_damp_10 (by decide) ⟨by omega, by omega⟩ (fun h_10 => ?_) (fun h_10 => ?_)
  refine ar_iconst (pc := 19) d_Mo_damp_19 ?_
  refine ar_zret (pc := 20) d_Mo_damp_20 rfl (by omega) ?_
  rotate_left
  refine ar_iload_n (pc := 13) d_Mo_damp_13 rfl ?_
  refine ar_bipush (pc := 14) d_Mo_damp_14 (by decide) ?_
  refine ar_icmp_le (pc := 16) 21 d_Mo_damp_16 (by decide) ⟨by omega, by omega⟩ ⟨by omega, by omega⟩ (fun h_16 => ?_) (fun h_16 => ?_)
  refine ar_aload_n (pc := 21) d_Mo_damp_21 rfl ?_
  refine ar_getR (pc := 22) gf_Mo_13 d_Mo_damp_22 (by first | rfl | exact sh_wheel (by omega) | exact sh_milk (by omega)) (hF _ _ _ rfl) ?_
  refine ar_iload_n (pc := 25) d_Mo_damp_25 rfl ?_
  refine ar_iload_n (pc := 26) d_Mo_damp_26 rfl ?_
  refine ar_iast (pc := 27) d_Mo_damp_27 rfl _ (Int.toNat_of_nonneg (by omega)).symm (by omega) ⟨by omega, by omega⟩ ?_
  refine ar_iconst (pc := 28) d_Mo_damp_28 ?_
  refine ar_zret (pc := 29) d_Mo_damp_29 rfl (by omega) ?_
  rotate_left
  refine ar_iconst (pc := 19) d_Mo_damp_19 ?_
  refine ar_zret (pc := 20) d_Mo_damp_20 rfl (by omega) ?_
  rotate_left
  -- leaves: ret 20, ret 20, ret 20, ret 29, ret 20
  all_goals first | exact Or.inr ⟨by omega, rfl, rfl⟩ | exact Or.inl ⟨by omega, rfl, rfl⟩
theorem cm_Mo_milk (X : gx_T) (d : Nat) (G : mm_T) {f l : Int} (hF : fx_R G) (hf : i3_in f) (hl : i3_in l) {c : Nat} (hc : mm_I G 60 3 = c) (hc2 : c ≤ 30) : aw_M X (d + 1) mt_Mo_milk [av_r (some 60), av_i f, av_i l] G 0 0 (fun r G' => (c < 30 ∧ 0 ≤ f ∧ f ≤ 99 ∧ 1 ≤ l ∧ l ≤ 1000) ∧ r = some (av_i c) ∧ G' = ms_I (ms_I (ms_I G 63 c f) 64 c l) 60 3 (c + 1) ∨ ¬ (c < 30 ∧ 0 ≤ f ∧ f ≤ 99 ∧ 1 ≤ l ∧ l ≤ 1000) ∧ r = some (av_i (-1)) ∧ G' = G) := by
  refine aw_enter pf_Mo_milk (Nat.le_of_ble_eq_true rfl) ?_
  refine ar_aload_n (pc := 0) d_Mo_milk_0 rfl ?_
  refine ar_getIv (pc := 1) gf_Mo_162 d_Mo_milk_1 (by first | rfl | exact sh_wheel (by omega) | exact sh_milk (by omega)) hc (fun r_1 => ?_)
  refine ar_bipush (pc := 4) d_Mo_milk_4 (by decide) ?_
  refine ar_icmp_eq (pc := 6) 31 d_Mo_milk_6 (by decide) ⟨by omega, by omega⟩ ⟨by omega, by omega⟩ (fun h_6 => ?_) (fun h_6 => ?_)
  refine ar_iconst (pc := 31) d_Mo_milk_31 ?_
  refine ar_iret (pc := 32) d_Mo_milk_32 rfl ?_
  rotate_left
  refine ar_iload_n (pc := 9) d_Mo_milk_9 rfl ?_
  refine ar_if_lt (pc := 10) 31 d_Mo_milk_10 (by decide) ⟨by omega, by omega⟩ (fun h_10 => ?_) (fun h_10 => ?_)
  refine ar_iconst (pc := 31) d_Mo_milk_31 ?_
  refine ar_iret (pc := 32) d_Mo_milk_32 rfl ?_
  rotate_left
  refine ar_iload_n (pc := 13) d_Mo_milk_13 rfl ?_
  refine ar_bipush (pc := 14) d_Mo_milk_14 (by decide) ?_
  refine ar_icmp_gt (pc := 16) 31 d_Mo_milk_16 (by decide) ⟨by omega, by omega⟩ ⟨by omega, by omega⟩ (fun h_16 => ?_) (fun h_16 => ?_)
  refine ar_iconst (pc := 31) d_Mo_milk_31 ?_
  refine ar_iret (pc := 32) d_Mo_milk_32 rfl ?_
  rotate_left
  refine ar_iload_n (pc := 19) d_Mo_milk_19 rfl ?_
  refine ar_iconst (pc := 20) d_Mo_milk_20 ?_
  refine ar_icmp_lt (pc := 21) 31 d_Mo_milk_21 (by decide) ⟨by omega, by omega⟩ ⟨by omega, by omega⟩ (fun h_21 => ?_) (fun h_21 => ?_)
  refine ar_iconst (pc := 31) d_Mo_milk_31 ?_
  refine ar_iret (pc := 32) d_Mo_milk_32 rfl ?_
  rotate_left
  refine ar_iload_n (pc := 24) d_Mo_milk_24 rfl ?_
  refine ar_sipush (pc := 25) d_Mo_milk_25 (by decide) ?_
  refine ar_icmp_le (pc := 28) 33 d_Mo_milk_28 (by decide) ⟨by omega, by omega⟩ ⟨by omega, by omega⟩ (fun h_28 => ?_) (fun h_28 => ?_)
  refine ar_aload_n (pc := 33) d_Mo_milk_33 rfl ?_
  refine ar_getR (pc := 34) gf_Mo_16 d_Mo_milk_34 (by first | rfl | exact sh_wheel (by omega) | exact sh_milk (by omega)) (hF _ _ _ rfl) ?_
  refine ar_aload_n (pc := 37) d_Mo_milk_37 rfl ?_
  refine ar_getIv (pc := 38) gf_Mo_162 d_Mo_milk_38 (by first | rfl | exact sh_wheel (by omega) | exact sh_milk (by omega)) hc (fun r_38 => ?_)
  refine ar_iload_n (pc := 41) d_Mo_milk_41 rfl ?_
  refine ar_iast (pc := 42) d_Mo_milk_42 rfl (c) (by omega) (by omega) ⟨by omega, by omega⟩ ?_
  refine ar_aload_n (pc := 43) d_Mo_milk_43 rfl ?_
  refine ar_getR (pc := 44) gf_Mo_19 d_Mo_milk_44 (by first | rfl | exact sh_wheel (by omega) | exact sh_milk (by omega)) (hF _ _ _ rfl) ?_
  refine ar_aload_n (pc := 47) d_Mo_milk_47 rfl ?_
  refine ar_getIv (pc := 48) gf_Mo_162 d_Mo_milk_48 (by first | rfl | exact sh_wheel (by omega) | exact sh_milk (by omega)) hc (fun r_48 => ?_)
  refine ar_iload_n (pc := 51) d_Mo_milk_51 rfl ?_
  refine ar_iast (pc := 52) d_Mo_milk_52 rfl (c) (by omega) (by omega) ⟨by omega, by omega⟩ ?_
  refine ar_aload_n (pc := 53) d_Mo_milk_53 rfl ?_
  refine ar_dup (pc := 54) d_Mo_milk_54 rfl ?_
  refine ar_getIv (pc := 55) gf_Mo_162 d_Mo_milk_55 (by first | rfl | exact sh_wheel (by omega) | exact sh_milk (by omega)) hc (fun r_55 => ?_)
  refine ar_iconst (pc := 58) d_Mo_milk_58 ?_
  refine ar_iadd (pc := 59) d_Mo_milk_59 ?_
  refine ar_putI (pc := 60) gf_Mo_162 d_Mo_milk_60 rfl (by first | rfl | exact sh_wheel (by omega) | exact sh_milk (by omega)) ⟨by omega, by omega⟩ ?_
  refine ar_aload_n (pc := 63) d_Mo_milk_63 rfl ?_
  refine ar_getI (pc := 64) gf_Mo_162 d_Mo_milk_64 (by first | rfl | exact sh_wheel (by omega) | exact sh_milk (by omega)) (fun r_64 => ?_)
  refine ar_iconst (pc := 67) d_Mo_milk_67 ?_
  refine ar_isub (pc := 68) d_Mo_milk_68 ?_
  refine ar_iret (pc := 69) d_Mo_milk_69 rfl ?_
  rotate_left
  refine ar_iconst (pc := 31) d_Mo_milk_31 ?_
  refine ar_iret (pc := 32) d_Mo_milk_32 rfl ?_
  rotate_left
  -- leaves: ret 32, ret 32, ret 32, ret 32, ret 69, ret 32
  all_goals first | exact Or.inr ⟨by omega, rfl, rfl⟩ | exact Or.inl ⟨by omega, congrArg (fun x => some (av_i x)) (show (c : Int) + 1 - 1 = c by omega), rfl⟩
theorem cm_Mo_canGive (X : gx_T) (d : Nat) (G : mm_T) {m l : Int} (hF : fx_R G) (hm : i3_in m) (hl : i3_in l) (hc : 0 ≤ mm_I G 60 3 ∧ mm_I G 60 3 ≤ 30) : aw_M X (d + 1) mt_Mo_canGive [av_r (some 60), av_i m, av_i l] G 0 0 (fun r G' => r = some (av_i (bv_p (m = -1 ∨ (0 ≤ m ∧ m < mm_I G 60 3 ∧ 1 ≤ l ∧ l ≤ mm_I G 64 m.toNat)))) ∧ G' = G) := by
  refine aw_enter pf_Mo_canGive (Nat.le_of_ble_eq_true rfl) ?_
  refine ar_iload_n (pc := 0) d_Mo_canGive_0 rfl ?_
  refine ar_iconst (pc := 1) d_Mo_canGive_1 ?_
  refine ar_icmp_eq (pc := 2) 32 d_Mo_canGive_2 (by decide) ⟨by omega, by omega⟩ ⟨by omega, by omega⟩ (fun h_2 => ?_) (fun h_2 => ?_)
  refine ar_iconst (pc := 32) d_Mo_canGive_32 ?_
  refine ar_goto (pc := 33) 37 d_Mo_canGive_33 (by decide) ?_
  refine ar_zret (pc := 37) d_Mo_canGive_37 rfl (by omega) ?_
  rotate_left
  refine ar_iload_n (pc := 5) d_Mo_canGive_5 rfl ?_
  refine ar_if_lt (pc := 6) 36 d_Mo_canGive_6 (by decide) ⟨by omega, by omega⟩ (fun h_6 => ?_) (fun h_6 => ?_)
  refine ar_iconst (pc := 36) d_Mo_canGive_36 ?_
  refine ar_zret (pc := 37) d_Mo_canGive_37 rfl (by omega) ?_
  rotate_left
  refine ar_iload_n (pc := 9) d_Mo_canGive_9 rfl ?_
  refine ar_aload_n (pc := 10) d_Mo_canGive_10 rfl ?_
  refine ar_getI (pc := 11) gf_Mo_162 d_Mo_canGive_11 (by first | rfl | exact sh_wheel (by omega) | exact sh_milk (by omega)) (fun r_11 => ?_)
  refine ar_icmp_ge (pc := 14) 36 d_Mo_canGive_14 (by decide) ⟨by omega, by omega⟩ ⟨by omega, by omega⟩ (fun h_14 => ?_) (fun h_14 => ?_)
  refine ar_iconst (pc := 36) d_Mo_canGive_36 ?_
  refine ar_zret (pc := 37) d_Mo_canGive_37 rfl (by omega) ?_
  rotate_left
  refine ar_iload_n (pc := 17) d_Mo_canGive_17 rfl ?_
  refine ar_iconst (pc := 18) d_Mo_canGive_18 ?_
  refine ar_icmp_lt (pc := 19) 36 d_Mo_canGive_19 (by decide) ⟨by omega, by omega⟩ ⟨by omega, by omega⟩ (fun h_19 => ?_) (fun h_19 => ?_)
  refine ar_iconst (pc := 36) d_Mo_canGive_36 ?_
  refine ar_zret (pc := 37) d_Mo_canGive_37 rfl (by omega) ?_
  rotate_left
  refine ar_iload_n (pc := 22) d_Mo_canGive_22 rfl ?_
  refine ar_aload_n (pc := 23) d_Mo_canGive_23 rfl ?_
  refine ar_getR (pc := 24) gf_Mo_19 d_Mo_canGive_24 (by first | rfl | exact sh_wheel (by omega) | exact sh_milk (by omega)) (hF _ _ _ rfl) ?_
  refine ar_iload_n (pc := 27) d_Mo_canGive_27 rfl ?_
  refine ar_iald (pc := 28) d_Mo_canGive_28 rfl _ (Int.toNat_of_nonneg (by omega)).symm (by omega) (fun r_28 => ?_)
  refine ar_icmp_gt (pc := 29) 36 d_Mo_canGive_29 (by decide) ⟨by omega, by omega⟩ ⟨by omega, by omega⟩ (fun h_29 => ?_) (fun h_29 => ?_)
  refine ar_iconst (pc := 36) d_Mo_canGive_36 ?_
  refine ar_zret (pc := 37) d_Mo_canGive_37 rfl (by omega) ?_
  rotate_left
  refine ar_iconst (pc := 32) d_Mo_canGive_32 ?_
  refine ar_goto (pc := 33) 37 d_Mo_canGive_33 (by decide) ?_
  refine ar_zret (pc := 37) d_Mo_canGive_37 rfl (by omega) ?_
  rotate_left
  -- leaves: ret 37, ret 37, ret 37, ret 37, ret 37, ret 37
  all_goals (refine ⟨congrArg (fun x => some (av_i x)) ?_, rfl⟩)
  all_goals first | exact bv_1 (by omega) | exact bv_0 (by omega)
/-- how many of the first n are s -/
def ct_n (f : Nat → Int) (s : Int) : Nat → Int
  | 0 => 0
  | n + 1 => ct_n f s n + (if f n = s then 1 else 0)
theorem ct_rng (f : Nat → Int) (s : Int) (n : Nat) : 0 ≤ ct_n f s n ∧ ct_n f s n ≤ n := by
  induction n with
  | zero => constructor <;> simp [ct_n]
  | succ n ih => rw [ct_n]; split <;> omega
theorem lp_Mo_lying (X : gx_T) (d : Nat) (G : mm_T) {s : Int} (hF : fx_R G) (hs : i3_in s) {w : Nat} (hw : mm_I G 60 4 = w) (hw2 : w ≤ 40) : ∀ n i, i + n = w → aw_W X mt_Mo_lying (d + 1) 4 [(0, some (av_r (some 60))), (1, some (av_i s)), (2, some (av_i (ct_n (mm_I G 67) s i))), (3, some (av_i (i : Int)))] [] G 0 0 (fun r G' => r = some (av_i (ct_n (mm_I G 67) s w)) ∧ G' = G) := by
  intro n
  induction n with
  | zero =>
    intro i hi
    refine ar_iload_n (pc := 4) d_Mo_lying_4 rfl ?_
    refine ar_aload_n (pc := 5) d_Mo_lying_5 rfl ?_
    refine ar_getIv (pc := 6) gf_Mo_165 d_Mo_lying_6 (by first | rfl | exact sh_wheel (by omega) | exact sh_milk (by omega)) hw (fun r_6 => ?_)
    refine ar_icmp_ge (pc := 9) 36 d_Mo_lying_9 (by decide) ⟨by omega, by omega⟩ ⟨by omega, by omega⟩ (fun h_9 => ?_) (fun h_9 => by exfalso; omega)
    refine ar_iload_n (pc := 36) d_Mo_lying_36 rfl ?_
    refine ar_iret (pc := 37) d_Mo_lying_37 rfl ?_
    rotate_left
    -- leaves: ret 37
    · rw [show i = w by omega]; exact ⟨rfl, rfl⟩
  | succ n ih =>
    intro i hi
    have ih1 := ih (i + 1) (by omega)
    rw [ct_n] at ih1
    refine ar_iload_n (pc := 4) d_Mo_lying_4 rfl ?_
    refine ar_aload_n (pc := 5) d_Mo_lying_5 rfl ?_
    refine ar_getIv (pc := 6) gf_Mo_165 d_Mo_lying_6 (by first | rfl | exact sh_wheel (by omega) | exact sh_milk (by omega)) hw (fun r_6 => ?_)
    refine ar_icmp_ge (pc := 9) 36 d_Mo_lying_9 (by decide) ⟨by omega, by omega⟩ ⟨by omega, by omega⟩ (fun h_9 => by exfalso; omega) (fun h_9 => ?_)
    refine ar_iload_n (pc := 12) d_Mo_lying_12 rfl ?_
    refine ar_aload_n (pc := 13) d_Mo_lying_13 rfl ?_
    refine ar_getR (pc := 14) gf_Mo_28 d_Mo_lying_14 (by first | rfl | exact sh_wheel (by omega) | exact sh_milk (by omega)) (hF _ _ _ rfl) ?_
    refine ar_iload_n (pc := 17) d_Mo_lying_17 rfl ?_
    refine ar_iald (pc := 18) d_Mo_lying_18 rfl (i) (by omega) (by omega) (fun r_18 => ?_)
    refine ar_iload_n (pc := 19) d_Mo_lying_19 rfl ?_
    refine ar_icmp_ne (pc := 20) 27 d_Mo_lying_20 (by decide) ⟨by omega, by omega⟩ ⟨by omega, by omega⟩ (fun h_20 => ?_) (fun h_20 => ?_)
    refine ar_iconst (pc := 27) d_Mo_lying_27 ?_
    refine ar_iadd (pc := 28) d_Mo_lying_28 ?_
    refine ar_istore_n (pc := 29) d_Mo_lying_29 rfl (by decide) ?_
    refine ar_iinc (pc := 30) d_Mo_lying_30 rfl rfl (by decide) ?_
    refine ar_goto (pc := 33) 4 d_Mo_lying_33 (by decide) ?_
    rotate_left
    refine ar_iconst (pc := 23) d_Mo_lying_23 ?_
    refine ar_goto (pc := 24) 28 d_Mo_lying_24 (by decide) ?_
    refine ar_iadd (pc := 28) d_Mo_lying_28 ?_
    refine ar_istore_n (pc := 29) d_Mo_lying_29 rfl (by decide) ?_
    refine ar_iinc (pc := 30) d_Mo_lying_30 rfl rfl (by decide) ?_
    refine ar_goto (pc := 33) 4 d_Mo_lying_33 (by decide) ?_
    rotate_left
    -- leaves: stop 4, stop 4
    · exact ar_loc ih1 ⟨rfl, rfl, li_i rfl (by rw [if_neg (by omega)]), li_i rfl (by omega), trivial⟩
    · exact ar_loc ih1 ⟨rfl, rfl, li_i rfl (by rw [if_pos (by omega)]), li_i rfl (by omega), trivial⟩
theorem cm_Mo_lying (X : gx_T) (d : Nat) (G : mm_T) {s : Int} (hF : fx_R G) (hs : i3_in s) {w : Nat} (hw : mm_I G 60 4 = w) (hw2 : w ≤ 40) : aw_M X (d + 1) mt_Mo_lying [av_r (some 60), av_i s] G 0 0 (fun r G' => r = some (av_i (ct_n (mm_I G 67) s w)) ∧ G' = G) := by
  refine aw_enter pf_Mo_lying (Nat.le_of_ble_eq_true rfl) ?_
  refine ar_iconst (pc := 0) d_Mo_lying_0 ?_
  refine ar_istore_n (pc := 1) d_Mo_lying_1 rfl (by decide) ?_
  refine ar_iconst (pc := 2) d_Mo_lying_2 ?_
  refine ar_istore_n (pc := 3) d_Mo_lying_3 rfl (by decide) ?_
  rotate_left
  -- leaves: stop 4
  · exact ar_loc (lp_Mo_lying X d G hF hs hw hw2 w 0 (by omega)) ⟨rfl, rfl, rfl, rfl, trivial⟩
theorem cm_Mo_give (X : gx_T) (d : Nat) (G : mm_T) {w m l : Int} (hF : fx_R G) (hw : 0 ≤ w ∧ w < 40) (hm : m = -1 ∨ (0 ≤ m ∧ m < 30 ∧ 1 ≤ l ∧ l ≤ mm_I G 64 m.toNat ∧ mm_I G 64 m.toNat ≤ 1000 ∧ 0 ≤ mm_I G 65 m.toNat ∧ mm_I G 65 m.toNat ≤ 400)) (hl : i3_in l) (hwt : 0 ≤ mm_I G 70 w.toNat ∧ mm_I G 70 w.toNat ≤ 300000) : aw_M X (d + 1) mt_Mo_give [av_r (some 60), av_i w, av_i m, av_i l] G 0 0 (fun r G' => r = none ∧ G' = if m = -1 then G else ms_I (ms_I (ms_I (ms_I G 64 m.toNat (mm_I G 64 m.toNat - l)) 65 m.toNat (mm_I G 65 m.toNat + 1)) 74 (40 * m + w).toNat 1) 70 w.toNat (mm_I G 70 w.toNat + 100 * l)) := by
  refine aw_enter pf_Mo_give (Nat.le_of_ble_eq_true rfl) ?_
  refine ar_iload_n (pc := 0) d_Mo_give_0 rfl ?_
  refine ar_iconst (pc := 1) d_Mo_give_1 ?_
  refine ar_icmp_ne (pc := 2) 6 d_Mo_give_2 (by decide) ⟨by omega, by omega⟩ ⟨by omega, by omega⟩ (fun h_2 => ?_) (fun h_2 => ?_)
  refine ar_aload_n (pc := 6) d_Mo_give_6 rfl ?_
  refine ar_getR (pc := 7) gf_Mo_19 d_Mo_give_7 (by first | rfl | exact sh_wheel (by omega) | exact sh_milk (by omega)) (hF _ _ _ rfl) ?_
  refine ar_iload_n (pc := 10) d_Mo_give_10 rfl ?_
  refine ar_dup2 (pc := 11) d_Mo_give_11 rfl rfl ?_
  refine ar_iald (pc := 12) d_Mo_give_12 rfl _ (Int.toNat_of_nonneg (by omega)).symm (by omega) (fun r_12 => ?_)
  refine ar_iload_n (pc := 13) d_Mo_give_13 rfl ?_
  refine ar_isub (pc := 14) d_Mo_give_14 ?_
  refine ar_iast (pc := 15) d_Mo_give_15 rfl _ (Int.toNat_of_nonneg (by omega)).symm (by omega) ⟨by omega, by omega⟩ ?_
  refine ar_aload_n (pc := 16) d_Mo_give_16 rfl ?_
  refine ar_getR (pc := 17) gf_Mo_22 d_Mo_give_17 (by first | rfl | exact sh_wheel (by omega) | exact sh_milk (by omega)) (hF _ _ _ rfl) ?_
  refine ar_iload_n (pc := 20) d_Mo_give_20 rfl ?_
  refine ar_dup2 (pc := 21) d_Mo_give_21 rfl rfl ?_
  refine ar_ialdv (pc := 22) d_Mo_give_22 rfl _ (Int.toNat_of_nonneg (by omega)).symm (by omega) (show _ = mm_I G 65 m.toNat from rfl) (fun r_22 => ?_)
  refine ar_iconst (pc := 23) d_Mo_give_23 ?_
  refine ar_iadd (pc := 24) d_Mo_give_24 ?_
  refine ar_iast (pc := 25) d_Mo_give_25 rfl _ (Int.toNat_of_nonneg (by omega)).symm (by omega) ⟨by omega, by omega⟩ ?_
  refine ar_aload_n (pc := 26) d_Mo_give_26 rfl ?_
  refine ar_getR (pc := 27) gf_Mo_49 d_Mo_give_27 (by first | rfl | exact sh_wheel (by omega) | exact sh_milk (by omega)) (hF _ _ _ rfl) ?_
  refine ar_bipush (pc := 30) d_Mo_give_30 (by decide) ?_
  refine ar_iload_n (pc := 32) d_Mo_give_32 rfl ?_
  refine ar_imul (pc := 33) d_Mo_give_33 ?_
  refine ar_iload_n (pc := 34) d_Mo_give_34 rfl ?_
  refine ar_iadd (pc := 35) d_Mo_give_35 ?_
  refine ar_iconst (pc := 36) d_Mo_give_36 ?_
  refine ar_zast (pc := 37) d_Mo_give_37 rfl _ (Int.toNat_of_nonneg (by omega)).symm (by omega) (by omega) ?_
  refine ar_aload_n (pc := 38) d_Mo_give_38 rfl ?_
  refine ar_getR (pc := 39) gf_Mo_37 d_Mo_give_39 (by first | rfl | exact sh_wheel (by omega) | exact sh_milk (by omega)) (hF _ _ _ rfl) ?_
  refine ar_iload_n (pc := 42) d_Mo_give_42 rfl ?_
  refine ar_dup2 (pc := 43) d_Mo_give_43 rfl rfl ?_
  refine ar_ialdv (pc := 44) d_Mo_give_44 rfl _ (Int.toNat_of_nonneg (by omega)).symm (by omega) (show _ = mm_I G 70 w.toNat from rfl) (fun r_44 => ?_)
  refine ar_bipush (pc := 45) d_Mo_give_45 (by decide) ?_
  refine ar_iload_n (pc := 47) d_Mo_give_47 rfl ?_
  refine ar_imul (pc := 48) d_Mo_give_48 ?_
  refine ar_iadd (pc := 49) d_Mo_give_49 ?_
  refine ar_iast (pc := 50) d_Mo_give_50 rfl _ (Int.toNat_of_nonneg (by omega)).symm (by omega) ⟨by omega, by omega⟩ ?_
  refine ar_ret (pc := 51) d_Mo_give_51 rfl ?_
  rotate_left
  refine ar_ret (pc := 5) d_Mo_give_5 rfl ?_
  rotate_left
  -- leaves: ret 51, ret 5
  · rw [if_neg (by omega)]; exact ⟨rfl, rfl⟩
  · rw [if_pos (by omega)]; exact ⟨rfl, rfl⟩
theorem cm_Mo_lay (X : gx_T) (d : Nat) (G : mm_T) {w s : Int} (hF : fx_R G) (hw : 0 ≤ w ∧ w < 40) (hs : 0 ≤ s ∧ s ≤ 23) {c : Nat} (hc : mm_I G 60 5 = c) (hc2 : c < 200) : aw_M X (d + 1) mt_Mo_lay [av_r (some 60), av_i w, av_i s] G 0 0 (fun r G' => r = none ∧ G' = ms_I (ms_I (ms_I (ms_I (ms_I (ms_I (ms_I G 67 w.toNat s) 73 w.toNat c) 75 c w) 76 c s) 77 c (mm_I G 60 0)) 78 c (-1)) 60 5 (c + 1)) := by
  refine aw_enter pf_Mo_lay (Nat.le_of_ble_eq_true rfl) ?_
  refine ar_aload_n (pc := 0) d_Mo_lay_0 rfl ?_
  refine ar_getR (pc := 1) gf_Mo_28 d_Mo_lay_1 (by first | rfl | exact sh_wheel (by omega) | exact sh_milk (by omega)) (hF _ _ _ rfl) ?_
  refine ar_iload_n (pc := 4) d_Mo_lay_4 rfl ?_
  refine ar_iload_n (pc := 5) d_Mo_lay_5 rfl ?_
  refine ar_iast (pc := 6) d_Mo_lay_6 rfl _ (Int.toNat_of_nonneg (by omega)).symm (by omega) ⟨by omega, by omega⟩ ?_
  refine ar_aload_n (pc := 7) d_Mo_lay_7 rfl ?_
  refine ar_getR (pc := 8) gf_Mo_46 d_Mo_lay_8 (by first | rfl | exact sh_wheel (by omega) | exact sh_milk (by omega)) (hF _ _ _ rfl) ?_
  refine ar_iload_n (pc := 11) d_Mo_lay_11 rfl ?_
  refine ar_aload_n (pc := 12) d_Mo_lay_12 rfl ?_
  refine ar_getIv (pc := 13) gf_Mo_168 d_Mo_lay_13 (by first | rfl | exact sh_wheel (by omega) | exact sh_milk (by omega)) hc (fun r_13 => ?_)
  refine ar_iast (pc := 16) d_Mo_lay_16 rfl _ (Int.toNat_of_nonneg (by omega)).symm (by omega) ⟨by omega, by omega⟩ ?_
  refine ar_aload_n (pc := 17) d_Mo_lay_17 rfl ?_
  refine ar_getR (pc := 18) gf_Mo_53 d_Mo_lay_18 (by first | rfl | exact sh_wheel (by omega) | exact sh_milk (by omega)) (hF _ _ _ rfl) ?_
  refine ar_aload_n (pc := 21) d_Mo_lay_21 rfl ?_
  refine ar_getIv (pc := 22) gf_Mo_168 d_Mo_lay_22 (by first | rfl | exact sh_wheel (by omega) | exact sh_milk (by omega)) hc (fun r_22 => ?_)
  refine ar_iload_n (pc := 25) d_Mo_lay_25 rfl ?_
  refine ar_iast (pc := 26) d_Mo_lay_26 rfl (c) (by omega) (by omega) ⟨by omega, by omega⟩ ?_
  refine ar_aload_n (pc := 27) d_Mo_lay_27 rfl ?_
  refine ar_getR (pc := 28) gf_Mo_56 d_Mo_lay_28 (by first | rfl | exact sh_wheel (by omega) | exact sh_milk (by omega)) (hF _ _ _ rfl) ?_
  refine ar_aload_n (pc := 31) d_Mo_lay_31 rfl ?_
  refine ar_getIv (pc := 32) gf_Mo_168 d_Mo_lay_32 (by first | rfl | exact sh_wheel (by omega) | exact sh_milk (by omega)) hc (fun r_32 => ?_)
  refine ar_iload_n (pc := 35) d_Mo_lay_35 rfl ?_
  refine ar_iast (pc := 36) d_Mo_lay_36 rfl (c) (by omega) (by omega) ⟨by omega, by omega⟩ ?_
  refine ar_aload_n (pc := 37) d_Mo_lay_37 rfl ?_
  refine ar_getR (pc := 38) gf_Mo_59 d_Mo_lay_38 (by first | rfl | exact sh_wheel (by omega) | exact sh_milk (by omega)) (hF _ _ _ rfl) ?_
  refine ar_aload_n (pc := 41) d_Mo_lay_41 rfl ?_
  refine ar_getIv (pc := 42) gf_Mo_168 d_Mo_lay_42 (by first | rfl | exact sh_wheel (by omega) | exact sh_milk (by omega)) hc (fun r_42 => ?_)
  refine ar_aload_n (pc := 45) d_Mo_lay_45 rfl ?_
  refine ar_getIv (pc := 46) gf_Mo_171 d_Mo_lay_46 (by first | rfl | exact sh_wheel (by omega) | exact sh_milk (by omega)) (show _ = mm_I G 60 0 from rfl) (fun r_46 => ?_)
  refine ar_iast (pc := 49) d_Mo_lay_49 rfl (c) (by omega) (by omega) r_46 ?_
  refine ar_aload_n (pc := 50) d_Mo_lay_50 rfl ?_
  refine ar_getR (pc := 51) gf_Mo_62 d_Mo_lay_51 (by first | rfl | exact sh_wheel (by omega) | exact sh_milk (by omega)) (hF _ _ _ rfl) ?_
  refine ar_aload_n (pc := 54) d_Mo_lay_54 rfl ?_
  refine ar_getIv (pc := 55) gf_Mo_168 d_Mo_lay_55 (by first | rfl | exact sh_wheel (by omega) | exact sh_milk (by omega)) hc (fun r_55 => ?_)
  refine ar_iconst (pc := 58) d_Mo_lay_58 ?_
  refine ar_iast (pc := 59) d_Mo_lay_59 rfl (c) (by omega) (by omega) ⟨by omega, by omega⟩ ?_
  refine ar_aload_n (pc := 60) d_Mo_lay_60 rfl ?_
  refine ar_dup (pc := 61) d_Mo_lay_61 rfl ?_
  refine ar_getIv (pc := 62) gf_Mo_168 d_Mo_lay_62 (by first | rfl | exact sh_wheel (by omega) | exact sh_milk (by omega)) hc (fun r_62 => ?_)
  refine ar_iconst (pc := 65) d_Mo_lay_65 ?_
  refine ar_iadd (pc := 66) d_Mo_lay_66 ?_
  refine ar_putI (pc := 67) gf_Mo_168 d_Mo_lay_67 rfl (by first | rfl | exact sh_wheel (by omega) | exact sh_milk (by omega)) ⟨by omega, by omega⟩ ?_
  refine ar_ret (pc := 70) d_Mo_lay_70 rfl ?_
  rotate_left
  -- leaves: ret 70
  · exact ⟨rfl, rfl⟩
theorem cm_Mo_go (X : gx_T) (d : Nat) (G : mm_T) {w s : Int} (hF : fx_R G) (hw : 0 ≤ w ∧ w < 40) (hs : 0 ≤ s ∧ s ≤ 23) {c : Nat} (hc : mm_I G 60 5 = c) (hc2 : c < 200) {q : Nat} (hq : mm_I G 73 w.toNat = q) (hq2 : q < 200) : aw_M X (d + 2) mt_Mo_go [av_r (some 60), av_i w, av_i s] G 0 0 (fun r G' => r = none ∧ G' = ms_I (ms_I (ms_I (ms_I (ms_I (ms_I (ms_I (ms_I G 78 q (mm_I G 60 0)) 67 w.toNat s) 73 w.toNat c) 75 c w) 76 c s) 77 c (mm_I G 60 0)) 78 c (-1)) 60 5 (c + 1)) := by
  refine aw_enter pf_Mo_go (Nat.le_of_ble_eq_true rfl) ?_
  refine ar_aload_n (pc := 0) d_Mo_go_0 rfl ?_
  refine ar_getR (pc := 1) gf_Mo_62 d_Mo_go_1 (by first | rfl | exact sh_wheel (by omega) | exact sh_milk (by omega)) (hF _ _ _ rfl) ?_
  refine ar_aload_n (pc := 4) d_Mo_go_4 rfl ?_
  refine ar_getR (pc := 5) gf_Mo_46 d_Mo_go_5 (by first | rfl | exact sh_wheel (by omega) | exact sh_milk (by omega)) (hF _ _ _ rfl) ?_
  refine ar_iload_n (pc := 8) d_Mo_go_8 rfl ?_
  refine ar_ialdv (pc := 9) d_Mo_go_9 rfl _ (Int.toNat_of_nonneg (by omega)).symm (by omega) hq (fun r_9 => ?_)
  refine ar_aload_n (pc := 10) d_Mo_go_10 rfl ?_
  refine ar_getI (pc := 11) gf_Mo_171 d_Mo_go_11 (by first | rfl | exact sh_wheel (by omega) | exact sh_milk (by omega)) (fun r_11 => ?_)
  refine ar_iast (pc := 14) d_Mo_go_14 rfl (q) (by omega) (by omega) r_11 ?_
  refine ar_aload_n (pc := 15) d_Mo_go_15 rfl ?_
  refine ar_iload_n (pc := 16) d_Mo_go_16 rfl ?_
  refine ar_iload_n (pc := 17) d_Mo_go_17 rfl ?_
  refine ac_virt (pc := 18) (N := mt_Mo_lay) _ _ mv_Mo_lay ml_Mo_186 ck_12 d_Mo_go_18 (cm_Mo_lay X _ (ms_I G 78 q (mm_I G 60 0)) hF hw hs hc hc2) (by first | rfl | exact sh_wheel (by omega) | exact sh_milk (by omega)) rfl rfl (Nat.le_of_ble_eq_true rfl) (Nat.le_of_eq (Nat.zero_add _)) (Nat.le_of_eq (Nat.zero_add _)) (fun r_18 G_18 h_18 => ?_)
  obtain ⟨rfl, e_18⟩ := h_18
  subst G_18
  refine ar_ret (pc := 21) d_Mo_go_21 rfl ?_
  rotate_left
  -- leaves: ret 21
  · exact ⟨rfl, rfl⟩
theorem cm_Mo_isWheel (X : gx_T) (d : Nat) (G : mm_T) {w : Int} (hw : i3_in w) : aw_M X (d + 1) mt_Mo_isWheel [av_r (some 60), av_i w] G 0 0 (fun r G' => r = some (av_i (if 0 ≤ w ∧ w < mm_I G 60 4 then 1 else 0)) ∧ G' = G) := by
  refine aw_enter pf_Mo_isWheel (Nat.le_of_ble_eq_true rfl) ?_
  refine ar_iload_n (pc := 0) d_Mo_isWheel_0 rfl ?_
  refine ar_if_lt (pc := 1) 16 d_Mo_isWheel_1 (by decide) ⟨by omega, by omega⟩ (fun h_1 => ?_) (fun h_1 => ?_)
  refine ar_iconst (pc := 16) d_Mo_isWheel_16 ?_
  refine ar_zret (pc := 17) d_Mo_isWheel_17 rfl (by omega) ?_
  rotate_left
  refine ar_iload_n (pc := 4) d_Mo_isWheel_4 rfl ?_
  refine ar_aload_n (pc := 5) d_Mo_isWheel_5 rfl ?_
  refine ar_getI (pc := 6) gf_Mo_165 d_Mo_isWheel_6 (by first | rfl | exact sh_wheel (by omega) | exact sh_milk (by omega)) (fun r_6 => ?_)
  refine ar_icmp_ge (pc := 9) 16 d_Mo_isWheel_9 (by decide) ⟨by omega, by omega⟩ ⟨by omega, by omega⟩ (fun h_9 => ?_) (fun h_9 => ?_)
  refine ar_iconst (pc := 16) d_Mo_isWheel_16 ?_
  refine ar_zret (pc := 17) d_Mo_isWheel_17 rfl (by omega) ?_
  rotate_left
  refine ar_iconst (pc := 12) d_Mo_isWheel_12 ?_
  refine ar_goto (pc := 13) 17 d_Mo_isWheel_13 (by decide) ?_
  refine ar_zret (pc := 17) d_Mo_isWheel_17 rfl (by omega) ?_
  rotate_left
  -- leaves: ret 17, ret 17, ret 17
  all_goals (refine ⟨?_, rfl⟩)
  all_goals first | rw [if_pos (by omega)] | rw [if_neg (by omega)]
theorem cm_Mo_lies (X : gx_T) (d : Nat) (G : mm_T) {w : Int} (hF : fx_R G) (hw : i3_in w) (hc : mm_I G 60 4 ≤ 40) : aw_M X (d + 2) mt_Mo_lies [av_r (some 60), av_i w] G 0 0 (fun r G' => r = some (av_i (if 0 ≤ w ∧ w < mm_I G 60 4 ∧ 0 ≤ mm_I G 67 w.toNat then 1 else 0)) ∧ G' = G) := by
  refine aw_enter pf_Mo_lies (Nat.le_of_ble_eq_true rfl) ?_
  refine ar_aload_n (pc := 0) d_Mo_lies_0 rfl ?_
  refine ar_iload_n (pc := 1) d_Mo_lies_1 rfl ?_
  refine ac_virt (pc := 2) (N := mt_Mo_isWheel) _ _ mv_Mo_isWheel ml_Mo_190 ck_12 d_Mo_lies_2 (cm_Mo_isWheel _ _ _ hw) (by first | rfl | exact sh_wheel (by omega) | exact sh_milk (by omega)) rfl rfl (Nat.le_of_ble_eq_true rfl) (Nat.le_of_eq (Nat.zero_add _)) (Nat.le_of_eq (Nat.zero_add _)) (fun r_2 G_2 h_2 => ?_)
  obtain ⟨rfl, e_2⟩ := h_2
  subst G_2
  refine ar_if_eq (pc := 5) 21 d_Mo_lies_5 (by decide) ⟨by omega, by omega⟩ (fun h_5 => ?_) (fun h_5 => ?_)
  refine ar_iconst (pc := 21) d_Mo_lies_21 ?_
  refine ar_zret (pc := 22) d_Mo_lies_22 rfl (by omega) ?_
  rotate_left
  refine ar_aload_n (pc := 8) d_Mo_lies_8 rfl ?_
  refine ar_getR (pc := 9) gf_Mo_28 d_Mo_lies_9 (by first | rfl | exact sh_wheel (by omega) | exact sh_milk (by omega)) (hF _ _ _ rfl) ?_
  refine ar_iload_n (pc := 12) d_Mo_lies_12 rfl ?_
  refine ar_iald (pc := 13) d_Mo_lies_13 rfl _ (Int.toNat_of_nonneg (by omega)).symm (by omega) (fun r_13 => ?_)
  refine ar_if_lt (pc := 14) 21 d_Mo_lies_14 (by decide) ⟨by omega, by omega⟩ (fun h_14 => ?_) (fun h_14 => ?_)
  refine ar_iconst (pc := 21) d_Mo_lies_21 ?_
  refine ar_zret (pc := 22) d_Mo_lies_22 rfl (by omega) ?_
  rotate_left
  refine ar_iconst (pc := 17) d_Mo_lies_17 ?_
  refine ar_goto (pc := 18) 22 d_Mo_lies_18 (by decide) ?_
  refine ar_zret (pc := 22) d_Mo_lies_22 rfl (by omega) ?_
  rotate_left
  -- leaves: ret 22, ret 22, ret 22
  all_goals (refine ⟨?_, rfl⟩)
  all_goals first | rw [if_pos (by omega)] | rw [if_neg (by omega)]
theorem cm_Mo_sell (X : gx_T) (d : Nat) (G : mm_T) {w : Int} (hF : fx_R G) (hw : i3_in w) (hc : mm_I G 60 4 ≤ 40) (hst : ∀ k, k < 40 → 0 ≤ mm_I G 73 k ∧ mm_I G 73 k < 200) : aw_M X (d + 3) mt_Mo_sell [av_r (some 60), av_i w] G 0 0 (fun r G' => (0 ≤ w ∧ w < mm_I G 60 4 ∧ 0 ≤ mm_I G 67 w.toNat) ∧ r = some (av_i 1) ∧ G' = ms_I (ms_I (ms_I G 78 (mm_I G 73 w.toNat).toNat (mm_I G 60 0)) 67 w.toNat (-1)) 60 53 0 ∨ ¬ (0 ≤ w ∧ w < mm_I G 60 4 ∧ 0 ≤ mm_I G 67 w.toNat) ∧ r = some (av_i 0) ∧ G' = G) := by
  have hst := hst w.toNat
  refine aw_enter pf_Mo_sell (Nat.le_of_ble_eq_true rfl) ?_
  refine ar_aload_n (pc := 0) d_Mo_sell_0 rfl ?_
  refine ar_iload_n (pc := 1) d_Mo_sell_1 rfl ?_
  refine ac_virt (pc := 2) (N := mt_Mo_lies) _ _ mv_Mo_lies ml_Mo_193 ck_12 d_Mo_sell_2 (cm_Mo_lies _ _ _ hF hw hc) (by first | rfl | exact sh_wheel (by omega) | exact sh_milk (by omega)) rfl rfl (Nat.le_of_ble_eq_true rfl) (Nat.le_of_eq (Nat.zero_add _)) (Nat.le_of_eq (Nat.zero_add _)) (fun r_2 G_2 h_2 => ?_)
  obtain ⟨rfl, e_2⟩ := h_2
  subst G_2
  refine ar_if_ne (pc := 5) 10 d_Mo_sell_5 (by decide) ⟨by omega, by omega⟩ (fun h_5 => ?_) (fun h_5 => ?_)
  refine ar_aload_n (pc := 10) d_Mo_sell_10 rfl ?_
  refine ar_getR (pc := 11) gf_Mo_62 d_Mo_sell_11 (by first | rfl | exact sh_wheel (by omega) | exact sh_milk (by omega)) (hF _ _ _ rfl) ?_
  refine ar_aload_n (pc := 14) d_Mo_sell_14 rfl ?_
  refine ar_getR (pc := 15) gf_Mo_46 d_Mo_sell_15 (by first | rfl | exact sh_wheel (by omega) | exact sh_milk (by omega)) (hF _ _ _ rfl) ?_
  refine ar_iload_n (pc := 18) d_Mo_sell_18 rfl ?_
  refine ar_iald (pc := 19) d_Mo_sell_19 rfl _ (Int.toNat_of_nonneg (by omega)).symm (by omega) (fun r_19 => ?_)
  refine ar_aload_n (pc := 20) d_Mo_sell_20 rfl ?_
  refine ar_getI (pc := 21) gf_Mo_171 d_Mo_sell_21 (by first | rfl | exact sh_wheel (by omega) | exact sh_milk (by omega)) (fun r_21 => ?_)
  refine ar_iast (pc := 24) d_Mo_sell_24 rfl _ (Int.toNat_of_nonneg (by omega)).symm (by omega) r_21 ?_
  refine ar_aload_n (pc := 25) d_Mo_sell_25 rfl ?_
  refine ar_getR (pc := 26) gf_Mo_28 d_Mo_sell_26 (by first | rfl | exact sh_wheel (by omega) | exact sh_milk (by omega)) (hF _ _ _ rfl) ?_
  refine ar_iload_n (pc := 29) d_Mo_sell_29 rfl ?_
  refine ar_iconst (pc := 30) d_Mo_sell_30 ?_
  refine ar_iast (pc := 31) d_Mo_sell_31 rfl _ (Int.toNat_of_nonneg (by omega)).symm (by omega) ⟨by omega, by omega⟩ ?_
  refine ar_aload_n (pc := 32) d_Mo_sell_32 rfl ?_
  refine ar_iconst (pc := 33) d_Mo_sell_33 ?_
  refine ar_putZ (pc := 34) gf_Mo_158 d_Mo_sell_34 rfl (by first | rfl | exact sh_wheel (by omega) | exact sh_milk (by omega)) (by omega) ?_
  refine ar_iconst (pc := 37) d_Mo_sell_37 ?_
  refine ar_zret (pc := 38) d_Mo_sell_38 rfl (by omega) ?_
  rotate_left
  refine ar_iconst (pc := 8) d_Mo_sell_8 ?_
  refine ar_zret (pc := 9) d_Mo_sell_9 rfl (by omega) ?_
  rotate_left
  -- leaves: ret 38, ret 9
  · exact Or.inl ⟨by omega, rfl, rfl⟩
  · exact Or.inr ⟨by omega, rfl, rfl⟩
theorem cm_Mo_end (X : gx_T) (d : Nat) (G : mm_T) {n : Int} (hn : i3_in n) : aw_M X (d + 1) mt_Mo_end [av_r (some 60), av_i n] G 0 0 (fun r G' => (0 ≤ n ∧ n ≤ mm_I G 60 35) ∧ r = some (av_i n) ∧ G' = ms_I G 60 35 n ∨ ¬ (0 ≤ n ∧ n ≤ mm_I G 60 35) ∧ r = some (av_i (-1)) ∧ G' = G) := by
  refine aw_enter pf_Mo_end (Nat.le_of_ble_eq_true rfl) ?_
  refine ar_iload_n (pc := 0) d_Mo_end_0 rfl ?_
  refine ar_if_lt (pc := 1) 12 d_Mo_end_1 (by decide) ⟨by omega, by omega⟩ (fun h_1 => ?_) (fun h_1 => ?_)
  refine ar_iconst (pc := 12) d_Mo_end_12 ?_
  refine ar_iret (pc := 13) d_Mo_end_13 rfl ?_
  rotate_left
  refine ar_iload_n (pc := 4) d_Mo_end_4 rfl ?_
  refine ar_aload_n (pc := 5) d_Mo_end_5 rfl ?_
  refine ar_getI (pc := 6) gf_Mo_196 d_Mo_end_6 (by first | rfl | exact sh_wheel (by omega) | exact sh_milk (by omega)) (fun r_6 => ?_)
  refine ar_icmp_le (pc := 9) 14 d_Mo_end_9 (by decide) ⟨by omega, by omega⟩ ⟨by omega, by omega⟩ (fun h_9 => ?_) (fun h_9 => ?_)
  refine ar_aload_n (pc := 14) d_Mo_end_14 rfl ?_
  refine ar_iload_n (pc := 15) d_Mo_end_15 rfl ?_
  refine ar_putI (pc := 16) gf_Mo_196 d_Mo_end_16 rfl (by first | rfl | exact sh_wheel (by omega) | exact sh_milk (by omega)) ⟨by omega, by omega⟩ ?_
  refine ar_iload_n (pc := 19) d_Mo_end_19 rfl ?_
  refine ar_iret (pc := 20) d_Mo_end_20 rfl ?_
  rotate_left
  refine ar_iconst (pc := 12) d_Mo_end_12 ?_
  refine ar_iret (pc := 13) d_Mo_end_13 rfl ?_
  rotate_left
  -- leaves: ret 13, ret 20, ret 13
  all_goals first | exact Or.inr ⟨by omega, rfl, rfl⟩ | exact Or.inl ⟨by omega, rfl, rfl⟩
theorem cm_Mo_fault (X : gx_T) (d : Nat) (G : mm_T) {w : Int} (hw : i3_in w) : aw_M X (d + 1) mt_Mo_fault [av_r (some 60), av_i w] G 0 0 (fun r G' => r = some (av_i (if w = 0 then mm_I G 60 36 else if w = 1 then mm_I G 60 37 else -1)) ∧ G' = G) := by
  refine aw_enter pf_Mo_fault (Nat.le_of_ble_eq_true rfl) ?_
  refine ar_iload_n (pc := 0) d_Mo_fault_0 rfl ?_
  refine ar_if_ne (pc := 1) 11 d_Mo_fault_1 (by decide) ⟨by omega, by omega⟩ (fun h_1 => ?_) (fun h_1 => ?_)
  refine ar_iload_n (pc := 11) d_Mo_fault_11 rfl ?_
  refine ar_iconst (pc := 12) d_Mo_fault_12 ?_
  refine ar_icmp_ne (pc := 13) 23 d_Mo_fault_13 (by decide) ⟨by omega, by omega⟩ ⟨by omega, by omega⟩ (fun h_13 => ?_) (fun h_13 => ?_)
  refine ar_iconst (pc := 23) d_Mo_fault_23 ?_
  refine ar_iret (pc := 24) d_Mo_fault_24 rfl ?_
  rotate_left
  refine ar_aload_n (pc := 16) d_Mo_fault_16 rfl ?_
  refine ar_getI (pc := 17) gf_Mo_92 d_Mo_fault_17 (by first | rfl | exact sh_wheel (by omega) | exact sh_milk (by omega)) (fun r_17 => ?_)
  refine ar_goto (pc := 20) 24 d_Mo_fault_20 (by decide) ?_
  refine ar_iret (pc := 24) d_Mo_fault_24 rfl ?_
  rotate_left
  refine ar_aload_n (pc := 4) d_Mo_fault_4 rfl ?_
  refine ar_getI (pc := 5) gf_Mo_234 d_Mo_fault_5 (by first | rfl | exact sh_wheel (by omega) | exact sh_milk (by omega)) (fun r_5 => ?_)
  refine ar_goto (pc := 8) 24 d_Mo_fault_8 (by decide) ?_
  refine ar_iret (pc := 24) d_Mo_fault_24 rfl ?_
  rotate_left
  -- leaves: ret 24, ret 24, ret 24
  · refine ⟨?_, rfl⟩; rw [if_neg (by omega), if_neg (by omega)]
  · refine ⟨?_, rfl⟩; rw [if_neg (by omega), if_pos (by omega)]
  · refine ⟨?_, rfl⟩; rw [if_pos (by omega)]
theorem cm_Mo_from (X : gx_T) (d : Nat) (G : mm_T) {m w : Int} (hF : fx_R G) (hm : i3_in m) (hw : i3_in w) (hc : mm_I G 60 3 ≤ 30) : aw_M X (d + 1) mt_Mo_from [av_r (some 60), av_i m, av_i w] G 0 0 (fun r G' => r = some (av_i (if 0 ≤ m ∧ m < mm_I G 60 3 then (if w = 0 then mm_I G 63 m.toNat else if w = 1 then mm_I G 64 m.toNat else if w = 2 then mm_I G 65 m.toNat else -1) else -1)) ∧ G' = G) := by
  refine aw_enter pf_Mo_from (Nat.le_of_ble_eq_true rfl) ?_
  refine ar_iload_n (pc := 0) d_Mo_from_0 rfl ?_
  refine ar_if_lt (pc := 1) 12 d_Mo_from_1 (by decide) ⟨by omega, by omega⟩ (fun h_1 => ?_) (fun h_1 => ?_)
  refine ar_iconst (pc := 12) d_Mo_from_12 ?_
  refine ar_iret (pc := 13) d_Mo_from_13 rfl ?_
  rotate_left
  refine ar_iload_n (pc := 4) d_Mo_from_4 rfl ?_
  refine ar_aload_n (pc := 5) d_Mo_from_5 rfl ?_
  refine ar_getI (pc := 6) gf_Mo_162 d_Mo_from_6 (by first | rfl | exact sh_wheel (by omega) | exact sh_milk (by omega)) (fun r_6 => ?_)
  refine ar_icmp_lt (pc := 9) 14 d_Mo_from_9 (by decide) ⟨by omega, by omega⟩ ⟨by omega, by omega⟩ (fun h_9 => ?_) (fun h_9 => ?_)
  refine ar_iload_n (pc := 14) d_Mo_from_14 rfl ?_
  refine ar_if_ne (pc := 15) 27 d_Mo_from_15 (by decide) ⟨by omega, by omega⟩ (fun h_15 => ?_) (fun h_15 => ?_)
  refine ar_iload_n (pc := 27) d_Mo_from_27 rfl ?_
  refine ar_iconst (pc := 28) d_Mo_from_28 ?_
  refine ar_icmp_ne (pc := 29) 41 d_Mo_from_29 (by decide) ⟨by omega, by omega⟩ ⟨by omega, by omega⟩ (fun h_29 => ?_) (fun h_29 => ?_)
  refine ar_iload_n (pc := 41) d_Mo_from_41 rfl ?_
  refine ar_iconst (pc := 42) d_Mo_from_42 ?_
  refine ar_icmp_ne (pc := 43) 55 d_Mo_from_43 (by decide) ⟨by omega, by omega⟩ ⟨by omega, by omega⟩ (fun h_43 => ?_) (fun h_43 => ?_)
  refine ar_iconst (pc := 55) d_Mo_from_55 ?_
  refine ar_iret (pc := 56) d_Mo_from_56 rfl ?_
  rotate_left
  refine ar_aload_n (pc := 46) d_Mo_from_46 rfl ?_
  refine ar_getR (pc := 47) gf_Mo_22 d_Mo_from_47 (by first | rfl | exact sh_wheel (by omega) | exact sh_milk (by omega)) (hF _ _ _ rfl) ?_
  refine ar_iload_n (pc := 50) d_Mo_from_50 rfl ?_
  refine ar_iald (pc := 51) d_Mo_from_51 rfl _ (Int.toNat_of_nonneg (by omega)).symm (by omega) (fun r_51 => ?_)
  refine ar_goto (pc := 52) 56 d_Mo_from_52 (by decide) ?_
  refine ar_iret (pc := 56) d_Mo_from_56 rfl ?_
  rotate_left
  refine ar_aload_n (pc := 32) d_Mo_from_32 rfl ?_
  refine ar_getR (pc := 33) gf_Mo_19 d_Mo_from_33 (by first | rfl | exact sh_wheel (by omega) | exact sh_milk (by omega)) (hF _ _ _ rfl) ?_
  refine ar_iload_n (pc := 36) d_Mo_from_36 rfl ?_
  refine ar_iald (pc := 37) d_Mo_from_37 rfl _ (Int.toNat_of_nonneg (by omega)).symm (by omega) (fun r_37 => ?_)
  refine ar_goto (pc := 38) 56 d_Mo_from_38 (by decide) ?_
  refine ar_iret (pc := 56) d_Mo_from_56 rfl ?_
  rotate_left
  refine ar_aload_n (pc := 18) d_Mo_from_18 rfl ?_
  refine ar_getR (pc := 19) gf_Mo_16 d_Mo_from_19 (by first | rfl | exact sh_wheel (by omega) | exact sh_milk (by omega)) (hF _ _ _ rfl) ?_
  refine ar_iload_n (pc := 22) d_Mo_from_22 rfl ?_
  refine ar_iald (pc := 23) d_Mo_from_23 rfl _ (Int.toNat_of_nonneg (by omega)).symm (by omega) (fun r_23 => ?_)
  refine ar_goto (pc := 24) 56 d_Mo_from_24 (by decide) ?_
  refine ar_iret (pc := 56) d_Mo_from_56 rfl ?_
  rotate_left
  refine ar_iconst (pc := 12) d_Mo_from_12 ?_
  refine ar_iret (pc := 13) d_Mo_from_13 rfl ?_
  rotate_left
  -- leaves: ret 13, ret 56, ret 56, ret 56, ret 56, ret 13
  all_goals (refine ⟨congrArg (fun x => some (av_i x)) ?_, rfl⟩)
  all_goals omega
theorem cm_Mo_band (X : gx_T) (d : Nat) (G : mm_T) {kd ag le mo : Int} (hF : fx_R G) (h0 : i3_in kd) (h1 : i3_in ag) (h2 : i3_in le) (h3 : i3_in mo) (hc : ∀ k, k < 3 → 0 ≤ mm_I G 91 k ∧ mm_I G 91 k ≤ 4) : aw_M X (d + 1) mt_Mo_band [av_r (some 60), av_i kd, av_i ag, av_i le, av_i mo] G 0 0 (fun r G' => ((0 ≤ kd ∧ kd ≤ 2) ∧ mm_I G 91 kd.toNat < 4 ∧ 0 ≤ ag ∧ ag ≤ 1000 ∧ 0 ≤ le ∧ le ≤ mo ∧ mo ≤ 9) ∧ r = some (av_i (mm_I G 91 kd.toNat + 1)) ∧ G' = ms_I (ms_I (ms_I (ms_I (ms_I G 92 (4 * kd + mm_I G 91 kd.toNat).toNat ag) 93 (4 * kd + mm_I G 91 kd.toNat).toNat le) 94 (4 * kd + mm_I G 91 kd.toNat).toNat mo) 91 kd.toNat (mm_I G 91 kd.toNat + 1)) 60 53 0 ∨ ¬ ((0 ≤ kd ∧ kd ≤ 2) ∧ mm_I G 91 kd.toNat < 4 ∧ 0 ≤ ag ∧ ag ≤ 1000 ∧ 0 ≤ le ∧ le ≤ mo ∧ mo ≤ 9) ∧ r = some (av_i (-1)) ∧ G' = G) := by
  have hc := hc kd.toNat
  refine aw_enter pf_Mo_band (Nat.le_of_ble_eq_true rfl) ?_
  refine ar_iload_n (pc := 0) d_Mo_band_0 rfl ?_
  refine ar_if_lt (pc := 1) 47 d_Mo_band_1 (by decide) ⟨by omega, by omega⟩ (fun h_1 => ?_) (fun h_1 => ?_)
  refine ar_iconst (pc := 47) d_Mo_band_47 ?_
  refine ar_iret (pc := 48) d_Mo_band_48 rfl ?_
  rotate_left
  refine ar_iload_n (pc := 4) d_Mo_band_4 rfl ?_
  refine ar_iconst (pc := 5) d_Mo_band_5 ?_
  refine ar_icmp_gt (pc := 6) 47 d_Mo_band_6 (by decide) ⟨by omega, by omega⟩ ⟨by omega, by omega⟩ (fun h_6 => ?_) (fun h_6 => ?_)
  refine ar_iconst (pc := 47) d_Mo_band_47 ?_
  refine ar_iret (pc := 48) d_Mo_band_48 rfl ?_
  rotate_left
  refine ar_aload_n (pc := 9) d_Mo_band_9 rfl ?_
  refine ar_getR (pc := 10) gf_Mo_105 d_Mo_band_10 (by first | rfl | exact sh_wheel (by omega) | exact sh_milk (by omega)) (hF _ _ _ rfl) ?_
  refine ar_iload_n (pc := 13) d_Mo_band_13 rfl ?_
  refine ar_iald (pc := 14) d_Mo_band_14 rfl _ (Int.toNat_of_nonneg (by omega)).symm (by omega) (fun r_14 => ?_)
  refine ar_iconst (pc := 15) d_Mo_band_15 ?_
  refine ar_icmp_eq (pc := 16) 47 d_Mo_band_16 (by decide) ⟨by omega, by omega⟩ ⟨by omega, by omega⟩ (fun h_16 => ?_) (fun h_16 => ?_)
  refine ar_iconst (pc := 47) d_Mo_band_47 ?_
  refine ar_iret (pc := 48) d_Mo_band_48 rfl ?_
  rotate_left
  refine ar_iload_n (pc := 19) d_Mo_band_19 rfl ?_
  refine ar_if_lt (pc := 20) 47 d_Mo_band_20 (by decide) ⟨by omega, by omega⟩ (fun h_20 => ?_) (fun h_20 => ?_)
  refine ar_iconst (pc := 47) d_Mo_band_47 ?_
  refine ar_iret (pc := 48) d_Mo_band_48 rfl ?_
  rotate_left
  refine ar_iload_n (pc := 23) d_Mo_band_23 rfl ?_
  refine ar_sipush (pc := 24) d_Mo_band_24 (by decide) ?_
  refine ar_icmp_gt (pc := 27) 47 d_Mo_band_27 (by decide) ⟨by omega, by omega⟩ ⟨by omega, by omega⟩ (fun h_27 => ?_) (fun h_27 => ?_)
  refine ar_iconst (pc := 47) d_Mo_band_47 ?_
  refine ar_iret (pc := 48) d_Mo_band_48 rfl ?_
  rotate_left
  refine ar_iload_n (pc := 30) d_Mo_band_30 rfl ?_
  refine ar_if_lt (pc := 31) 47 d_Mo_band_31 (by decide) ⟨by omega, by omega⟩ (fun h_31 => ?_) (fun h_31 => ?_)
  refine ar_iconst (pc := 47) d_Mo_band_47 ?_
  refine ar_iret (pc := 48) d_Mo_band_48 rfl ?_
  rotate_left
  refine ar_iload_n (pc := 34) d_Mo_band_34 rfl ?_
  refine ar_iload (pc := 35) d_Mo_band_35 rfl ?_
  refine ar_icmp_gt (pc := 37) 47 d_Mo_band_37 (by decide) ⟨by omega, by omega⟩ ⟨by omega, by omega⟩ (fun h_37 => ?_) (fun h_37 => ?_)
  refine ar_iconst (pc := 47) d_Mo_band_47 ?_
  refine ar_iret (pc := 48) d_Mo_band_48 rfl ?_
  rotate_left
  refine ar_iload (pc := 40) d_Mo_band_40 rfl ?_
  refine ar_bipush (pc := 42) d_Mo_band_42 (by decide) ?_
  refine ar_icmp_le (pc := 44) 49 d_Mo_band_44 (by decide) ⟨by omega, by omega⟩ ⟨by omega, by omega⟩ (fun h_44 => ?_) (fun h_44 => ?_)
  refine ar_iconst (pc := 49) d_Mo_band_49 ?_
  refine ar_iload_n (pc := 50) d_Mo_band_50 rfl ?_
  refine ar_imul (pc := 51) d_Mo_band_51 ?_
  refine ar_aload_n (pc := 52) d_Mo_band_52 rfl ?_
  refine ar_getR (pc := 53) gf_Mo_105 d_Mo_band_53 (by first | rfl | exact sh_wheel (by omega) | exact sh_milk (by omega)) (hF _ _ _ rfl) ?_
  refine ar_iload_n (pc := 56) d_Mo_band_56 rfl ?_
  refine ar_iald (pc := 57) d_Mo_band_57 rfl _ (Int.toNat_of_nonneg (by omega)).symm (by omega) (fun r_57 => ?_)
  refine ar_iadd (pc := 58) d_Mo_band_58 ?_
  refine ar_istore (pc := 59) d_Mo_band_59 rfl (by decide) ?_
  refine ar_aload_n (pc := 61) d_Mo_band_61 rfl ?_
  refine ar_getR (pc := 62) gf_Mo_108 d_Mo_band_62 (by first | rfl | exact sh_wheel (by omega) | exact sh_milk (by omega)) (hF _ _ _ rfl) ?_
  refine ar_iload (pc := 65) d_Mo_band_65 rfl ?_
  refine ar_iload_n (pc := 67) d_Mo_band_67 rfl ?_
  refine ar_iast (pc := 68) d_Mo_band_68 rfl _ (Int.toNat_of_nonneg (by omega)).symm (by omega) ⟨by omega, by omega⟩ ?_
  refine ar_aload_n (pc := 69) d_Mo_band_69 rfl ?_
  refine ar_getR (pc := 70) gf_Mo_111 d_Mo_band_70 (by first | rfl | exact sh_wheel (by omega) | exact sh_milk (by omega)) (hF _ _ _ rfl) ?_
  refine ar_iload (pc := 73) d_Mo_band_73 rfl ?_
  refine ar_iload_n (pc := 75) d_Mo_band_75 rfl ?_
  refine ar_iast (pc := 76) d_Mo_band_76 rfl _ (Int.toNat_of_nonneg (by omega)).symm (by omega) ⟨by omega, by omega⟩ ?_
  refine ar_aload_n (pc := 77) d_Mo_band_77 rfl ?_
  refine ar_getR (pc := 78) gf_Mo_114 d_Mo_band_78 (by first | rfl | exact sh_wheel (by omega) | exact sh_milk (by omega)) (hF _ _ _ rfl) ?_
  refine ar_iload (pc := 81) d_Mo_band_81 rfl ?_
  refine ar_iload (pc := 83) d_Mo_band_83 rfl ?_
  refine ar_iast (pc := 85) d_Mo_band_85 rfl _ (Int.toNat_of_nonneg (by omega)).symm (by omega) ⟨by omega, by omega⟩ ?_
  refine ar_aload_n (pc := 86) d_Mo_band_86 rfl ?_
  refine ar_getR (pc := 87) gf_Mo_105 d_Mo_band_87 (by first | rfl | exact sh_wheel (by omega) | exact sh_milk (by omega)) (hF _ _ _ rfl) ?_
  refine ar_iload_n (pc := 90) d_Mo_band_90 rfl ?_
  refine ar_dup2 (pc := 91) d_Mo_band_91 rfl rfl ?_
  refine ar_iald (pc := 92) d_Mo_band_92 rfl _ (Int.toNat_of_nonneg (by omega)).symm (by omega) (fun r_92 => ?_)
  refine ar_iconst (pc := 93) d_Mo_band_93 ?_
  refine ar_iadd (pc := 94) d_Mo_band_94 ?_
  refine ar_iast (pc := 95) d_Mo_band_95 rfl _ (Int.toNat_of_nonneg (by omega)).symm (by omega) (show i3_in (mm_I G 91 kd.toNat + 1) from ⟨by omega, by omega⟩) ?_
  refine ar_aload_n (pc := 96) d_Mo_band_96 rfl ?_
  refine ar_iconst (pc := 97) d_Mo_band_97 ?_
  refine ar_putZ (pc := 98) gf_Mo_158 d_Mo_band_98 rfl (by first | rfl | exact sh_wheel (by omega) | exact sh_milk (by omega)) (by omega) ?_
  refine ar_aload_n (pc := 101) d_Mo_band_101 rfl ?_
  refine ar_getR (pc := 102) gf_Mo_105 d_Mo_band_102 (by first | rfl | exact sh_wheel (by omega) | exact sh_milk (by omega)) (hF _ _ _ rfl) ?_
  refine ar_iload_n (pc := 105) d_Mo_band_105 rfl ?_
  refine ar_iald (pc := 106) d_Mo_band_106 rfl _ (Int.toNat_of_nonneg (by omega)).symm (by omega) (fun r_106 => ?_)
  refine ar_iret (pc := 107) d_Mo_band_107 rfl ?_
  rotate_left
  refine ar_iconst (pc := 47) d_Mo_band_47 ?_
  refine ar_iret (pc := 48) d_Mo_band_48 rfl ?_
  rotate_left
  -- leaves: ret 48, ret 48, ret 48, ret 48, ret 48, ret 48, ret 48, ret 107, ret 48
  all_goals first | exact Or.inr ⟨by omega, rfl, rfl⟩ | skip
  · refine Or.inl ⟨by omega, ?_, rfl⟩
    show some (av_i (up_2 _ _ _ _ _ _)) = _
    rw [up_2_s]; rfl
