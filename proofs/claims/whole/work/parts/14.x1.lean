/-! ===== the class: small parts ===== -/
theorem mi_n {G : mm_T} {a k b j : Nat} {v : Int} (h : ¬ (b = a ∧ j = k)) : mm_I (ms_I G a k v) b j = mm_I G b j := up_2_n _ _ h
theorem mi_s (G : mm_T) (a k : Nat) (v : Int) : mm_I (ms_I G a k v) a k = v := up_2_s _ _ _ _
theorem mi_o (G : mm_T) {a b : Nat} (k : Nat) (v : Int) (h : b ≠ a) : mm_I (ms_I G a k v) b = mm_I G b := up_2_o _ _ _ h
theorem mj_n {G : mm_T} {a k b j : Nat} {v : Int} (h : ¬ (b = a ∧ j = k)) : mm_J (ms_J G a k v) b j = mm_J G b j := up_2_n _ _ h
theorem mj_s (G : mm_T) (a k : Nat) (v : Int) : mm_J (ms_J G a k v) a k = v := up_2_s _ _ _ _
def wn_v (x : Int) : Int := max 0 (min x 1000000)
theorem wn_r (x : Int) : 0 ≤ wn_v x ∧ wn_v x ≤ 1000000 := by unfold wn_v; omega
theorem cm_St_haveRoomFor (X : gx_T) (d : Nat) (G : mm_T) {n : Int} (hn : i3_in n) (hc : 0 ≤ mm_I G 12 4 ∧ mm_I G 12 4 ≤ 200) : aw_M X (d + 1) mt_St_haveRoomFor [av_r (some 12), av_i n] G 0 0 (fun r G' => r = some (av_i (if n + mm_I G 12 4 ≤ 200 then 1 else 0)) ∧ G' = G) := by
  refine aw_enter pf_St_haveRoomFor (Nat.le_of_ble_eq_true rfl) ?_
  refine ar_iload_n (pc := 0) d_St_haveRoomFor_0 rfl ?_
  refine ar_sipush (pc := 1) d_St_haveRoomFor_1 (by decide) ?_
  refine ar_aload_n (pc := 4) d_St_haveRoomFor_4 rfl ?_
  refine ar_getI (pc := 5) gf_St_24 d_St_haveRoomFor_5 (by first | rfl | exact sh_wheel (by omega) | exact sh_milk (by omega)) (fun r_5 => ?_)
  refine ar_isub (pc := 8) d_St_haveRoomFor_8 ?_
  refine ar_icmp_gt (pc := 9) 16 d_St_haveRoomFor_9 (by decide) ⟨by omega, by omega⟩ ⟨by omega, by omega⟩ (fun h_9 => ?_) (fun h_9 => ?_)
  refine ar_iconst (pc := 16) d_St_haveRoomFor_16 ?_
  refine ar_zret (pc := 17) d_St_haveRoomFor_17 rfl (by omega) ?_
  rotate_left
  refine ar_iconst (pc := 12) d_St_haveRoomFor_12 ?_
  refine ar_goto (pc := 13) 17 d_St_haveRoomFor_13 (by decide) ?_
  refine ar_zret (pc := 17) d_St_haveRoomFor_17 rfl (by omega) ?_
  rotate_left
  -- leaves: ret 17, ret 17
  all_goals (refine ⟨?_, rfl⟩)
  all_goals first | rw [if_pos (by omega)] | rw [if_neg (by omega)]
theorem cm_St_begin (X : gx_T) (d : Nat) (G : mm_T) {w s t : Int} (hF : fx_R G) (hw : i3_in w) (hs : i3_in s) (ht : i3_in t) {c : Nat} (hc : mm_I G 12 4 = c) (hc2 : c < 200) : aw_M X (d + 1) mt_St_begin [av_r (some 12), av_i w, av_i s, av_i t] G 0 0 (fun r G' => r = some (av_i c) ∧ G' = ms_I (ms_I (ms_I (ms_I (ms_I G 13 c w) 14 c s) 15 c t) 16 c (-1)) 12 4 (c + 1)) := by
  refine aw_enter pf_St_begin (Nat.le_of_ble_eq_true rfl) ?_
  refine ar_aload_n (pc := 0) d_St_begin_0 rfl ?_
  refine ar_getIv (pc := 1) gf_St_24 d_St_begin_1 (by first | rfl | exact sh_wheel (by omega) | exact sh_milk (by omega)) hc (fun r_1 => ?_)
  refine ar_sipush (pc := 4) d_St_begin_4 (by decide) ?_
  refine ar_icmp_lt (pc := 7) 12 d_St_begin_7 (by decide) ⟨by omega, by omega⟩ ⟨by omega, by omega⟩ (fun h_7 => ?_) (fun h_7 => by exfalso; omega)
  refine ar_aload_n (pc := 12) d_St_begin_12 rfl ?_
  refine ar_getR (pc := 13) gf_St_9 d_St_begin_13 (by first | rfl | exact sh_wheel (by omega) | exact sh_milk (by omega)) (hF _ _ _ rfl) ?_
  refine ar_aload_n (pc := 16) d_St_begin_16 rfl ?_
  refine ar_getIv (pc := 17) gf_St_24 d_St_begin_17 (by first | rfl | exact sh_wheel (by omega) | exact sh_milk (by omega)) hc (fun r_17 => ?_)
  refine ar_iload_n (pc := 20) d_St_begin_20 rfl ?_
  refine ar_iast (pc := 21) d_St_begin_21 rfl (c) (by omega) (by omega) ⟨by omega, by omega⟩ ?_
  refine ar_aload_n (pc := 22) d_St_begin_22 rfl ?_
  refine ar_getR (pc := 23) gf_St_15 d_St_begin_23 (by first | rfl | exact sh_wheel (by omega) | exact sh_milk (by omega)) (hF _ _ _ rfl) ?_
  refine ar_aload_n (pc := 26) d_St_begin_26 rfl ?_
  refine ar_getIv (pc := 27) gf_St_24 d_St_begin_27 (by first | rfl | exact sh_wheel (by omega) | exact sh_milk (by omega)) hc (fun r_27 => ?_)
  refine ar_iload_n (pc := 30) d_St_begin_30 rfl ?_
  refine ar_iast (pc := 31) d_St_begin_31 rfl (c) (by omega) (by omega) ⟨by omega, by omega⟩ ?_
  refine ar_aload_n (pc := 32) d_St_begin_32 rfl ?_
  refine ar_getR (pc := 33) gf_St_18 d_St_begin_33 (by first | rfl | exact sh_wheel (by omega) | exact sh_milk (by omega)) (hF _ _ _ rfl) ?_
  refine ar_aload_n (pc := 36) d_St_begin_36 rfl ?_
  refine ar_getIv (pc := 37) gf_St_24 d_St_begin_37 (by first | rfl | exact sh_wheel (by omega) | exact sh_milk (by omega)) hc (fun r_37 => ?_)
  refine ar_iload_n (pc := 40) d_St_begin_40 rfl ?_
  refine ar_iast (pc := 41) d_St_begin_41 rfl (c) (by omega) (by omega) ⟨by omega, by omega⟩ ?_
  refine ar_aload_n (pc := 42) d_St_begin_42 rfl ?_
  refine ar_getR (pc := 43) gf_St_21 d_St_begin_43 (by first | rfl | exact sh_wheel (by omega) | exact sh_milk (by omega)) (hF _ _ _ rfl) ?_
  refine ar_aload_n (pc := 46) d_St_begin_46 rfl ?_
  refine ar_getIv (pc := 47) gf_St_24 d_St_begin_47 (by first | rfl | exact sh_wheel (by omega) | exact sh_milk (by omega)) hc (fun r_47 => ?_)
  refine ar_iconst (pc := 50) d_St_begin_50 ?_
  refine ar_iast (pc := 51) d_St_begin_51 rfl (c) (by omega) (by omega) ⟨by omega, by omega⟩ ?_
  refine ar_aload_n (pc := 52) d_St_begin_52 rfl ?_
  refine ar_dup (pc := 53) d_St_begin_53 rfl ?_
  refine ar_getIv (pc := 54) gf_St_24 d_St_begin_54 (by first | rfl | exact sh_wheel (by omega) | exact sh_milk (by omega)) hc (fun r_54 => ?_)
  refine ar_iconst (pc := 57) d_St_begin_57 ?_
  refine ar_iadd (pc := 58) d_St_begin_58 ?_
  refine ar_putI (pc := 59) gf_St_24 d_St_begin_59 rfl (by first | rfl | exact sh_wheel (by omega) | exact sh_milk (by omega)) ⟨by omega, by omega⟩ ?_
  refine ar_aload_n (pc := 62) d_St_begin_62 rfl ?_
  refine ar_getI (pc := 63) gf_St_24 d_St_begin_63 (by first | rfl | exact sh_wheel (by omega) | exact sh_milk (by omega)) (fun r_63 => ?_)
  refine ar_iconst (pc := 66) d_St_begin_66 ?_
  refine ar_isub (pc := 67) d_St_begin_67 ?_
  refine ar_iret (pc := 68) d_St_begin_68 rfl ?_
  rotate_left
  -- leaves: ret 68
  · exact ⟨congrArg (fun x => some (av_i x)) (show (c : Int) + 1 - 1 = c by omega), rfl⟩
theorem cm_St_finish (X : gx_T) (d : Nat) (G : mm_T) {s t : Int} (hF : fx_R G) (hs : 0 ≤ s ∧ s < mm_I G 12 4) (ht : i3_in t) (hc : mm_I G 12 4 ≤ 200) : aw_M X (d + 1) mt_St_finish [av_r (some 12), av_i s, av_i t] G 0 0 (fun r G' => r = none ∧ G' = ms_I G 16 s.toNat t) := by
  refine aw_enter pf_St_finish (Nat.le_of_ble_eq_true rfl) ?_
  refine ar_iload_n (pc := 0) d_St_finish_0 rfl ?_
  refine ar_if_lt (pc := 1) 19 d_St_finish_1 (by decide) ⟨by omega, by omega⟩ (fun h_1 => by exfalso; omega) (fun h_1 => ?_)
  refine ar_iload_n (pc := 4) d_St_finish_4 rfl ?_
  refine ar_aload_n (pc := 5) d_St_finish_5 rfl ?_
  refine ar_getI (pc := 6) gf_St_24 d_St_finish_6 (by first | rfl | exact sh_wheel (by omega) | exact sh_milk (by omega)) (fun r_6 => ?_)
  refine ar_icmp_ge (pc := 9) 19 d_St_finish_9 (by decide) ⟨by omega, by omega⟩ ⟨by omega, by omega⟩ (fun h_9 => by exfalso; omega) (fun h_9 => ?_)
  refine ar_aload_n (pc := 12) d_St_finish_12 rfl ?_
  refine ar_getR (pc := 13) gf_St_21 d_St_finish_13 (by first | rfl | exact sh_wheel (by omega) | exact sh_milk (by omega)) (hF _ _ _ rfl) ?_
  refine ar_iload_n (pc := 16) d_St_finish_16 rfl ?_
  refine ar_iload_n (pc := 17) d_St_finish_17 rfl ?_
  refine ar_iast (pc := 18) d_St_finish_18 rfl _ (Int.toNat_of_nonneg (by omega)).symm (by omega) ⟨by omega, by omega⟩ ?_
  refine ar_ret (pc := 19) d_St_finish_19 rfl ?_
  rotate_left
  -- leaves: ret 19
  · exact ⟨rfl, rfl⟩
theorem cm_St_nightsUpTo (X : gx_T) (d : Nat) (G : mm_T) {s t : Int} (hF : fx_R G) (hs : 0 ≤ s ∧ s < 200) (ht : i3_in t) : aw_M X (d + 1) mt_St_nightsUpTo [av_r (some 12), av_i s, av_i t] G 0 0 (fun r G' => r = some (av_i (if mm_I G 16 s.toNat = -1 then t else mm_I G 16 s.toNat)) ∧ G' = G) := by
  refine aw_enter pf_St_nightsUpTo (Nat.le_of_ble_eq_true rfl) ?_
  refine ar_aload_n (pc := 0) d_St_nightsUpTo_0 rfl ?_
  refine ar_getR (pc := 1) gf_St_21 d_St_nightsUpTo_1 (by first | rfl | exact sh_wheel (by omega) | exact sh_milk (by omega)) (hF _ _ _ rfl) ?_
  refine ar_iload_n (pc := 4) d_St_nightsUpTo_4 rfl ?_
  refine ar_iald (pc := 5) d_St_nightsUpTo_5 rfl _ (Int.toNat_of_nonneg (by omega)).symm (by omega) (fun r_5 => ?_)
  refine ar_iconst (pc := 6) d_St_nightsUpTo_6 ?_
  refine ar_icmp_ne (pc := 7) 14 d_St_nightsUpTo_7 (by decide) ⟨by omega, by omega⟩ ⟨by omega, by omega⟩ (fun h_7 => ?_) (fun h_7 => ?_)
  refine ar_aload_n (pc := 14) d_St_nightsUpTo_14 rfl ?_
  refine ar_getR (pc := 15) gf_St_21 d_St_nightsUpTo_15 (by first | rfl | exact sh_wheel (by omega) | exact sh_milk (by omega)) (hF _ _ _ rfl) ?_
  refine ar_iload_n (pc := 18) d_St_nightsUpTo_18 rfl ?_
  refine ar_iald (pc := 19) d_St_nightsUpTo_19 rfl _ (Int.toNat_of_nonneg (by omega)).symm (by omega) (fun r_19 => ?_)
  refine ar_iret (pc := 20) d_St_nightsUpTo_20 rfl ?_
  rotate_left
  refine ar_iload_n (pc := 10) d_St_nightsUpTo_10 rfl ?_
  refine ar_goto (pc := 11) 20 d_St_nightsUpTo_11 (by decide) ?_
  refine ar_iret (pc := 20) d_St_nightsUpTo_20 rfl ?_
  rotate_left
  -- leaves: ret 20, ret 20
  all_goals (refine ⟨?_, rfl⟩)
  all_goals first | rw [if_pos (by omega)] | rw [if_neg (by omega)]
/-- two stays share a night -/
def sy_sh (b l : Nat → Int) (t : Int) (i j : Nat) : Prop := max (b i) (b j) < min (if l i = -1 then t else l i) (if l j = -1 then t else l j)
theorem cm_St_shareNight (X : gx_T) (d : Nat) (G : mm_T) {p q t : Int} (hF : fx_R G) (hp : 0 ≤ p ∧ p < 200) (hq : 0 ≤ q ∧ q < 200) (ht : i3_in t) : aw_M X (d + 2) mt_St_shareNight [av_r (some 12), av_i p, av_i q, av_i t] G 0 0 (fun r G' => r = some (av_i (bv_p (sy_sh (mm_I G 15) (mm_I G 16) t p.toNat q.toNat))) ∧ G' = G) := by
  refine aw_enter pf_St_shareNight (Nat.le_of_ble_eq_true rfl) (ar_rngI fun rg => ?_)
  have r1 := rg 16 p.toNat
  have r2 := rg 16 q.toNat
  unfold sy_sh
  refine ar_aload_n (pc := 0) d_St_shareNight_0 rfl ?_
  refine ar_getR (pc := 1) gf_St_18 d_St_shareNight_1 (by first | rfl | exact sh_wheel (by omega) | exact sh_milk (by omega)) (hF _ _ _ rfl) ?_
  refine ar_iload_n (pc := 4) d_St_shareNight_4 rfl ?_
  refine ar_iald (pc := 5) d_St_shareNight_5 rfl _ (Int.toNat_of_nonneg (by omega)).symm (by omega) (fun r_5 => ?_)
  refine ar_aload_n (pc := 6) d_St_shareNight_6 rfl ?_
  refine ar_getR (pc := 7) gf_St_18 d_St_shareNight_7 (by first | rfl | exact sh_wheel (by omega) | exact sh_milk (by omega)) (hF _ _ _ rfl) ?_
  refine ar_iload_n (pc := 10) d_St_shareNight_10 rfl ?_
  refine ar_iald (pc := 11) d_St_shareNight_11 rfl _ (Int.toNat_of_nonneg (by omega)).symm (by omega) (fun r_11 => ?_)
  refine ac_stat (pc := 12) (N := mt_JM_max) _ _ sv_JM_max ml_St_36 d_St_shareNight_12 (cm_JM_max _ _ _ ⟨by omega, by omega⟩ ⟨by omega, by omega⟩) rfl rfl (Nat.le_of_ble_eq_true rfl) (Nat.le_of_eq (Nat.zero_add _)) (Nat.le_of_eq (Nat.zero_add _)) (fun r_12 G_12 h_12 => ?_)
  obtain ⟨rfl, e_12⟩ := h_12
  subst G_12
  refine ar_aload_n (pc := 15) d_St_shareNight_15 rfl ?_
  refine ar_iload_n (pc := 16) d_St_shareNight_16 rfl ?_
  refine ar_iload_n (pc := 17) d_St_shareNight_17 rfl ?_
  refine ac_virt (pc := 18) (N := mt_St_nightsUpTo) _ _ mv_St_nightsUpTo ml_St_42 ck_7 d_St_shareNight_18 (cm_St_nightsUpTo _ _ _ hF hp ht) (by first | rfl | exact sh_wheel (by omega) | exact sh_milk (by omega)) rfl rfl (Nat.le_of_ble_eq_true rfl) (Nat.le_of_eq (Nat.zero_add _)) (Nat.le_of_eq (Nat.zero_add _)) (fun r_18 G_18 h_18 => ?_)
  obtain ⟨rfl, e_18⟩ := h_18
  subst G_18
  refine ar_aload_n (pc := 21) d_St_shareNight_21 rfl ?_
  refine ar_iload_n (pc := 22) d_St_shareNight_22 rfl ?_
  refine ar_iload_n (pc := 23) d_St_shareNight_23 rfl ?_
  refine ac_virt (pc := 24) (N := mt_St_nightsUpTo) _ _ mv_St_nightsUpTo ml_St_42 ck_7 d_St_shareNight_24 (cm_St_nightsUpTo _ _ _ hF hq ht) (by first | rfl | exact sh_wheel (by omega) | exact sh_milk (by omega)) rfl rfl (Nat.le_of_ble_eq_true rfl) (Nat.le_of_eq (Nat.zero_add _)) (Nat.le_of_eq (Nat.zero_add _)) (fun r_24 G_24 h_24 => ?_)
  obtain ⟨rfl, e_24⟩ := h_24
  subst G_24
  refine ac_stat (pc := 27) (N := mt_JM_min) _ _ sv_JM_min ml_St_45 d_St_shareNight_27 (cm_JM_min _ _ _ ⟨by omega, by omega⟩ ⟨by omega, by omega⟩) rfl rfl (Nat.le_of_ble_eq_true rfl) (Nat.le_of_eq (Nat.zero_add _)) (Nat.le_of_eq (Nat.zero_add _)) (fun r_27 G_27 h_27 => ?_)
  obtain ⟨rfl, e_27⟩ := h_27
  subst G_27
  refine ar_icmp_ge (pc := 30) 37 d_St_shareNight_30 (by decide) ⟨by omega, by omega⟩ ⟨by omega, by omega⟩ (fun h_30 => ?_) (fun h_30 => ?_)
  refine ar_iconst (pc := 37) d_St_shareNight_37 ?_
  refine ar_zret (pc := 38) d_St_shareNight_38 rfl (by omega) ?_
  rotate_left
  refine ar_iconst (pc := 33) d_St_shareNight_33 ?_
  refine ar_goto (pc := 34) 38 d_St_shareNight_34 (by decide) ?_
  refine ar_zret (pc := 38) d_St_shareNight_38 rfl (by omega) ?_
  rotate_left
  -- leaves: ret 38, ret 38
  all_goals (refine ⟨congrArg (fun x => some (av_i x)) ?_, rfl⟩)
  · exact bv_0 (by omega)
  · exact bv_1 (by omega)
theorem cm_Ma_areFull (X : gx_T) (d : Nat) (G : mm_T) : aw_M X (d + 1) mt_Ma_areFull [av_r (some 17)] G 0 0 (fun r G' => r = some (av_i (if 100 ≤ mm_I G 17 6 then 1 else 0)) ∧ G' = G) := by
  refine aw_enter pf_Ma_areFull (Nat.le_of_ble_eq_true rfl) ?_
  refine ar_aload_n (pc := 0) d_Ma_areFull_0 rfl ?_
  refine ar_getI (pc := 1) gf_Ma_30 d_Ma_areFull_1 (by first | rfl | exact sh_wheel (by omega) | exact sh_milk (by omega)) (fun r_1 => ?_)
  refine ar_bipush (pc := 4) d_Ma_areFull_4 (by decide) ?_
  refine ar_icmp_lt (pc := 6) 13 d_Ma_areFull_6 (by decide) ⟨by omega, by omega⟩ ⟨by omega, by omega⟩ (fun h_6 => ?_) (fun h_6 => ?_)
  refine ar_iconst (pc := 13) d_Ma_areFull_13 ?_
  refine ar_zret (pc := 14) d_Ma_areFull_14 rfl (by omega) ?_
  rotate_left
  refine ar_iconst (pc := 9) d_Ma_areFull_9 ?_
  refine ar_goto (pc := 10) 14 d_Ma_areFull_10 (by decide) ?_
  refine ar_zret (pc := 14) d_Ma_areFull_14 rfl (by omega) ?_
  rotate_left
  -- leaves: ret 14, ret 14
  all_goals (refine ⟨?_, rfl⟩)
  all_goals first | rw [if_pos (by omega)] | rw [if_neg (by omega)]
theorem cm_Ma_keep (X : gx_T) (d : Nat) (G : mm_T) {g w v t : Int} (hF : fx_R G) (hg : i3_in g) (hw : i3_in w) (hv : i3_in v) (ht : i3_in t) {c : Nat} (hc : mm_I G 17 6 = c) (hc2 : c < 100) : aw_M X (d + 2) mt_Ma_keep [av_r (some 17), av_i g, av_i w, av_i v, av_i t] G 0 0 (fun r G' => r = some (av_i c) ∧ G' = ms_I (ms_I (ms_I (ms_I (ms_I (ms_I G 18 c g) 19 c w) 20 c v) 21 c t) 22 c (-1)) 17 6 (c + 1)) := by
  refine aw_enter pf_Ma_keep (Nat.le_of_ble_eq_true rfl) ?_
  refine ar_aload_n (pc := 0) d_Ma_keep_0 rfl ?_
  refine ac_virt (pc := 1) (N := mt_Ma_areFull) _ _ mv_Ma_areFull ml_Ma_34 ck_1 d_Ma_keep_1 (cm_Ma_areFull _ _ _) (by first | rfl | exact sh_wheel (by omega) | exact sh_milk (by omega)) rfl rfl (Nat.le_of_ble_eq_true rfl) (Nat.le_of_eq (Nat.zero_add _)) (Nat.le_of_eq (Nat.zero_add _)) (fun r_1 G_1 h_1 => ?_)
  obtain ⟨rfl, e_1⟩ := h_1
  subst G_1
  refine ar_if_eq (pc := 4) 9 d_Ma_keep_4 (by decide) ⟨by omega, by omega⟩ (fun h_4 => ?_) (fun h_4 => by exfalso; omega)
  refine ar_aload_n (pc := 9) d_Ma_keep_9 rfl ?_
  refine ar_getR (pc := 10) gf_Ma_9 d_Ma_keep_10 (by first | rfl | exact sh_wheel (by omega) | exact sh_milk (by omega)) (hF _ _ _ rfl) ?_
  refine ar_aload_n (pc := 13) d_Ma_keep_13 rfl ?_
  refine ar_getIv (pc := 14) gf_Ma_30 d_Ma_keep_14 (by first | rfl | exact sh_wheel (by omega) | exact sh_milk (by omega)) hc (fun r_14 => ?_)
  refine ar_iload_n (pc := 17) d_Ma_keep_17 rfl ?_
  refine ar_iast (pc := 18) d_Ma_keep_18 rfl (c) (by omega) (by omega) ⟨by omega, by omega⟩ ?_
  refine ar_aload_n (pc := 19) d_Ma_keep_19 rfl ?_
  refine ar_getR (pc := 20) gf_Ma_15 d_Ma_keep_20 (by first | rfl | exact sh_wheel (by omega) | exact sh_milk (by omega)) (hF _ _ _ rfl) ?_
  refine ar_aload_n (pc := 23) d_Ma_keep_23 rfl ?_
  refine ar_getIv (pc := 24) gf_Ma_30 d_Ma_keep_24 (by first | rfl | exact sh_wheel (by omega) | exact sh_milk (by omega)) hc (fun r_24 => ?_)
  refine ar_iload_n (pc := 27) d_Ma_keep_27 rfl ?_
  refine ar_iast (pc := 28) d_Ma_keep_28 rfl (c) (by omega) (by omega) ⟨by omega, by omega⟩ ?_
  refine ar_aload_n (pc := 29) d_Ma_keep_29 rfl ?_
  refine ar_getR (pc := 30) gf_Ma_18 d_Ma_keep_30 (by first | rfl | exact sh_wheel (by omega) | exact sh_milk (by omega)) (hF _ _ _ rfl) ?_
  refine ar_aload_n (pc := 33) d_Ma_keep_33 rfl ?_
  refine ar_getIv (pc := 34) gf_Ma_30 d_Ma_keep_34 (by first | rfl | exact sh_wheel (by omega) | exact sh_milk (by omega)) hc (fun r_34 => ?_)
  refine ar_iload_n (pc := 37) d_Ma_keep_37 rfl ?_
  refine ar_iast (pc := 38) d_Ma_keep_38 rfl (c) (by omega) (by omega) ⟨by omega, by omega⟩ ?_
  refine ar_aload_n (pc := 39) d_Ma_keep_39 rfl ?_
  refine ar_getR (pc := 40) gf_Ma_21 d_Ma_keep_40 (by first | rfl | exact sh_wheel (by omega) | exact sh_milk (by omega)) (hF _ _ _ rfl) ?_
  refine ar_aload_n (pc := 43) d_Ma_keep_43 rfl ?_
  refine ar_getIv (pc := 44) gf_Ma_30 d_Ma_keep_44 (by first | rfl | exact sh_wheel (by omega) | exact sh_milk (by omega)) hc (fun r_44 => ?_)
  refine ar_iload (pc := 47) d_Ma_keep_47 rfl ?_
  refine ar_iast (pc := 49) d_Ma_keep_49 rfl (c) (by omega) (by omega) ⟨by omega, by omega⟩ ?_
  refine ar_aload_n (pc := 50) d_Ma_keep_50 rfl ?_
  refine ar_getR (pc := 51) gf_Ma_24 d_Ma_keep_51 (by first | rfl | exact sh_wheel (by omega) | exact sh_milk (by omega)) (hF _ _ _ rfl) ?_
  refine ar_aload_n (pc := 54) d_Ma_keep_54 rfl ?_
  refine ar_getIv (pc := 55) gf_Ma_30 d_Ma_keep_55 (by first | rfl | exact sh_wheel (by omega) | exact sh_milk (by omega)) hc (fun r_55 => ?_)
  refine ar_iconst (pc := 58) d_Ma_keep_58 ?_
  refine ar_iast (pc := 59) d_Ma_keep_59 rfl (c) (by omega) (by omega) ⟨by omega, by omega⟩ ?_
  refine ar_aload_n (pc := 60) d_Ma_keep_60 rfl ?_
  refine ar_dup (pc := 61) d_Ma_keep_61 rfl ?_
  refine ar_getIv (pc := 62) gf_Ma_30 d_Ma_keep_62 (by first | rfl | exact sh_wheel (by omega) | exact sh_milk (by omega)) hc (fun r_62 => ?_)
  refine ar_iconst (pc := 65) d_Ma_keep_65 ?_
  refine ar_iadd (pc := 66) d_Ma_keep_66 ?_
  refine ar_putI (pc := 67) gf_Ma_30 d_Ma_keep_67 rfl (by first | rfl | exact sh_wheel (by omega) | exact sh_milk (by omega)) ⟨by omega, by omega⟩ ?_
  refine ar_aload_n (pc := 70) d_Ma_keep_70 rfl ?_
  refine ar_getI (pc := 71) gf_Ma_30 d_Ma_keep_71 (by first | rfl | exact sh_wheel (by omega) | exact sh_milk (by omega)) (fun r_71 => ?_)
  refine ar_iconst (pc := 74) d_Ma_keep_74 ?_
  refine ar_isub (pc := 75) d_Ma_keep_75 ?_
  refine ar_iret (pc := 76) d_Ma_keep_76 rfl ?_
  rotate_left
  -- leaves: ret 76
  · exact ⟨congrArg (fun x => some (av_i x)) (show (c : Int) + 1 - 1 = c by omega), rfl⟩
theorem cm_Ma_takeBack (X : gx_T) (d : Nat) (G : mm_T) {m t : Int} (hF : fx_R G) (hm : i3_in m) (ht : i3_in t) (hc : mm_I G 17 6 ≤ 100) : aw_M X (d + 1) mt_Ma_takeBack [av_r (some 17), av_i m, av_i t] G 0 0 (fun r G' => (0 ≤ m ∧ m < mm_I G 17 6 ∧ mm_I G 22 m.toNat = -1) ∧ r = some (av_i 1) ∧ G' = ms_I G 22 m.toNat t ∨ ¬ (0 ≤ m ∧ m < mm_I G 17 6 ∧ mm_I G 22 m.toNat = -1) ∧ r = some (av_i 0) ∧ G' = G) := by
  refine aw_enter pf_Ma_takeBack (Nat.le_of_ble_eq_true rfl) ?_
  refine ar_iload_n (pc := 0) d_Ma_takeBack_0 rfl ?_
  refine ar_if_lt (pc := 1) 22 d_Ma_takeBack_1 (by decide) ⟨by omega, by omega⟩ (fun h_1 => ?_) (fun h_1 => ?_)
  refine ar_iconst (pc := 22) d_Ma_takeBack_22 ?_
  refine ar_zret (pc := 23) d_Ma_takeBack_23 rfl (by omega) ?_
  rotate_left
  refine ar_iload_n (pc := 4) d_Ma_takeBack_4 rfl ?_
  refine ar_aload_n (pc := 5) d_Ma_takeBack_5 rfl ?_
  refine ar_getI (pc := 6) gf_Ma_30 d_Ma_takeBack_6 (by first | rfl | exact sh_wheel (by omega) | exact sh_milk (by omega)) (fun r_6 => ?_)
  refine ar_icmp_ge (pc := 9) 22 d_Ma_takeBack_9 (by decide) ⟨by omega, by omega⟩ ⟨by omega, by omega⟩ (fun h_9 => ?_) (fun h_9 => ?_)
  refine ar_iconst (pc := 22) d_Ma_takeBack_22 ?_
  refine ar_zret (pc := 23) d_Ma_takeBack_23 rfl (by omega) ?_
  rotate_left
  refine ar_aload_n (pc := 12) d_Ma_takeBack_12 rfl ?_
  refine ar_getR (pc := 13) gf_Ma_24 d_Ma_takeBack_13 (by first | rfl | exact sh_wheel (by omega) | exact sh_milk (by omega)) (hF _ _ _ rfl) ?_
  refine ar_iload_n (pc := 16) d_Ma_takeBack_16 rfl ?_
  refine ar_iald (pc := 17) d_Ma_takeBack_17 rfl _ (Int.toNat_of_nonneg (by omega)).symm (by omega) (fun r_17 => ?_)
  refine ar_iconst (pc := 18) d_Ma_takeBack_18 ?_
  refine ar_icmp_eq (pc := 19) 24 d_Ma_takeBack_19 (by decide) ⟨by omega, by omega⟩ ⟨by omega, by omega⟩ (fun h_19 => ?_) (fun h_19 => ?_)
  refine ar_aload_n (pc := 24) d_Ma_takeBack_24 rfl ?_
  refine ar_getR (pc := 25) gf_Ma_24 d_Ma_takeBack_25 (by first | rfl | exact sh_wheel (by omega) | exact sh_milk (by omega)) (hF _ _ _ rfl) ?_
  refine ar_iload_n (pc := 28) d_Ma_takeBack_28 rfl ?_
  refine ar_iload_n (pc := 29) d_Ma_takeBack_29 rfl ?_
  refine ar_iast (pc := 30) d_Ma_takeBack_30 rfl _ (Int.toNat_of_nonneg (by omega)).symm (by omega) ⟨by omega, by omega⟩ ?_
  refine ar_iconst (pc := 31) d_Ma_takeBack_31 ?_
  refine ar_zret (pc := 32) d_Ma_takeBack_32 rfl (by omega) ?_
  rotate_left
  refine ar_iconst (pc := 22) d_Ma_takeBack_22 ?_
  refine ar_zret (pc := 23) d_Ma_takeBack_23 rfl (by omega) ?_
  rotate_left
  -- leaves: ret 23, ret 23, ret 32, ret 23
  all_goals first | exact Or.inr ⟨by omega, rfl, rfl⟩ | exact Or.inl ⟨by omega, rfl, rfl⟩
theorem cm_Ma_isKnown (X : gx_T) (d : Nat) (G : mm_T) {m t : Int} (hF : fx_R G) (hm : 0 ≤ m ∧ m < 100) (ht : i3_in t) : aw_M X (d + 1) mt_Ma_isKnown [av_r (some 17), av_i m, av_i t] G 0 0 (fun r G' => r = some (av_i (if mm_I G 21 m.toNat ≤ t ∧ (mm_I G 22 m.toNat = -1 ∨ t < mm_I G 22 m.toNat) then 1 else 0)) ∧ G' = G) := by
  refine aw_enter pf_Ma_isKnown (Nat.le_of_ble_eq_true rfl) ?_
  refine ar_aload_n (pc := 0) d_Ma_isKnown_0 rfl ?_
  refine ar_getR (pc := 1) gf_Ma_21 d_Ma_isKnown_1 (by first | rfl | exact sh_wheel (by omega) | exact sh_milk (by omega)) (hF _ _ _ rfl) ?_
  refine ar_iload_n (pc := 4) d_Ma_isKnown_4 rfl ?_
  refine ar_iald (pc := 5) d_Ma_isKnown_5 rfl _ (Int.toNat_of_nonneg (by omega)).symm (by omega) (fun r_5 => ?_)
  refine ar_iload_n (pc := 6) d_Ma_isKnown_6 rfl ?_
  refine ar_icmp_gt (pc := 7) 34 d_Ma_isKnown_7 (by decide) ⟨by omega, by omega⟩ ⟨by omega, by omega⟩ (fun h_7 => ?_) (fun h_7 => ?_)
  refine ar_iconst (pc := 34) d_Ma_isKnown_34 ?_
  refine ar_zret (pc := 35) d_Ma_isKnown_35 rfl (by omega) ?_
  rotate_left
  refine ar_aload_n (pc := 10) d_Ma_isKnown_10 rfl ?_
  refine ar_getR (pc := 11) gf_Ma_24 d_Ma_isKnown_11 (by first | rfl | exact sh_wheel (by omega) | exact sh_milk (by omega)) (hF _ _ _ rfl) ?_
  refine ar_iload_n (pc := 14) d_Ma_isKnown_14 rfl ?_
  refine ar_iald (pc := 15) d_Ma_isKnown_15 rfl _ (Int.toNat_of_nonneg (by omega)).symm (by omega) (fun r_15 => ?_)
  refine ar_iconst (pc := 16) d_Ma_isKnown_16 ?_
  refine ar_icmp_eq (pc := 17) 30 d_Ma_isKnown_17 (by decide) ⟨by omega, by omega⟩ ⟨by omega, by omega⟩ (fun h_17 => ?_) (fun h_17 => ?_)
  refine ar_iconst (pc := 30) d_Ma_isKnown_30 ?_
  refine ar_goto (pc := 31) 35 d_Ma_isKnown_31 (by decide) ?_
  refine ar_zret (pc := 35) d_Ma_isKnown_35 rfl (by omega) ?_
  rotate_left
  refine ar_aload_n (pc := 20) d_Ma_isKnown_20 rfl ?_
  refine ar_getR (pc := 21) gf_Ma_24 d_Ma_isKnown_21 (by first | rfl | exact sh_wheel (by omega) | exact sh_milk (by omega)) (hF _ _ _ rfl) ?_
  refine ar_iload_n (pc := 24) d_Ma_isKnown_24 rfl ?_
  refine ar_iald (pc := 25) d_Ma_isKnown_25 rfl _ (Int.toNat_of_nonneg (by omega)).symm (by omega) (fun r_25 => ?_)
  refine ar_iload_n (pc := 26) d_Ma_isKnown_26 rfl ?_
  refine ar_icmp_le (pc := 27) 34 d_Ma_isKnown_27 (by decide) ⟨by omega, by omega⟩ ⟨by omega, by omega⟩ (fun h_27 => ?_) (fun h_27 => ?_)
  refine ar_iconst (pc := 34) d_Ma_isKnown_34 ?_
  refine ar_zret (pc := 35) d_Ma_isKnown_35 rfl (by omega) ?_
  rotate_left
  refine ar_iconst (pc := 30) d_Ma_isKnown_30 ?_
  refine ar_goto (pc := 31) 35 d_Ma_isKnown_31 (by decide) ?_
  refine ar_zret (pc := 35) d_Ma_isKnown_35 rfl (by omega) ?_
  rotate_left
  -- leaves: ret 35, ret 35, ret 35, ret 35
  all_goals (refine ⟨?_, rfl⟩)
  all_goals first | rw [if_pos (by omega)] | rw [if_neg (by omega)]
theorem cm_Ta_byteAt (X : gx_T) (d : Nat) (G : mm_T) {p : Int} (hF : fx_R G) (hp : i3_in p) (hc : mm_I G 33 1 ≤ 500) : aw_M X (d + 1) mt_Ta_byteAt [av_r (some 33), av_i p] G 0 0 (fun r G' => r = some (av_i (if 0 ≤ p ∧ p < mm_I G 33 1 then mm_I G 34 p.toNat else -1)) ∧ G' = G) := by
  refine aw_enter pf_Ta_byteAt (Nat.le_of_ble_eq_true rfl) ?_
  refine ar_iload_n (pc := 0) d_Ta_byteAt_0 rfl ?_
  refine ar_if_lt (pc := 1) 21 d_Ta_byteAt_1 (by decide) ⟨by omega, by omega⟩ (fun h_1 => ?_) (fun h_1 => ?_)
  refine ar_iconst (pc := 21) d_Ta_byteAt_21 ?_
  refine ar_iret (pc := 22) d_Ta_byteAt_22 rfl ?_
  rotate_left
  refine ar_iload_n (pc := 4) d_Ta_byteAt_4 rfl ?_
  refine ar_aload_n (pc := 5) d_Ta_byteAt_5 rfl ?_
  refine ar_getI (pc := 6) gf_Ta_15 d_Ta_byteAt_6 (by first | rfl | exact sh_wheel (by omega) | exact sh_milk (by omega)) (fun r_6 => ?_)
  refine ar_icmp_ge (pc := 9) 21 d_Ta_byteAt_9 (by decide) ⟨by omega, by omega⟩ ⟨by omega, by omega⟩ (fun h_9 => ?_) (fun h_9 => ?_)
  refine ar_iconst (pc := 21) d_Ta_byteAt_21 ?_
  refine ar_iret (pc := 22) d_Ta_byteAt_22 rfl ?_
  rotate_left
  refine ar_aload_n (pc := 12) d_Ta_byteAt_12 rfl ?_
  refine ar_getR (pc := 13) gf_Ta_9 d_Ta_byteAt_13 (by first | rfl | exact sh_wheel (by omega) | exact sh_milk (by omega)) (hF _ _ _ rfl) ?_
  refine ar_iload_n (pc := 16) d_Ta_byteAt_16 rfl ?_
  refine ar_iald (pc := 17) d_Ta_byteAt_17 rfl _ (Int.toNat_of_nonneg (by omega)).symm (by omega) (fun r_17 => ?_)
  refine ar_goto (pc := 18) 22 d_Ta_byteAt_18 (by decide) ?_
  refine ar_iret (pc := 22) d_Ta_byteAt_22 rfl ?_
  rotate_left
  -- leaves: ret 22, ret 22, ret 22
  all_goals (refine ⟨?_, rfl⟩)
  all_goals first | rw [if_pos (by omega)] | rw [if_neg (by omega)]
theorem cm_Wh_within (X : gx_T) (d : Nat) (G : mm_T) {v : Int} (hv : i3_in v) : aw_M X (d + 2) mt_Wh_within [av_i v] G 0 0 (fun r G' => r = some (av_i (wn_v v)) ∧ G' = G) := by
  refine aw_enter pf_Wh_within (Nat.le_of_ble_eq_true rfl) ?_
  refine ar_iconst (pc := 0) d_Wh_within_0 ?_
  refine ar_iload_n (pc := 1) d_Wh_within_1 rfl ?_
  refine ar_ldc (pc := 2) 1000000 ki_Wh_47 d_Wh_within_2 (by decide) ?_
  refine ac_stat (pc := 4) (N := mt_JM_min) _ _ sv_JM_min ml_Wh_48 d_Wh_within_4 (cm_JM_min _ _ _ hv ⟨by omega, by omega⟩) rfl rfl (Nat.le_of_ble_eq_true rfl) (Nat.le_of_eq (Nat.zero_add _)) (Nat.le_of_eq (Nat.zero_add _)) (fun r_4 G_4 h_4 => ?_)
  obtain ⟨rfl, e_4⟩ := h_4
  subst G_4
  refine ac_stat (pc := 7) (N := mt_JM_max) _ _ sv_JM_max ml_Wh_53 d_Wh_within_7 (cm_JM_max _ _ _ ⟨by omega, by omega⟩ ⟨by omega, by omega⟩) rfl rfl (Nat.le_of_ble_eq_true rfl) (Nat.le_of_eq (Nat.zero_add _)) (Nat.le_of_eq (Nat.zero_add _)) (fun r_7 G_7 h_7 => ?_)
  obtain ⟨rfl, e_7⟩ := h_7
  subst G_7
  refine ar_iret (pc := 10) d_Wh_within_10 rfl ?_
  rotate_left
  -- leaves: ret 10
  · exact ⟨rfl, rfl⟩
theorem cm_Wh_ripeningBy (X : gx_T) (d : Nat) (G : mm_T) {w : Nat} {a p : Int} (hw : w < 40) (ha : 0 ≤ a ∧ a ≤ 9) (hp : 0 ≤ p ∧ p ≤ 99) : aw_M X (d + 1) mt_Wh_ripeningBy [av_r (some (300 + w)), av_i a, av_i p] G 0 0 (fun r G' => r = some (av_i (if mm_I G (300 + w) 1 = 0 then 3 + a / 3 else if mm_I G (300 + w) 1 = 1 then 2 + p / 30 else 1 + a / 5)) ∧ G' = G) := by
  refine aw_enter pf_Wh_ripeningBy (Nat.le_of_ble_eq_true rfl) ?_
  refine ar_aload_n (pc := 0) d_Wh_ripeningBy_0 rfl ?_
  refine ar_getI (pc := 1) gf_Wh_21 d_Wh_ripeningBy_1 (by first | rfl | exact sh_wheel (by omega) | exact sh_milk (by omega)) (fun r_1 => ?_)
  refine ar_if_ne (pc := 4) 13 d_Wh_ripeningBy_4 (by decide) ⟨by omega, by omega⟩ (fun h_4 => ?_) (fun h_4 => ?_)
  refine ar_aload_n (pc := 13) d_Wh_ripeningBy_13 rfl ?_
  refine ar_getI (pc := 14) gf_Wh_21 d_Wh_ripeningBy_14 (by first | rfl | exact sh_wheel (by omega) | exact sh_milk (by omega)) (fun r_14 => ?_)
  refine ar_iconst (pc := 17) d_Wh_ripeningBy_17 ?_
  refine ar_icmp_ne (pc := 18) 30 d_Wh_ripeningBy_18 (by decide) ⟨by omega, by omega⟩ ⟨by omega, by omega⟩ (fun h_18 => ?_) (fun h_18 => ?_)
  refine ar_iconst (pc := 30) d_Wh_ripeningBy_30 ?_
  refine ar_iload_n (pc := 31) d_Wh_ripeningBy_31 rfl ?_
  refine ar_iconst (pc := 32) d_Wh_ripeningBy_32 ?_
  refine ar_idivp (pc := 33) d_Wh_ripeningBy_33 (by omega) (by omega) (by omega) (by omega) ?_
  refine ar_iadd (pc := 34) d_Wh_ripeningBy_34 ?_
  refine ar_iret (pc := 35) d_Wh_ripeningBy_35 rfl ?_
  rotate_left
  refine ar_iconst (pc := 21) d_Wh_ripeningBy_21 ?_
  refine ar_iload_n (pc := 22) d_Wh_ripeningBy_22 rfl ?_
  refine ar_bipush (pc := 23) d_Wh_ripeningBy_23 (by decide) ?_
  refine ar_idivp (pc := 25) d_Wh_ripeningBy_25 (by omega) (by omega) (by omega) (by omega) ?_
  refine ar_iadd (pc := 26) d_Wh_ripeningBy_26 ?_
  refine ar_goto (pc := 27) 35 d_Wh_ripeningBy_27 (by decide) ?_
  refine ar_iret (pc := 35) d_Wh_ripeningBy_35 rfl ?_
  rotate_left
  refine ar_iconst (pc := 7) d_Wh_ripeningBy_7 ?_
  refine ar_iload_n (pc := 8) d_Wh_ripeningBy_8 rfl ?_
  refine ar_iconst (pc := 9) d_Wh_ripeningBy_9 ?_
  refine ar_idivp (pc := 10) d_Wh_ripeningBy_10 (by omega) (by omega) (by omega) (by omega) ?_
  refine ar_iadd (pc := 11) d_Wh_ripeningBy_11 ?_
  refine ar_iret (pc := 12) d_Wh_ripeningBy_12 rfl ?_
  rotate_left
  -- leaves: ret 35, ret 35, ret 12
  all_goals (refine ⟨congrArg (fun x => some (av_i x)) ?_, rfl⟩)
  all_goals first | rw [if_pos (by omega)] | (rw [if_neg (by omega), if_pos (by omega)]) | (rw [if_neg (by omega), if_neg (by omega)])
theorem cm_Wh_ripen (X : gx_T) (d : Nat) (G : mm_T) {w : Nat} {a p : Int} (hw : w < 40) (ha : 0 ≤ a ∧ a ≤ 9) (hp : 0 ≤ p ∧ p ≤ 99) (h6 : 0 ≤ mm_I G (300 + w) 6 ∧ mm_I G (300 + w) 6 ≤ 1000000) (h7 : 0 ≤ mm_I G (300 + w) 7 ∧ mm_I G (300 + w) 7 ≤ 1000000) (h8 : 0 ≤ mm_I G (300 + w) 8 ∧ mm_I G (300 + w) 8 ≤ 1000000) (h9 : 0 ≤ mm_I G (300 + w) 9 ∧ mm_I G (300 + w) 9 ≤ 100000) : aw_M X (d + 3) mt_Wh_ripen [av_r (some (300 + w)), av_i a, av_i p] G 0 0 (fun r G' => r = none ∧ G' = ms_I (ms_I (ms_I (ms_I G (300 + w) 6 (wn_v (mm_I G (300 + w) 6 + (if mm_I G (300 + w) 1 = 0 then 3 + a / 3 else if mm_I G (300 + w) 1 = 1 then 2 + p / 30 else 1 + a / 5)))) (300 + w) 7 (wn_v (mm_I G (300 + w) 7 + p / 20 + mm_I G (300 + w) 9 / 3))) (300 + w) 8 (wn_v (mm_I G (300 + w) 8 - a))) (300 + w) 9 (mm_I G (300 + w) 9 + 1)) := by
  have e6 := wn_r (mm_I G (300 + w) 6 + (if mm_I G (300 + w) 1 = 0 then 3 + a / 3 else if mm_I G (300 + w) 1 = 1 then 2 + p / 30 else 1 + a / 5))
  have e7 := wn_r (mm_I G (300 + w) 7 + p / 20 + mm_I G (300 + w) 9 / 3)
  have e8 := wn_r (mm_I G (300 + w) 8 - a)
  refine aw_enter pf_Wh_ripen (Nat.le_of_ble_eq_true rfl) ?_
  refine ar_aload_n (pc := 0) d_Wh_ripen_0 rfl ?_
  refine ar_aload_n (pc := 1) d_Wh_ripen_1 rfl ?_
  refine ar_getI (pc := 2) gf_Wh_40 d_Wh_ripen_2 (by first | rfl | exact sh_wheel (by omega) | exact sh_milk (by omega)) (fun r_2 => ?_)
  refine ar_aload_n (pc := 5) d_Wh_ripen_5 rfl ?_
  refine ar_iload_n (pc := 6) d_Wh_ripen_6 rfl ?_
  refine ar_iload_n (pc := 7) d_Wh_ripen_7 rfl ?_
  refine ac_virt (pc := 8) (N := mt_Wh_ripeningBy) _ _ mv_Wh_ripeningBy ml_Wh_43 ck_10 d_Wh_ripen_8 (cm_Wh_ripeningBy _ _ _ hw ha hp) (by first | rfl | exact sh_wheel (by omega) | exact sh_milk (by omega)) rfl rfl (Nat.le_of_ble_eq_true rfl) (Nat.le_of_eq (Nat.zero_add _)) (Nat.le_of_eq (Nat.zero_add _)) (fun r_8 G_8 h_8 => ?_)
  obtain ⟨rfl, e_8⟩ := h_8
  subst G_8
  refine ar_iadd (pc := 11) d_Wh_ripen_11 ?_
  refine ac_stat (pc := 12) (N := mt_Wh_within) _ _ sv_Wh_within ml_Wh_33 d_Wh_ripen_12 (cm_Wh_within _ _ _ ⟨by omega, by omega⟩) rfl rfl (Nat.le_of_ble_eq_true rfl) (Nat.le_of_eq (Nat.zero_add _)) (Nat.le_of_eq (Nat.zero_add _)) (fun r_12 G_12 h_12 => ?_)
  obtain ⟨rfl, e_12⟩ := h_12
  subst G_12
  refine ar_putI (pc := 15) gf_Wh_40 d_Wh_ripen_15 rfl (by first | rfl | exact sh_wheel (by omega) | exact sh_milk (by omega)) ⟨by omega, by omega⟩ ?_
  refine ar_aload_n (pc := 18) d_Wh_ripen_18 rfl ?_
  refine ar_aload_n (pc := 19) d_Wh_ripen_19 rfl ?_
  refine ar_getIv (pc := 20) gf_Wh_30 d_Wh_ripen_20 (by first | rfl | exact sh_wheel (by omega) | exact sh_milk (by omega)) (mi_n (by omega)) (fun r_20 => ?_)
  refine ar_iload_n (pc := 23) d_Wh_ripen_23 rfl ?_
  refine ar_bipush (pc := 24) d_Wh_ripen_24 (by decide) ?_
  refine ar_idivp (pc := 26) d_Wh_ripen_26 (by omega) (by omega) (by omega) (by omega) ?_
  refine ar_iadd (pc := 27) d_Wh_ripen_27 ?_
  refine ar_aload_n (pc := 28) d_Wh_ripen_28 rfl ?_
  refine ar_getIv (pc := 29) gf_Wh_27 d_Wh_ripen_29 (by first | rfl | exact sh_wheel (by omega) | exact sh_milk (by omega)) (mi_n (by omega)) (fun r_29 => ?_)
  refine ar_iconst (pc := 32) d_Wh_ripen_32 ?_
  refine ar_idivp (pc := 33) d_Wh_ripen_33 (by omega) (by omega) (by omega) (by omega) ?_
  refine ar_iadd (pc := 34) d_Wh_ripen_34 ?_
  refine ac_stat (pc := 35) (N := mt_Wh_within) _ _ sv_Wh_within ml_Wh_33 d_Wh_ripen_35 (cm_Wh_within _ _ _ ⟨by omega, by omega⟩) rfl rfl (Nat.le_of_ble_eq_true rfl) (Nat.le_of_eq (Nat.zero_add _)) (Nat.le_of_eq (Nat.zero_add _)) (fun r_35 G_35 h_35 => ?_)
  obtain ⟨rfl, e_35⟩ := h_35
  subst G_35
  refine ar_putI (pc := 38) gf_Wh_30 d_Wh_ripen_38 rfl (by first | rfl | exact sh_wheel (by omega) | exact sh_milk (by omega)) ⟨by omega, by omega⟩ ?_
  refine ar_aload_n (pc := 41) d_Wh_ripen_41 rfl ?_
  refine ar_aload_n (pc := 42) d_Wh_ripen_42 rfl ?_
  refine ar_getIv (pc := 43) gf_Wh_37 d_Wh_ripen_43 (by first | rfl | exact sh_wheel (by omega) | exact sh_milk (by omega)) ((mi_n (by omega)).trans (mi_n (by omega))) (fun r_43 => ?_)
  refine ar_iload_n (pc := 46) d_Wh_ripen_46 rfl ?_
  refine ar_isub (pc := 47) d_Wh_ripen_47 ?_
  refine ac_stat (pc := 48) (N := mt_Wh_within) _ _ sv_Wh_within ml_Wh_33 d_Wh_ripen_48 (cm_Wh_within _ _ _ ⟨by omega, by omega⟩) rfl rfl (Nat.le_of_ble_eq_true rfl) (Nat.le_of_eq (Nat.zero_add _)) (Nat.le_of_eq (Nat.zero_add _)) (fun r_48 G_48 h_48 => ?_)
  obtain ⟨rfl, e_48⟩ := h_48
  subst G_48
  refine ar_putI (pc := 51) gf_Wh_37 d_Wh_ripen_51 rfl (by first | rfl | exact sh_wheel (by omega) | exact sh_milk (by omega)) ⟨by omega, by omega⟩ ?_
  refine ar_aload_n (pc := 54) d_Wh_ripen_54 rfl ?_
  refine ar_dup (pc := 55) d_Wh_ripen_55 rfl ?_
  refine ar_getIv (pc := 56) gf_Wh_27 d_Wh_ripen_56 (by first | rfl | exact sh_wheel (by omega) | exact sh_milk (by omega)) ((mi_n (by omega)).trans ((mi_n (by omega)).trans (mi_n (by omega)))) (fun r_56 => ?_)
  refine ar_iconst (pc := 59) d_Wh_ripen_59 ?_
  refine ar_iadd (pc := 60) d_Wh_ripen_60 ?_
  refine ar_putI (pc := 61) gf_Wh_27 d_Wh_ripen_61 rfl (by first | rfl | exact sh_wheel (by omega) | exact sh_milk (by omega)) ⟨by omega, by omega⟩ ?_
  refine ar_ret (pc := 64) d_Wh_ripen_64 rfl ?_
  rotate_left
  -- leaves: ret 64
  · exact ⟨rfl, rfl⟩
theorem cm_Wh_doDeed (X : gx_T) (d : Nat) (G : mm_T) {w : Nat} {q : Int} (hw : w < 40) (hq : i3_in q) (h7 : 0 ≤ mm_I G (300 + w) 7 ∧ mm_I G (300 + w) 7 ≤ 1000000) (h8 : 0 ≤ mm_I G (300 + w) 8 ∧ mm_I G (300 + w) 8 ≤ 1000000) : aw_M X (d + 3) mt_Wh_doDeed [av_r (some (300 + w)), av_i q] G 0 0 (fun r G' => r = none ∧ G' = if q = 2 then ms_I G (300 + w) 9 0 else if q = 3 then ms_I (ms_I G (300 + w) 7 (wn_v (mm_I G (300 + w) 7 - (if mm_I G (300 + w) 1 = 1 then 10 else 4)))) (300 + w) 8 (wn_v (mm_I G (300 + w) 8 + 5)) else if q = 4 then ms_I (ms_I G (300 + w) 7 (wn_v (mm_I G (300 + w) 7 - 6))) (300 + w) 8 (wn_v (mm_I G (300 + w) 8 - 2)) else G) := by
  have e1 := wn_r (mm_I G (300 + w) 7 - 10)
  have e2 := wn_r (mm_I G (300 + w) 7 - 4)
  have e3 := wn_r (mm_I G (300 + w) 8 + 5)
  have e4 := wn_r (mm_I G (300 + w) 7 - 6)
  have e5 := wn_r (mm_I G (300 + w) 8 - 2)
  refine aw_enter pf_Wh_doDeed (Nat.le_of_ble_eq_true rfl) ?_
  refine ar_iload_n (pc := 0) d_Wh_doDeed_0 rfl ?_
  refine ar_iconst (pc := 1) d_Wh_doDeed_1 ?_
  refine ar_icmp_ne (pc := 2) 13 d_Wh_doDeed_2 (by decide) ⟨by omega, by omega⟩ ⟨by omega, by omega⟩ (fun h_2 => ?_) (fun h_2 => ?_)
  refine ar_iload_n (pc := 13) d_Wh_doDeed_13 rfl ?_
  refine ar_iconst (pc := 14) d_Wh_doDeed_14 ?_
  refine ar_icmp_ne (pc := 15) 60 d_Wh_doDeed_15 (by decide) ⟨by omega, by omega⟩ ⟨by omega, by omega⟩ (fun h_15 => ?_) (fun h_15 => ?_)
  refine ar_iload_n (pc := 60) d_Wh_doDeed_60 rfl ?_
  refine ar_iconst (pc := 61) d_Wh_doDeed_61 ?_
  refine ar_icmp_ne (pc := 62) 92 d_Wh_doDeed_62 (by decide) ⟨by omega, by omega⟩ ⟨by omega, by omega⟩ (fun h_62 => ?_) (fun h_62 => ?_)
  refine ar_ret (pc := 92) d_Wh_doDeed_92 rfl ?_
  rotate_left
  refine ar_aload_n (pc := 65) d_Wh_doDeed_65 rfl ?_
  refine ar_aload_n (pc := 66) d_Wh_doDeed_66 rfl ?_
  refine ar_getI (pc := 67) gf_Wh_30 d_Wh_doDeed_67 (by first | rfl | exact sh_wheel (by omega) | exact sh_milk (by omega)) (fun r_67 => ?_)
  refine ar_bipush (pc := 70) d_Wh_doDeed_70 (by decide) ?_
  refine ar_isub (pc := 72) d_Wh_doDeed_72 ?_
  refine ac_stat (pc := 73) (N := mt_Wh_within) _ _ sv_Wh_within ml_Wh_33 d_Wh_doDeed_73 (cm_Wh_within _ _ _ ⟨by omega, by omega⟩) rfl rfl (Nat.le_of_ble_eq_true rfl) (Nat.le_of_eq (Nat.zero_add _)) (Nat.le_of_eq (Nat.zero_add _)) (fun r_73 G_73 h_73 => ?_)
  obtain ⟨rfl, e_73⟩ := h_73
  subst G_73
  refine ar_putI (pc := 76) gf_Wh_30 d_Wh_doDeed_76 rfl (by first | rfl | exact sh_wheel (by omega) | exact sh_milk (by omega)) ⟨by omega, by omega⟩ ?_
  refine ar_aload_n (pc := 79) d_Wh_doDeed_79 rfl ?_
  refine ar_aload_n (pc := 80) d_Wh_doDeed_80 rfl ?_
  refine ar_getIv (pc := 81) gf_Wh_37 d_Wh_doDeed_81 (by first | rfl | exact sh_wheel (by omega) | exact sh_milk (by omega)) (mi_n (by omega)) (fun r_81 => ?_)
  refine ar_iconst (pc := 84) d_Wh_doDeed_84 ?_
  refine ar_isub (pc := 85) d_Wh_doDeed_85 ?_
  refine ac_stat (pc := 86) (N := mt_Wh_within) _ _ sv_Wh_within ml_Wh_33 d_Wh_doDeed_86 (cm_Wh_within _ _ _ ⟨by omega, by omega⟩) rfl rfl (Nat.le_of_ble_eq_true rfl) (Nat.le_of_eq (Nat.zero_add _)) (Nat.le_of_eq (Nat.zero_add _)) (fun r_86 G_86 h_86 => ?_)
  obtain ⟨rfl, e_86⟩ := h_86
  subst G_86
  refine ar_putI (pc := 89) gf_Wh_37 d_Wh_doDeed_89 rfl (by first | rfl | exact sh_wheel (by omega) | exact sh_milk (by omega)) ⟨by omega, by omega⟩ ?_
  refine ar_ret (pc := 92) d_Wh_doDeed_92 rfl ?_
  rotate_left
  refine ar_aload_n (pc := 18) d_Wh_doDeed_18 rfl ?_
  refine ar_aload_n (pc := 19) d_Wh_doDeed_19 rfl ?_
  refine ar_getI (pc := 20) gf_Wh_30 d_Wh_doDeed_20 (by first | rfl | exact sh_wheel (by omega) | exact sh_milk (by omega)) (fun r_20 => ?_)
  refine ar_aload_n (pc := 23) d_Wh_doDeed_23 rfl ?_
  refine ar_getI (pc := 24) gf_Wh_21 d_Wh_doDeed_24 (by first | rfl | exact sh_wheel (by omega) | exact sh_milk (by omega)) (fun r_24 => ?_)
  refine ar_iconst (pc := 27) d_Wh_doDeed_27 ?_
  refine ar_icmp_ne (pc := 28) 36 d_Wh_doDeed_28 (by decide) ⟨by omega, by omega⟩ ⟨by omega, by omega⟩ (fun h_28 => ?_) (fun h_28 => ?_)
  refine ar_iconst (pc := 36) d_Wh_doDeed_36 ?_
  refine ar_isub (pc := 37) d_Wh_doDeed_37 ?_
  refine ac_stat (pc := 38) (N := mt_Wh_within) _ _ sv_Wh_within ml_Wh_33 d_Wh_doDeed_38 (cm_Wh_within _ _ _ ⟨by omega, by omega⟩) rfl rfl (Nat.le_of_ble_eq_true rfl) (Nat.le_of_eq (Nat.zero_add _)) (Nat.le_of_eq (Nat.zero_add _)) (fun r_38 G_38 h_38 => ?_)
  obtain ⟨rfl, e_38⟩ := h_38
  subst G_38
  refine ar_putI (pc := 41) gf_Wh_30 d_Wh_doDeed_41 rfl (by first | rfl | exact sh_wheel (by omega) | exact sh_milk (by omega)) ⟨by omega, by omega⟩ ?_
  refine ar_aload_n (pc := 44) d_Wh_doDeed_44 rfl ?_
  refine ar_aload_n (pc := 45) d_Wh_doDeed_45 rfl ?_
  refine ar_getIv (pc := 46) gf_Wh_37 d_Wh_doDeed_46 (by first | rfl | exact sh_wheel (by omega) | exact sh_milk (by omega)) (mi_n (by omega)) (fun r_46 => ?_)
  refine ar_iconst (pc := 49) d_Wh_doDeed_49 ?_
  refine ar_iadd (pc := 50) d_Wh_doDeed_50 ?_
  refine ac_stat (pc := 51) (N := mt_Wh_within) _ _ sv_Wh_within ml_Wh_33 d_Wh_doDeed_51 (cm_Wh_within _ _ _ ⟨by omega, by omega⟩) rfl rfl (Nat.le_of_ble_eq_true rfl) (Nat.le_of_eq (Nat.zero_add _)) (Nat.le_of_eq (Nat.zero_add _)) (fun r_51 G_51 h_51 => ?_)
  obtain ⟨rfl, e_51⟩ := h_51
  subst G_51
  refine ar_putI (pc := 54) gf_Wh_37 d_Wh_doDeed_54 rfl (by first | rfl | exact sh_wheel (by omega) | exact sh_milk (by omega)) ⟨by omega, by omega⟩ ?_
  refine ar_goto (pc := 57) 92 d_Wh_doDeed_57 (by decide) ?_
  refine ar_ret (pc := 92) d_Wh_doDeed_92 rfl ?_
  rotate_left
  refine ar_bipush (pc := 31) d_Wh_doDeed_31 (by decide) ?_
  refine ar_goto (pc := 33) 37 d_Wh_doDeed_33 (by decide) ?_
  refine ar_isub (pc := 37) d_Wh_doDeed_37 ?_
  refine ac_stat (pc := 38) (N := mt_Wh_within) _ _ sv_Wh_within ml_Wh_33 d_Wh_doDeed_38 (cm_Wh_within _ _ _ ⟨by omega, by omega⟩) rfl rfl (Nat.le_of_ble_eq_true rfl) (Nat.le_of_eq (Nat.zero_add _)) (Nat.le_of_eq (Nat.zero_add _)) (fun r_38 G_38 h_38 => ?_)
  obtain ⟨rfl, e_38⟩ := h_38
  subst G_38
  refine ar_putI (pc := 41) gf_Wh_30 d_Wh_doDeed_41 rfl (by first | rfl | exact sh_wheel (by omega) | exact sh_milk (by omega)) ⟨by omega, by omega⟩ ?_
  refine ar_aload_n (pc := 44) d_Wh_doDeed_44 rfl ?_
  refine ar_aload_n (pc := 45) d_Wh_doDeed_45 rfl ?_
  refine ar_getIv (pc := 46) gf_Wh_37 d_Wh_doDeed_46 (by first | rfl | exact sh_wheel (by omega) | exact sh_milk (by omega)) (mi_n (by omega)) (fun r_46 => ?_)
  refine ar_iconst (pc := 49) d_Wh_doDeed_49 ?_
  refine ar_iadd (pc := 50) d_Wh_doDeed_50 ?_
  refine ac_stat (pc := 51) (N := mt_Wh_within) _ _ sv_Wh_within ml_Wh_33 d_Wh_doDeed_51 (cm_Wh_within _ _ _ ⟨by omega, by omega⟩) rfl rfl (Nat.le_of_ble_eq_true rfl) (Nat.le_of_eq (Nat.zero_add _)) (Nat.le_of_eq (Nat.zero_add _)) (fun r_51 G_51 h_51 => ?_)
  obtain ⟨rfl, e_51⟩ := h_51
  subst G_51
  refine ar_putI (pc := 54) gf_Wh_37 d_Wh_doDeed_54 rfl (by first | rfl | exact sh_wheel (by omega) | exact sh_milk (by omega)) ⟨by omega, by omega⟩ ?_
  refine ar_goto (pc := 57) 92 d_Wh_doDeed_57 (by decide) ?_
  refine ar_ret (pc := 92) d_Wh_doDeed_92 rfl ?_
  rotate_left
  refine ar_aload_n (pc := 5) d_Wh_doDeed_5 rfl ?_
  refine ar_iconst (pc := 6) d_Wh_doDeed_6 ?_
  refine ar_putI (pc := 7) gf_Wh_27 d_Wh_doDeed_7 rfl (by first | rfl | exact sh_wheel (by omega) | exact sh_milk (by omega)) ⟨by omega, by omega⟩ ?_
  refine ar_goto (pc := 10) 92 d_Wh_doDeed_10 (by decide) ?_
  refine ar_ret (pc := 92) d_Wh_doDeed_92 rfl ?_
  rotate_left
  -- leaves: ret 92, ret 92, ret 92, ret 92, ret 92
  · rw [if_neg (by omega), if_neg (by omega), if_neg (by omega)]; exact ⟨rfl, rfl⟩
  · rw [if_neg (by omega), if_neg (by omega), if_pos (by omega)]; exact ⟨rfl, rfl⟩
  · rw [if_neg (by omega), if_pos (by omega), if_neg (by omega)]; exact ⟨rfl, rfl⟩
  · rw [if_neg (by omega), if_pos (by omega), if_pos (by omega)]; exact ⟨rfl, rfl⟩
  · rw [if_pos (by omega)]; exact ⟨rfl, rfl⟩
theorem cm_Pl_isFull (X : gx_T) (d : Nat) (G : mm_T) : aw_M X (d + 1) mt_Pl_isFull [av_r (some 24)] G 0 0 (fun r G' => r = some (av_i (if 10 ≤ mm_I G 24 8 then 1 else 0)) ∧ G' = G) := by
  refine aw_enter pf_Pl_isFull (Nat.le_of_ble_eq_true rfl) ?_
  refine ar_aload_n (pc := 0) d_Pl_isFull_0 rfl ?_
  refine ar_getI (pc := 1) gf_Pl_37 d_Pl_isFull_1 (by first | rfl | exact sh_wheel (by omega) | exact sh_milk (by omega)) (fun r_1 => ?_)
  refine ar_bipush (pc := 4) d_Pl_isFull_4 (by decide) ?_
  refine ar_icmp_lt (pc := 6) 13 d_Pl_isFull_6 (by decide) ⟨by omega, by omega⟩ ⟨by omega, by omega⟩ (fun h_6 => ?_) (fun h_6 => ?_)
  refine ar_iconst (pc := 13) d_Pl_isFull_13 ?_
  refine ar_zret (pc := 14) d_Pl_isFull_14 rfl (by omega) ?_
  rotate_left
  refine ar_iconst (pc := 9) d_Pl_isFull_9 ?_
  refine ar_goto (pc := 10) 14 d_Pl_isFull_10 (by decide) ?_
  refine ar_zret (pc := 14) d_Pl_isFull_14 rfl (by omega) ?_
  rotate_left
  -- leaves: ret 14, ret 14
  all_goals (refine ⟨?_, rfl⟩)
  all_goals first | rw [if_pos (by omega)] | rw [if_neg (by omega)]
theorem cm_Pl_spoil (X : gx_T) (d : Nat) (G : mm_T) : aw_M X (d + 1) mt_Pl_spoil [av_r (some 24)] G 0 0 (fun r G' => r = none ∧ G' = ms_I G 24 11 1) := by
  refine aw_enter pf_Pl_spoil (Nat.le_of_ble_eq_true rfl) ?_
  refine ar_aload_n (pc := 0) d_Pl_spoil_0 rfl ?_
  refine ar_iconst (pc := 1) d_Pl_spoil_1 ?_
  refine ar_putZ (pc := 2) gf_Pl_82 d_Pl_spoil_2 rfl (by first | rfl | exact sh_wheel (by omega) | exact sh_milk (by omega)) (by omega) ?_
  refine ar_ret (pc := 5) d_Pl_spoil_5 rfl ?_
  rotate_left
  -- leaves: ret 5
  · exact ⟨rfl, rfl⟩
theorem cm_Pl_forget (X : gx_T) (d : Nat) (G : mm_T) : aw_M X (d + 1) mt_Pl_forget [av_r (some 24)] G 0 0 (fun r G' => r = none ∧ G' = ms_I (ms_I G 24 10 0) 24 9 0) := by
  refine aw_enter pf_Pl_forget (Nat.le_of_ble_eq_true rfl) ?_
  refine ar_aload_n (pc := 0) d_Pl_forget_0 rfl ?_
  refine ar_iconst (pc := 1) d_Pl_forget_1 ?_
  refine ar_putZ (pc := 2) gf_Pl_78 d_Pl_forget_2 rfl (by first | rfl | exact sh_wheel (by omega) | exact sh_milk (by omega)) (by omega) ?_
  refine ar_aload_n (pc := 5) d_Pl_forget_5 rfl ?_
  refine ar_iconst (pc := 6) d_Pl_forget_6 ?_
  refine ar_putI (pc := 7) gf_Pl_85 d_Pl_forget_7 rfl (by first | rfl | exact sh_wheel (by omega) | exact sh_milk (by omega)) ⟨by omega, by omega⟩ ?_
  refine ar_ret (pc := 10) d_Pl_forget_10 rfl ?_
  rotate_left
  -- leaves: ret 10
  · exact ⟨rfl, rfl⟩
theorem cm_Pl_canBeCarried (X : gx_T) (d : Nat) (G : mm_T) : aw_M X (d + 1) mt_Pl_canBeCarried [av_r (some 24)] G 0 0 (fun r G' => r = some (av_i (if mm_I G 24 10 ≠ 0 ∧ mm_I G 24 11 = 0 then 1 else 0)) ∧ G' = G) := by
  refine aw_enter pf_Pl_canBeCarried (Nat.le_of_ble_eq_true rfl) ?_
  refine ar_aload_n (pc := 0) d_Pl_canBeCarried_0 rfl ?_
  refine ar_getZ (pc := 1) gf_Pl_78 d_Pl_canBeCarried_1 (by first | rfl | exact sh_wheel (by omega) | exact sh_milk (by omega)) (fun r_1 => ?_)
  refine ar_if_eq (pc := 4) 18 d_Pl_canBeCarried_4 (by decide) ⟨by omega, by omega⟩ (fun h_4 => ?_) (fun h_4 => ?_)
  refine ar_iconst (pc := 18) d_Pl_canBeCarried_18 ?_
  refine ar_zret (pc := 19) d_Pl_canBeCarried_19 rfl (by omega) ?_
  rotate_left
  refine ar_aload_n (pc := 7) d_Pl_canBeCarried_7 rfl ?_
  refine ar_getZ (pc := 8) gf_Pl_82 d_Pl_canBeCarried_8 (by first | rfl | exact sh_wheel (by omega) | exact sh_milk (by omega)) (fun r_8 => ?_)
  refine ar_if_ne (pc := 11) 18 d_Pl_canBeCarried_11 (by decide) ⟨by omega, by omega⟩ (fun h_11 => ?_) (fun h_11 => ?_)
  refine ar_iconst (pc := 18) d_Pl_canBeCarried_18 ?_
  refine ar_zret (pc := 19) d_Pl_canBeCarried_19 rfl (by omega) ?_
  rotate_left
  refine ar_iconst (pc := 14) d_Pl_canBeCarried_14 ?_
  refine ar_goto (pc := 15) 19 d_Pl_canBeCarried_15 (by decide) ?_
  refine ar_zret (pc := 19) d_Pl_canBeCarried_19 rfl (by omega) ?_
  rotate_left
  -- leaves: ret 19, ret 19, ret 19
  all_goals (refine ⟨?_, rfl⟩)
  all_goals first | rw [if_pos (by omega)] | rw [if_neg (by omega)]
theorem cm_Pl_shelfFor (X : gx_T) (d : Nat) (G : mm_T) {w : Int} (hF : fx_R G) (hw : i3_in w) : aw_M X (d + 2) mt_Pl_shelfFor [av_r (some 24), av_i w] G 0 0 (fun r G' => r = some (av_i (if mm_I G 24 10 ≠ 0 ∧ 0 ≤ w ∧ w ≤ 39 then mm_I G 32 w.toNat else -1)) ∧ G' = G) := by
  refine aw_enter pf_Pl_shelfFor (Nat.le_of_ble_eq_true rfl) ?_
  refine ar_aload_n (pc := 0) d_Pl_shelfFor_0 rfl ?_
  refine ar_getZ (pc := 1) gf_Pl_78 d_Pl_shelfFor_1 (by first | rfl | exact sh_wheel (by omega) | exact sh_milk (by omega)) (fun r_1 => ?_)
  refine ar_if_eq (pc := 4) 25 d_Pl_shelfFor_4 (by decide) ⟨by omega, by omega⟩ (fun h_4 => ?_) (fun h_4 => ?_)
  refine ar_iconst (pc := 25) d_Pl_shelfFor_25 ?_
  refine ar_iret (pc := 26) d_Pl_shelfFor_26 rfl ?_
  rotate_left
  refine ar_iload_n (pc := 7) d_Pl_shelfFor_7 rfl ?_
  refine ar_bipush (pc := 8) d_Pl_shelfFor_8 (by decide) ?_
  refine ac_statN (pc := 10) (N := mt_K_isUpTo) _ _ sv_K_isUpTo (List.mem_of_getElem? (i := 11) rfl) d_Pl_shelfFor_10 (cm_K_isUpTo _ _ _ ⟨by omega, by omega⟩ ⟨by omega, by omega⟩) rfl rfl (Nat.le_of_ble_eq_true rfl) (Nat.le_of_eq (Nat.zero_add _)) (Nat.le_of_eq (Nat.zero_add _)) (fun r_10 G_10 h_10 => ?_)
  obtain ⟨rfl, e_10⟩ := h_10
  subst G_10
  refine ar_if_eq (pc := 13) 25 d_Pl_shelfFor_13 (by decide) ⟨by omega, by omega⟩ (fun h_13 => ?_) (fun h_13 => ?_)
  refine ar_iconst (pc := 25) d_Pl_shelfFor_25 ?_
  refine ar_iret (pc := 26) d_Pl_shelfFor_26 rfl ?_
  rotate_left
  refine ar_aload_n (pc := 16) d_Pl_shelfFor_16 rfl ?_
  refine ar_getR (pc := 17) gf_Pl_34 d_Pl_shelfFor_17 (by first | rfl | exact sh_wheel (by omega) | exact sh_milk (by omega)) (hF _ _ _ rfl) ?_
  refine ar_iload_n (pc := 20) d_Pl_shelfFor_20 rfl ?_
  refine ar_iald (pc := 21) d_Pl_shelfFor_21 rfl _ (Int.toNat_of_nonneg (by omega)).symm (by omega) (fun r_21 => ?_)
  refine ar_goto (pc := 22) 26 d_Pl_shelfFor_22 (by decide) ?_
  refine ar_iret (pc := 26) d_Pl_shelfFor_26 rfl ?_
  rotate_left
  -- leaves: ret 26, ret 26, ret 26
  all_goals (refine ⟨?_, rfl⟩)
  all_goals first | rw [if_pos (by omega)] | rw [if_neg (by omega)]
/-- the references of milks and wheels -/
def fx_W (G : mm_T) : Prop := (0 ≤ mm_I G 0 13 ∧ mm_I G 0 13 ≤ 30) ∧ (0 ≤ mm_I G 0 14 ∧ mm_I G 0 14 ≤ 40) ∧ (∀ k : Nat, (k : Int) < mm_I G 0 13 → mm_R G 5 k = some (200 + k)) ∧ (∀ k : Nat, (k : Int) < mm_I G 0 14 → mm_R G 6 k = some (300 + k))
theorem cm_K_milkAt (X : gx_T) (d : Nat) (G : mm_T) {m : Int} (hF : fx_R G) (hW : fx_W G) (hm : i3_in m) : aw_M X (d + 1) mt_K_milkAt [av_r (some 0), av_i m] G 0 0 (fun r G' => r = some (av_r (if 0 ≤ m ∧ m < mm_I G 0 13 then some (200 + m.toNat) else none)) ∧ G' = G) := by
  obtain ⟨hW1, -, hW3, -⟩ := hW
  have hW3 := hW3 m.toNat
  refine aw_enter pf_K_milkAt (Nat.le_of_ble_eq_true rfl) ?_
  refine ar_iload_n (pc := 0) d_K_milkAt_0 rfl ?_
  refine ar_if_lt (pc := 1) 21 d_K_milkAt_1 (by decide) ⟨by omega, by omega⟩ (fun h_1 => ?_) (fun h_1 => ?_)
  refine ar_null (pc := 21) d_K_milkAt_21 ?_
  refine ar_aret (pc := 22) d_K_milkAt_22 rfl ?_
  rotate_left
  refine ar_iload_n (pc := 4) d_K_milkAt_4 rfl ?_
  refine ar_aload_n (pc := 5) d_K_milkAt_5 rfl ?_
  refine ar_getI (pc := 6) gf_K_100 d_K_milkAt_6 (by first | rfl | exact sh_wheel (by omega) | exact sh_milk (by omega)) (fun r_6 => ?_)
  refine ar_icmp_ge (pc := 9) 21 d_K_milkAt_9 (by decide) ⟨by omega, by omega⟩ ⟨by omega, by omega⟩ (fun h_9 => ?_) (fun h_9 => ?_)
  refine ar_null (pc := 21) d_K_milkAt_21 ?_
  refine ar_aret (pc := 22) d_K_milkAt_22 rfl ?_
  rotate_left
  refine ar_aload_n (pc := 12) d_K_milkAt_12 rfl ?_
  refine ar_getR (pc := 13) gf_K_18 d_K_milkAt_13 (by first | rfl | exact sh_wheel (by omega) | exact sh_milk (by omega)) (hF _ _ _ rfl) ?_
  refine ar_iload_n (pc := 16) d_K_milkAt_16 rfl ?_
  refine ar_aald103 (pc := 17) d_K_milkAt_17 rfl _ (Int.toNat_of_nonneg (by omega)).symm (by omega) (hW3 (by omega)) ?_
  refine ar_goto (pc := 18) 22 d_K_milkAt_18 (by decide) ?_
  refine ar_aret (pc := 22) d_K_milkAt_22 rfl ?_
  rotate_left
  -- leaves: ret 22, ret 22, ret 22
  all_goals (refine ⟨?_, rfl⟩)
  all_goals first | rw [if_pos (by omega)] | rw [if_neg (by omega)]
theorem cm_K_wheelAt (X : gx_T) (d : Nat) (G : mm_T) {m : Int} (hF : fx_R G) (hW : fx_W G) (hm : i3_in m) : aw_M X (d + 1) mt_K_wheelAt [av_r (some 0), av_i m] G 0 0 (fun r G' => r = some (av_r (if 0 ≤ m ∧ m < mm_I G 0 14 then some (300 + m.toNat) else none)) ∧ G' = G) := by
  obtain ⟨-, hW1, -, hW3⟩ := hW
  have hW3 := hW3 m.toNat
  refine aw_enter pf_K_wheelAt (Nat.le_of_ble_eq_true rfl) ?_
  refine ar_iload_n (pc := 0) d_K_wheelAt_0 rfl ?_
  refine ar_if_lt (pc := 1) 21 d_K_wheelAt_1 (by decide) ⟨by omega, by omega⟩ (fun h_1 => ?_) (fun h_1 => ?_)
  refine ar_null (pc := 21) d_K_wheelAt_21 ?_
  refine ar_aret (pc := 22) d_K_wheelAt_22 rfl ?_
  rotate_left
  refine ar_iload_n (pc := 4) d_K_wheelAt_4 rfl ?_
  refine ar_aload_n (pc := 5) d_K_wheelAt_5 rfl ?_
  refine ar_getI (pc := 6) gf_K_115 d_K_wheelAt_6 (by first | rfl | exact sh_wheel (by omega) | exact sh_milk (by omega)) (fun r_6 => ?_)
  refine ar_icmp_ge (pc := 9) 21 d_K_wheelAt_9 (by decide) ⟨by omega, by omega⟩ ⟨by omega, by omega⟩ (fun h_9 => ?_) (fun h_9 => ?_)
  refine ar_null (pc := 21) d_K_wheelAt_21 ?_
  refine ar_aret (pc := 22) d_K_wheelAt_22 rfl ?_
  rotate_left
  refine ar_aload_n (pc := 12) d_K_wheelAt_12 rfl ?_
  refine ar_getR (pc := 13) gf_K_24 d_K_wheelAt_13 (by first | rfl | exact sh_wheel (by omega) | exact sh_milk (by omega)) (hF _ _ _ rfl) ?_
  refine ar_iload_n (pc := 16) d_K_wheelAt_16 rfl ?_
  refine ar_aald104 (pc := 17) d_K_wheelAt_17 rfl _ (Int.toNat_of_nonneg (by omega)).symm (by omega) (hW3 (by omega)) ?_
  refine ar_goto (pc := 18) 22 d_K_wheelAt_18 (by decide) ?_
  refine ar_aret (pc := 22) d_K_wheelAt_22 rfl ?_
  rotate_left
  -- leaves: ret 22, ret 22, ret 22
  all_goals (refine ⟨?_, rfl⟩)
  all_goals first | rw [if_pos (by omega)] | rw [if_neg (by omega)]
theorem cm_K_lyingWheel (X : gx_T) (d : Nat) (G : mm_T) {m : Int} (hF : fx_R G) (hW : fx_W G) (hm : i3_in m) : aw_M X (d + 2) mt_K_lyingWheel [av_r (some 0), av_i m] G 0 0 (fun r G' => r = some (av_r (if (0 ≤ m ∧ m < mm_I G 0 14) ∧ mm_I G (300 + m.toNat) 4 ≠ -1 then some (300 + m.toNat) else none)) ∧ G' = G) := by
  have hW2 := hW.2.1
  by_cases hin : 0 ≤ m ∧ m < mm_I G 0 14
  · have h := cm_K_wheelAt X d G hF hW hm
    rw [if_pos hin] at h
    refine aw_enter pf_K_lyingWheel (Nat.le_of_ble_eq_true rfl) ?_
    refine ar_aload_n (pc := 0) d_K_lyingWheel_0 rfl ?_
    refine ar_iload_n (pc := 1) d_K_lyingWheel_1 rfl ?_
    refine ac_virt (pc := 2) (N := mt_K_wheelAt) _ _ mv_K_wheelAt ml_K_173 ck_11 d_K_lyingWheel_2 h (by first | rfl | exact sh_wheel (by omega) | exact sh_milk (by omega)) rfl rfl (Nat.le_of_ble_eq_true rfl) (Nat.le_of_eq (Nat.zero_add _)) (Nat.le_of_eq (Nat.zero_add _)) (fun r_2 G_2 h_2 => ?_)
    obtain ⟨rfl, e_2⟩ := h_2
    subst G_2
    refine ar_astore_n (pc := 5) d_K_lyingWheel_5 rfl (by decide) ?_
    refine ar_aload_n (pc := 6) d_K_lyingWheel_6 rfl ?_
    refine ar_ifnull (pc := 7) 22 d_K_lyingWheel_7 (by decide) (fun h => by cases h) (fun _ _ => ?_)
    refine ar_aload_n (pc := 10) d_K_lyingWheel_10 rfl ?_
    refine ar_getI (pc := 11) gf_K_138 d_K_lyingWheel_11 (by first | rfl | exact sh_wheel (by omega) | exact sh_milk (by omega)) (fun r_11 => ?_)
    refine ar_iconst (pc := 14) d_K_lyingWheel_14 ?_
    refine ar_icmp_eq (pc := 15) 22 d_K_lyingWheel_15 (by decide) ⟨by omega, by omega⟩ ⟨by omega, by omega⟩ (fun h_15 => ?_) (fun h_15 => ?_)
    refine ar_null (pc := 22) d_K_lyingWheel_22 ?_
    refine ar_aret (pc := 23) d_K_lyingWheel_23 rfl ?_
    rotate_left
    refine ar_aload_n (pc := 18) d_K_lyingWheel_18 rfl ?_
    refine ar_goto (pc := 19) 23 d_K_lyingWheel_19 (by decide) ?_
    refine ar_aret (pc := 23) d_K_lyingWheel_23 rfl ?_
    rotate_left
    -- leaves: ret 23, ret 23
    all_goals (refine ⟨?_, rfl⟩)
    all_goals first | rw [if_pos (by omega)] | rw [if_neg (by omega)]
  · have h := cm_K_wheelAt X d G hF hW hm
    rw [if_neg hin] at h
    refine aw_enter pf_K_lyingWheel (Nat.le_of_ble_eq_true rfl) ?_
    refine ar_aload_n (pc := 0) d_K_lyingWheel_0 rfl ?_
    refine ar_iload_n (pc := 1) d_K_lyingWheel_1 rfl ?_
    refine ac_virt (pc := 2) (N := mt_K_wheelAt) _ _ mv_K_wheelAt ml_K_173 ck_11 d_K_lyingWheel_2 h (by first | rfl | exact sh_wheel (by omega) | exact sh_milk (by omega)) rfl rfl (Nat.le_of_ble_eq_true rfl) (Nat.le_of_eq (Nat.zero_add _)) (Nat.le_of_eq (Nat.zero_add _)) (fun r_2 G_2 h_2 => ?_)
    obtain ⟨rfl, e_2⟩ := h_2
    subst G_2
    refine ar_astore_n (pc := 5) d_K_lyingWheel_5 rfl (by decide) ?_
    refine ar_aload_n (pc := 6) d_K_lyingWheel_6 rfl ?_
    refine ar_ifnull (pc := 7) 22 d_K_lyingWheel_7 (by decide) (fun _ => ?_) (fun _ h => by cases h)
    refine ar_null (pc := 22) d_K_lyingWheel_22 ?_
    refine ar_aret (pc := 23) d_K_lyingWheel_23 rfl ?_
    rotate_left
    -- leaves: ret 23
    · refine ⟨?_, rfl⟩; rw [if_neg (by omega)]
theorem cm_K_ageOf (X : gx_T) (d : Nat) (G : mm_T) {w : Nat} (hw : w < 40) : aw_M X (d + 1) mt_K_ageOf [av_r (some 0), av_r (some (300 + w))] G 0 0 (fun r G' => r = some (av_i (mm_I G 0 15 - mm_I G (300 + w) 2)) ∧ G' = G) := by
  refine aw_enter pf_K_ageOf (Nat.le_of_ble_eq_true rfl) ?_
  refine ar_aload_n (pc := 0) d_K_ageOf_0 rfl ?_
  refine ar_getI (pc := 1) gf_K_132 d_K_ageOf_1 (by first | rfl | exact sh_wheel (by omega) | exact sh_milk (by omega)) (fun r_1 => ?_)
  refine ar_aload_n (pc := 4) d_K_ageOf_4 rfl ?_
  refine ar_getI (pc := 5) gf_K_273 d_K_ageOf_5 (by first | rfl | exact sh_wheel (by omega) | exact sh_milk (by omega)) (fun r_5 => ?_)
  refine ar_isub (pc := 8) d_K_ageOf_8 ?_
  refine ar_iret (pc := 9) d_K_ageOf_9 rfl ?_
  rotate_left
  -- leaves: ret 9
  · exact ⟨rfl, rfl⟩
theorem cm_K_isSuited (X : gx_T) (d : Nat) (G : mm_T) {w : Nat} {s : Int} (hF : fx_R G) (hw : w < 40) (hs : i3_in s) (hk : 0 ≤ mm_I G (300 + w) 1 ∧ mm_I G (300 + w) 1 ≤ 2) (hag : i3_in (mm_I G 0 15 - mm_I G (300 + w) 2)) (hc : ∀ k, k < 3 → 0 ≤ mm_I G 8 k ∧ mm_I G 8 k ≤ 4) : aw_M X (d + 4) mt_K_isSuited [av_r (some 0), av_r (some (300 + w)), av_i s] G 0 0 (fun r G' => r = some (av_i (if 0 ≤ s ∧ s ≤ 23 then bv_p (bd_suit (mm_I G 8) (mm_I G 9) (mm_I G 10) (mm_I G 11) (mm_I G (300 + w) 1) (mm_I G 0 15 - mm_I G (300 + w) 2) (mm_I G 2 s.toNat)) else 0)) ∧ G' = G) := by
  have hbv := bv_c (bd_suit (mm_I G 8) (mm_I G 9) (mm_I G 10) (mm_I G 11) (mm_I G (300 + w) 1) (mm_I G 0 15 - mm_I G (300 + w) 2) (mm_I G 2 s.toNat))
  refine aw_enter pf_K_isSuited (Nat.le_of_ble_eq_true rfl) ?_
  refine ar_iload_n (pc := 0) d_K_isSuited_0 rfl ?_
  refine ar_bipush (pc := 1) d_K_isSuited_1 (by decide) ?_
  refine ac_stat (pc := 3) (N := mt_K_isUpTo) _ _ sv_K_isUpTo ml_K_87 d_K_isSuited_3 (cm_K_isUpTo _ _ _ ⟨by omega, by omega⟩ ⟨by omega, by omega⟩) rfl rfl (Nat.le_of_ble_eq_true rfl) (Nat.le_of_eq (Nat.zero_add _)) (Nat.le_of_eq (Nat.zero_add _)) (fun r_3 G_3 h_3 => ?_)
  obtain ⟨rfl, e_3⟩ := h_3
  subst G_3
  refine ar_if_eq (pc := 6) 41 d_K_isSuited_6 (by decide) ⟨by omega, by omega⟩ (fun h_6 => ?_) (fun h_6 => ?_)
  refine ar_iconst (pc := 41) d_K_isSuited_41 ?_
  refine ar_zret (pc := 42) d_K_isSuited_42 rfl (by omega) ?_
  rotate_left
  refine ar_aload_n (pc := 9) d_K_isSuited_9 rfl ?_
  refine ar_getR (pc := 10) gf_K_31 d_K_isSuited_10 (by first | rfl | exact sh_wheel (by omega) | exact sh_milk (by omega)) (hF _ _ _ rfl) ?_
  refine ar_aload_n (pc := 13) d_K_isSuited_13 rfl ?_
  refine ar_getI (pc := 14) gf_K_176 d_K_isSuited_14 (by first | rfl | exact sh_wheel (by omega) | exact sh_milk (by omega)) (fun r_14 => ?_)
  refine ar_aload_n (pc := 17) d_K_isSuited_17 rfl ?_
  refine ar_aload_n (pc := 18) d_K_isSuited_18 rfl ?_
  refine ac_virt (pc := 19) (N := mt_K_ageOf) _ _ mv_K_ageOf ml_K_188 ck_11 d_K_isSuited_19 (cm_K_ageOf _ _ _ hw) (by first | rfl | exact sh_wheel (by omega) | exact sh_milk (by omega)) rfl rfl (Nat.le_of_ble_eq_true rfl) (Nat.le_of_eq (Nat.zero_add _)) (Nat.le_of_eq (Nat.zero_add _)) (fun r_19 G_19 h_19 => ?_)
  obtain ⟨rfl, e_19⟩ := h_19
  subst G_19
  refine ar_aload_n (pc := 22) d_K_isSuited_22 rfl ?_
  refine ar_getR (pc := 23) gf_K_10 d_K_isSuited_23 (by first | rfl | exact sh_wheel (by omega) | exact sh_milk (by omega)) (hF _ _ _ rfl) ?_
  refine ar_getR (pc := 26) gf_K_91 d_K_isSuited_26 (by first | rfl | exact sh_wheel (by omega) | exact sh_milk (by omega)) (hF _ _ _ rfl) ?_
  refine ar_iload_n (pc := 29) d_K_isSuited_29 rfl ?_
  refine ar_iald (pc := 30) d_K_isSuited_30 rfl _ (Int.toNat_of_nonneg (by omega)).symm (by omega) (fun r_30 => ?_)
  refine ac_virt (pc := 31) (N := mt_Ba_allow) _ _ mv_Ba_allow ml_K_276 ck_0 d_K_isSuited_31 (cm_Ba_allow _ _ _ hF hk hag ⟨by omega, by omega⟩ (hc _ (by omega))) (by first | rfl | exact sh_wheel (by omega) | exact sh_milk (by omega)) rfl rfl (Nat.le_of_ble_eq_true rfl) (Nat.le_of_eq (Nat.zero_add _)) (Nat.le_of_eq (Nat.zero_add _)) (fun r_31 G_31 h_31 => ?_)
  obtain ⟨rfl, e_31⟩ := h_31
  subst G_31
  refine ar_if_eq (pc := 34) 41 d_K_isSuited_34 (by decide) ⟨by omega, by omega⟩ (fun h_34 => ?_) (fun h_34 => ?_)
  refine ar_iconst (pc := 41) d_K_isSuited_41 ?_
  refine ar_zret (pc := 42) d_K_isSuited_42 rfl (by omega) ?_
  rotate_left
  refine ar_iconst (pc := 37) d_K_isSuited_37 ?_
  refine ar_goto (pc := 38) 42 d_K_isSuited_38 (by decide) ?_
  refine ar_zret (pc := 42) d_K_isSuited_42 rfl (by omega) ?_
  rotate_left
  -- leaves: ret 42, ret 42, ret 42
  all_goals (refine ⟨congrArg (fun x => some (av_i x)) ?_, rfl⟩)
  all_goals omega
