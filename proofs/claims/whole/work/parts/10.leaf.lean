/-! ===== first contracts ===== -/
/-- references that never change once they are made -/
def fx_tab : List (List (Option Nat)) := [[some 1, some 5, some 6, some 7, some 12, some 17, some 24, some 33, some 35, some 40, some 41], [some 2, some 3, some 4], [], [], [], [], [], [some 8, some 9, some 10, some 11], [], [], [], [], [some 13, some 14, some 15, some 16], [], [], [], [], [some 18, some 19, some 20, some 21, some 22, some 23], [], [], [], [], [], [], [some 25, some 26, some 27, some 28, some 29, some 30, some 31, some 32], [], [], [], [], [], [], [], [], [some 34], [], [some 36], [some 37, some 38, some 39], [], [], [], [], [], [some 43, some 44, some 45, some 46, some 47], [], [], [], [], [], [some 49, some 50, some 51, some 52, some 53], [], [], [], [], [], [], [], [], [], [], [], [none, some 61, some 62, none, none, none, some 63, some 64, some 65, some 66, some 67, some 68, some 69, some 70, some 71, some 72, some 73, some 74, some 75, some 76, some 77, some 78, some 79, some 80, some 81, some 82, none, some 83, some 84, some 85, some 86, none, none, none, some 87, none, none, none, none, none, none, none, none, none, some 88, none, none, some 89, some 90, some 91, some 92, some 93, some 94, none, none, none, some 95, some 96, some 97, some 98, some 99, some 100, none, some 101, some 102, some 103, some 104, some 105, some 106]]
def fx_t (a k : Nat) : Option Nat := (fx_tab.getD a []).getD k none
def fx_R (G : mm_T) : Prop := ∀ a k b, fx_t a k = some b → mm_R G a k = some b
theorem cm_K_isUpTo (X : gx_T) (d : Nat) (G : mm_T) {v m : Int} (hv : i3_in v) (hm : i3_in m) : aw_M X (d + 1) mt_K_isUpTo [av_i v, av_i m] G 0 0 (fun r G' => r = some (av_i (if 0 ≤ v ∧ v ≤ m then 1 else 0)) ∧ G' = G) := by
  refine aw_enter pf_K_isUpTo (Nat.le_of_ble_eq_true rfl) ?_
  refine ar_iload_n (pc := 0) d_K_isUpTo_0 rfl ?_
  refine ar_if_lt (pc := 1) 13 d_K_isUpTo_1 (by decide) ⟨by omega, by omega⟩ (fun h_1 => ?_) (fun h_1 => ?_)
  refine ar_iconst (pc := 13) d_K_isUpTo_13 ?_
  refine ar_zret (pc := 14) d_K_isUpTo_14 rfl (by omega) ?_
  rotate_left
  refine ar_iload_n (pc := 4) d_K_isUpTo_4 rfl ?_
  refine ar_iload_n (pc := 5) d_K_isUpTo_5 rfl ?_
  refine ar_icmp_gt (pc := 6) 13 d_K_isUpTo_6 (by decide) ⟨by omega, by omega⟩ ⟨by omega, by omega⟩ (fun h_6 => ?_) (fun h_6 => ?_)
  refine ar_iconst (pc := 13) d_K_isUpTo_13 ?_
  refine ar_zret (pc := 14) d_K_isUpTo_14 rfl (by omega) ?_
  rotate_left
  refine ar_iconst (pc := 9) d_K_isUpTo_9 ?_
  refine ar_goto (pc := 10) 14 d_K_isUpTo_10 (by decide) ?_
  refine ar_zret (pc := 14) d_K_isUpTo_14 rfl (by omega) ?_
  rotate_left
  -- leaves: ret 14, ret 14, ret 14
  all_goals (refine ⟨?_, rfl⟩)
  all_goals first | rw [if_pos (by omega)] | rw [if_neg (by omega)]
theorem cm_JM_abs (X : gx_T) (d : Nat) (G : mm_T) {v : Int} (hv : i3_in v) : aw_M X (d + 1) mt_JM_abs [av_i v] G 0 0 (fun r G' => r = some (av_i (if 0 ≤ v then v else -v)) ∧ G' = G) := by
  refine aw_enter pf_JM_abs (Nat.le_of_ble_eq_true rfl) ?_
  refine ar_iload_n (pc := 0) d_JM_abs_0 rfl ?_
  refine ar_if_ge (pc := 1) 9 d_JM_abs_1 (by decide) ⟨by omega, by omega⟩ (fun h_1 => ?_) (fun h_1 => ?_)
  refine ar_iload_n (pc := 9) d_JM_abs_9 rfl ?_
  refine ar_iret (pc := 10) d_JM_abs_10 rfl ?_
  rotate_left
  refine ar_iload_n (pc := 4) d_JM_abs_4 rfl ?_
  refine ar_ineg (pc := 5) d_JM_abs_5 ?_
  refine ar_goto (pc := 6) 10 d_JM_abs_6 (by decide) ?_
  refine ar_iret (pc := 10) d_JM_abs_10 rfl ?_
  rotate_left
  -- leaves: ret 10, ret 10
  all_goals (refine ⟨?_, rfl⟩)
  all_goals first | rw [if_pos (by omega)] | rw [if_neg (by omega)]

theorem cm_JM_max (X : gx_T) (d : Nat) (G : mm_T) {v w : Int} (hv : i3_in v) (hw : i3_in w) : aw_M X (d + 1) mt_JM_max [av_i v, av_i w] G 0 0 (fun r G' => r = some (av_i (max v w)) ∧ G' = G) := by
  refine aw_enter pf_JM_max (Nat.le_of_ble_eq_true rfl) ?_
  refine ar_iload_n (pc := 0) d_JM_max_0 rfl ?_
  refine ar_iload_n (pc := 1) d_JM_max_1 rfl ?_
  refine ar_icmp_lt (pc := 2) 9 d_JM_max_2 (by decide) ⟨by omega, by omega⟩ ⟨by omega, by omega⟩ (fun h_2 => ?_) (fun h_2 => ?_)
  refine ar_iload_n (pc := 9) d_JM_max_9 rfl ?_
  refine ar_iret (pc := 10) d_JM_max_10 rfl ?_
  rotate_left
  refine ar_iload_n (pc := 5) d_JM_max_5 rfl ?_
  refine ar_goto (pc := 6) 10 d_JM_max_6 (by decide) ?_
  refine ar_iret (pc := 10) d_JM_max_10 rfl ?_
  rotate_left
  -- leaves: ret 10, ret 10
  all_goals (refine ⟨?_, rfl⟩)
  all_goals (congr 2; omega)
theorem cm_JM_min (X : gx_T) (d : Nat) (G : mm_T) {v w : Int} (hv : i3_in v) (hw : i3_in w) : aw_M X (d + 1) mt_JM_min [av_i v, av_i w] G 0 0 (fun r G' => r = some (av_i (min v w)) ∧ G' = G) := by
  refine aw_enter pf_JM_min (Nat.le_of_ble_eq_true rfl) ?_
  refine ar_iload_n (pc := 0) d_JM_min_0 rfl ?_
  refine ar_iload_n (pc := 1) d_JM_min_1 rfl ?_
  refine ar_icmp_gt (pc := 2) 9 d_JM_min_2 (by decide) ⟨by omega, by omega⟩ ⟨by omega, by omega⟩ (fun h_2 => ?_) (fun h_2 => ?_)
  refine ar_iload_n (pc := 9) d_JM_min_9 rfl ?_
  refine ar_iret (pc := 10) d_JM_min_10 rfl ?_
  rotate_left
  refine ar_iload_n (pc := 5) d_JM_min_5 rfl ?_
  refine ar_goto (pc := 6) 10 d_JM_min_6 (by decide) ?_
  refine ar_iret (pc := 10) d_JM_min_10 rfl ?_
  rotate_left
  -- leaves: ret 10, ret 10
  all_goals (refine ⟨?_, rfl⟩)
  all_goals (congr 2; omega)
theorem cm_Sh_airAt (X : gx_T) (d : Nat) (G : mm_T) {s : Int} (hF : fx_R G) (hs : i3_in s) : aw_M X (d + 2) mt_Sh_airAt [av_r (some 1), av_i s] G 0 0 (fun r G' => r = some (av_i (if 0 ≤ s ∧ s ≤ 23 then mm_I G 2 s.toNat else 0)) ∧ G' = G) := by
  refine aw_enter pf_Sh_airAt (Nat.le_of_ble_eq_true rfl) ?_
  refine ar_iload_n (pc := 0) d_Sh_airAt_0 rfl ?_
  refine ar_bipush (pc := 1) d_Sh_airAt_1 (by decide) ?_
  refine ac_statN (pc := 3) (N := mt_K_isUpTo) _ _ sv_K_isUpTo (List.mem_of_getElem? (i := 9) rfl) d_Sh_airAt_3 (cm_K_isUpTo _ _ _ ⟨by omega, by omega⟩ ⟨by omega, by omega⟩) rfl rfl (Nat.le_of_ble_eq_true rfl) (Nat.le_of_eq (Nat.zero_add _)) (Nat.le_of_eq (Nat.zero_add _)) (fun r_3 G_3 h_3 => ?_)
  obtain ⟨rfl, e_3⟩ := h_3
  subst G_3
  refine ar_if_eq (pc := 6) 18 d_Sh_airAt_6 (by decide) ⟨by omega, by omega⟩ (fun h_6 => ?_) (fun h_6 => ?_)
  refine ar_iconst (pc := 18) d_Sh_airAt_18 ?_
  refine ar_iret (pc := 19) d_Sh_airAt_19 rfl ?_
  rotate_left
  refine ar_aload_n (pc := 9) d_Sh_airAt_9 rfl ?_
  refine ar_getR (pc := 10) gf_Sh_9 d_Sh_airAt_10 (by first | rfl | exact sh_wheel (by omega) | exact sh_milk (by omega)) (hF _ _ _ rfl) ?_
  refine ar_iload_n (pc := 13) d_Sh_airAt_13 rfl ?_
  refine ar_iald (pc := 14) d_Sh_airAt_14 rfl _ (Int.toNat_of_nonneg (by omega)).symm (by omega) (fun r_14 => ?_)
  refine ar_goto (pc := 15) 19 d_Sh_airAt_15 (by decide) ?_
  refine ar_iret (pc := 19) d_Sh_airAt_19 rfl ?_
  rotate_left
  -- leaves: ret 19, ret 19
  all_goals (refine ⟨?_, rfl⟩)
  all_goals first | rw [if_pos (by omega)] | rw [if_neg (by omega)]
theorem cm_Sh_dampAt (X : gx_T) (d : Nat) (G : mm_T) {s : Int} (hF : fx_R G) (hs : i3_in s) : aw_M X (d + 2) mt_Sh_dampAt [av_r (some 1), av_i s] G 0 0 (fun r G' => r = some (av_i (if 0 ≤ s ∧ s ≤ 23 then mm_I G 3 (s / 6).toNat else 0)) ∧ G' = G) := by
  refine aw_enter pf_Sh_dampAt (Nat.le_of_ble_eq_true rfl) ?_
  refine ar_iload_n (pc := 0) d_Sh_dampAt_0 rfl ?_
  refine ar_bipush (pc := 1) d_Sh_dampAt_1 (by decide) ?_
  refine ac_statN (pc := 3) (N := mt_K_isUpTo) _ _ sv_K_isUpTo (List.mem_of_getElem? (i := 9) rfl) d_Sh_dampAt_3 (cm_K_isUpTo _ _ _ ⟨by omega, by omega⟩ ⟨by omega, by omega⟩) rfl rfl (Nat.le_of_ble_eq_true rfl) (Nat.le_of_eq (Nat.zero_add _)) (Nat.le_of_eq (Nat.zero_add _)) (fun r_3 G_3 h_3 => ?_)
  obtain ⟨rfl, e_3⟩ := h_3
  subst G_3
  refine ar_if_eq (pc := 6) 21 d_Sh_dampAt_6 (by decide) ⟨by omega, by omega⟩ (fun h_6 => ?_) (fun h_6 => ?_)
  refine ar_iconst (pc := 21) d_Sh_dampAt_21 ?_
  refine ar_iret (pc := 22) d_Sh_dampAt_22 rfl ?_
  rotate_left
  refine ar_aload_n (pc := 9) d_Sh_dampAt_9 rfl ?_
  refine ar_getR (pc := 10) gf_Sh_15 d_Sh_dampAt_10 (by first | rfl | exact sh_wheel (by omega) | exact sh_milk (by omega)) (hF _ _ _ rfl) ?_
  refine ar_iload_n (pc := 13) d_Sh_dampAt_13 rfl ?_
  refine ar_bipush (pc := 14) d_Sh_dampAt_14 (by decide) ?_
  refine ar_idivp (pc := 16) d_Sh_dampAt_16 (by omega) (by omega) (by omega) (by omega) ?_
  refine ar_iald (pc := 17) d_Sh_dampAt_17 rfl _ (Int.toNat_of_nonneg (by omega)).symm (by omega) (fun r_17 => ?_)
  refine ar_goto (pc := 18) 22 d_Sh_dampAt_18 (by decide) ?_
  refine ar_iret (pc := 22) d_Sh_dampAt_22 rfl ?_
  rotate_left
  -- leaves: ret 22, ret 22
  all_goals (refine ⟨?_, rfl⟩)
  all_goals first | rw [if_pos (by omega)] | rw [if_neg (by omega)]
theorem cm_Sh_roomAt (X : gx_T) (d : Nat) (G : mm_T) {s : Int} (hF : fx_R G) (hs : i3_in s) : aw_M X (d + 2) mt_Sh_roomAt [av_r (some 1), av_i s] G 0 0 (fun r G' => r = some (av_i (if 0 ≤ s ∧ s ≤ 23 then 4 - mm_I G 4 s.toNat else 0)) ∧ G' = G) := by
  refine aw_enter pf_Sh_roomAt (Nat.le_of_ble_eq_true rfl) ?_
  refine ar_iload_n (pc := 0) d_Sh_roomAt_0 rfl ?_
  refine ar_bipush (pc := 1) d_Sh_roomAt_1 (by decide) ?_
  refine ac_statN (pc := 3) (N := mt_K_isUpTo) _ _ sv_K_isUpTo (List.mem_of_getElem? (i := 9) rfl) d_Sh_roomAt_3 (cm_K_isUpTo _ _ _ ⟨by omega, by omega⟩ ⟨by omega, by omega⟩) rfl rfl (Nat.le_of_ble_eq_true rfl) (Nat.le_of_eq (Nat.zero_add _)) (Nat.le_of_eq (Nat.zero_add _)) (fun r_3 G_3 h_3 => ?_)
  obtain ⟨rfl, e_3⟩ := h_3
  subst G_3
  refine ar_if_eq (pc := 6) 20 d_Sh_roomAt_6 (by decide) ⟨by omega, by omega⟩ (fun h_6 => ?_) (fun h_6 => ?_)
  refine ar_iconst (pc := 20) d_Sh_roomAt_20 ?_
  refine ar_iret (pc := 21) d_Sh_roomAt_21 rfl ?_
  rotate_left
  refine ar_iconst (pc := 9) d_Sh_roomAt_9 ?_
  refine ar_aload_n (pc := 10) d_Sh_roomAt_10 rfl ?_
  refine ar_getR (pc := 11) gf_Sh_18 d_Sh_roomAt_11 (by first | rfl | exact sh_wheel (by omega) | exact sh_milk (by omega)) (hF _ _ _ rfl) ?_
  refine ar_iload_n (pc := 14) d_Sh_roomAt_14 rfl ?_
  refine ar_iald (pc := 15) d_Sh_roomAt_15 rfl _ (Int.toNat_of_nonneg (by omega)).symm (by omega) (fun r_15 => ?_)
  refine ar_isub (pc := 16) d_Sh_roomAt_16 ?_
  refine ar_goto (pc := 17) 21 d_Sh_roomAt_17 (by decide) ?_
  refine ar_iret (pc := 21) d_Sh_roomAt_21 rfl ?_
  rotate_left
  -- leaves: ret 21, ret 21
  all_goals (refine ⟨?_, rfl⟩)
  all_goals first | rw [if_pos (by omega)] | rw [if_neg (by omega)]
theorem cm_Sh_hasRoom (X : gx_T) (d : Nat) (G : mm_T) {s : Int} (hF : fx_R G) (hs : i3_in s) (hl : ∀ k, k < 24 → 0 ≤ mm_I G 4 k ∧ mm_I G 4 k ≤ 4) : aw_M X (d + 3) mt_Sh_hasRoom [av_r (some 1), av_i s] G 0 0 (fun r G' => r = some (av_i (if 0 ≤ s ∧ s ≤ 23 ∧ mm_I G 4 s.toNat < 4 then 1 else 0)) ∧ G' = G) := by
  have hl := hl s.toNat
  refine aw_enter pf_Sh_hasRoom (Nat.le_of_ble_eq_true rfl) ?_
  refine ar_aload_n (pc := 0) d_Sh_hasRoom_0 rfl ?_
  refine ar_iload_n (pc := 1) d_Sh_hasRoom_1 rfl ?_
  refine ac_virt (pc := 2) (N := mt_Sh_roomAt) _ _ mv_Sh_roomAt ml_Sh_25 ck_6 d_Sh_hasRoom_2 (cm_Sh_roomAt _ _ _ hF hs) (by first | rfl | exact sh_wheel (by omega) | exact sh_milk (by omega)) rfl rfl (Nat.le_of_ble_eq_true rfl) (Nat.le_of_eq (Nat.zero_add _)) (Nat.le_of_eq (Nat.zero_add _)) (fun r_2 G_2 h_2 => ?_)
  obtain ⟨rfl, e_2⟩ := h_2
  subst G_2
  refine ar_if_le (pc := 5) 12 d_Sh_hasRoom_5 (by decide) ⟨by omega, by omega⟩ (fun h_5 => ?_) (fun h_5 => ?_)
  refine ar_iconst (pc := 12) d_Sh_hasRoom_12 ?_
  refine ar_zret (pc := 13) d_Sh_hasRoom_13 rfl (by omega) ?_
  rotate_left
  refine ar_iconst (pc := 8) d_Sh_hasRoom_8 ?_
  refine ar_goto (pc := 9) 13 d_Sh_hasRoom_9 (by decide) ?_
  refine ar_zret (pc := 13) d_Sh_hasRoom_13 rfl (by omega) ?_
  rotate_left
  -- leaves: ret 13, ret 13
  all_goals (refine ⟨?_, rfl⟩)
  all_goals first | rw [if_pos (by omega)] | rw [if_neg (by omega)]
theorem cm_Sh_lay (X : gx_T) (d : Nat) (G : mm_T) {s : Int} (hF : fx_R G) (hs : 0 ≤ s ∧ s ≤ 23) (hl : 0 ≤ mm_I G 4 s.toNat ∧ mm_I G 4 s.toNat ≤ 4) : aw_M X (d + 2) mt_Sh_lay [av_r (some 1), av_i s] G 0 0 (fun r G' => r = none ∧ G' = ms_I G 4 s.toNat (mm_I G 4 s.toNat + 1)) := by
  refine aw_enter pf_Sh_lay (Nat.le_of_ble_eq_true rfl) ?_
  refine ar_iload_n (pc := 0) d_Sh_lay_0 rfl ?_
  refine ar_bipush (pc := 1) d_Sh_lay_1 (by decide) ?_
  refine ac_statN (pc := 3) (N := mt_K_isUpTo) _ _ sv_K_isUpTo (List.mem_of_getElem? (i := 9) rfl) d_Sh_lay_3 (cm_K_isUpTo _ _ _ ⟨by omega, by omega⟩ ⟨by omega, by omega⟩) rfl rfl (Nat.le_of_ble_eq_true rfl) (Nat.le_of_eq (Nat.zero_add _)) (Nat.le_of_eq (Nat.zero_add _)) (fun r_3 G_3 h_3 => ?_)
  obtain ⟨rfl, e_3⟩ := h_3
  subst G_3
  refine ar_if_eq (pc := 6) 19 d_Sh_lay_6 (by decide) ⟨by omega, by omega⟩ (fun h_6 => ?_) (fun h_6 => ?_)
  refine ar_ret (pc := 19) d_Sh_lay_19 rfl ?_
  rotate_left
  refine ar_aload_n (pc := 9) d_Sh_lay_9 rfl ?_
  refine ar_getR (pc := 10) gf_Sh_18 d_Sh_lay_10 (by first | rfl | exact sh_wheel (by omega) | exact sh_milk (by omega)) (hF _ _ _ rfl) ?_
  refine ar_iload_n (pc := 13) d_Sh_lay_13 rfl ?_
  refine ar_dup2 (pc := 14) d_Sh_lay_14 rfl rfl ?_
  refine ar_iald (pc := 15) d_Sh_lay_15 rfl _ (Int.toNat_of_nonneg (by omega)).symm (by omega) (fun r_15 => ?_)
  refine ar_iconst (pc := 16) d_Sh_lay_16 ?_
  refine ar_iadd (pc := 17) d_Sh_lay_17 ?_
  refine ar_iast (pc := 18) d_Sh_lay_18 rfl _ (Int.toNat_of_nonneg (by omega)).symm (by omega) ⟨by omega, by omega⟩ ?_
  refine ar_ret (pc := 19) d_Sh_lay_19 rfl ?_
  rotate_left
  -- leaves: ret 19, ret 19
  all_goals first | exact ⟨rfl, rfl⟩ | (exfalso; omega)
theorem cm_Sh_lift (X : gx_T) (d : Nat) (G : mm_T) {s : Int} (hF : fx_R G) (hs : 0 ≤ s ∧ s ≤ 23) (hl : 0 ≤ mm_I G 4 s.toNat ∧ mm_I G 4 s.toNat ≤ 4) : aw_M X (d + 2) mt_Sh_lift [av_r (some 1), av_i s] G 0 0 (fun r G' => r = none ∧ G' = ms_I G 4 s.toNat (mm_I G 4 s.toNat - 1)) := by
  refine aw_enter pf_Sh_lift (Nat.le_of_ble_eq_true rfl) ?_
  refine ar_iload_n (pc := 0) d_Sh_lift_0 rfl ?_
  refine ar_bipush (pc := 1) d_Sh_lift_1 (by decide) ?_
  refine ac_statN (pc := 3) (N := mt_K_isUpTo) _ _ sv_K_isUpTo (List.mem_of_getElem? (i := 9) rfl) d_Sh_lift_3 (cm_K_isUpTo _ _ _ ⟨by omega, by omega⟩ ⟨by omega, by omega⟩) rfl rfl (Nat.le_of_ble_eq_true rfl) (Nat.le_of_eq (Nat.zero_add _)) (Nat.le_of_eq (Nat.zero_add _)) (fun r_3 G_3 h_3 => ?_)
  obtain ⟨rfl, e_3⟩ := h_3
  subst G_3
  refine ar_if_eq (pc := 6) 19 d_Sh_lift_6 (by decide) ⟨by omega, by omega⟩ (fun h_6 => ?_) (fun h_6 => ?_)
  refine ar_ret (pc := 19) d_Sh_lift_19 rfl ?_
  rotate_left
  refine ar_aload_n (pc := 9) d_Sh_lift_9 rfl ?_
  refine ar_getR (pc := 10) gf_Sh_18 d_Sh_lift_10 (by first | rfl | exact sh_wheel (by omega) | exact sh_milk (by omega)) (hF _ _ _ rfl) ?_
  refine ar_iload_n (pc := 13) d_Sh_lift_13 rfl ?_
  refine ar_dup2 (pc := 14) d_Sh_lift_14 rfl rfl ?_
  refine ar_iald (pc := 15) d_Sh_lift_15 rfl _ (Int.toNat_of_nonneg (by omega)).symm (by omega) (fun r_15 => ?_)
  refine ar_iconst (pc := 16) d_Sh_lift_16 ?_
  refine ar_isub (pc := 17) d_Sh_lift_17 ?_
  refine ar_iast (pc := 18) d_Sh_lift_18 rfl _ (Int.toNat_of_nonneg (by omega)).symm (by omega) ⟨by omega, by omega⟩ ?_
  refine ar_ret (pc := 19) d_Sh_lift_19 rfl ?_
  rotate_left
  -- leaves: ret 19, ret 19
  all_goals first | exact ⟨rfl, rfl⟩ | (exfalso; omega)
