/-! ===== tokens: runs ===== -/
def sm_s (a b : Int) : Int := if is_l a = 1 ∧ is_l b = 1 ∨ is_d a = 1 ∧ is_d b = 1 then 1 else 0
theorem is_l01 (b : Int) : is_l b = 0 ∨ is_l b = 1 := by unfold is_l; split <;> omega
theorem is_d01 (b : Int) : is_d b = 0 ∨ is_d b = 1 := by unfold is_d; split <;> omega
theorem cm_To_isSameSort (X : gx_T) (d : Nat) (G : mm_T) {a b : Int} (ha : i3_in a) (hb : i3_in b) : aw_M X (d + 2) mt_To_isSameSort [av_i a, av_i b] G 0 0 (fun r G' => r = some (av_i (sm_s a b)) ∧ G' = G) := by
  have h1 := is_l01 a
  have h2 := is_l01 b
  have h3 := is_d01 a
  have h4 := is_d01 b
  unfold sm_s
  refine aw_enter pf_To_isSameSort (Nat.le_of_ble_eq_true rfl) ?_
  refine ar_iload_n (pc := 0) d_To_isSameSort_0 rfl ?_
  refine ac_stat (pc := 1) (N := mt_To_isLetter) _ _ sv_To_isLetter ml_To_47 d_To_isSameSort_1 (cm_To_isLetter _ _ _ ha) rfl rfl (Nat.le_of_ble_eq_true rfl) (Nat.le_of_eq (Nat.zero_add _)) (Nat.le_of_eq (Nat.zero_add _)) (fun r_1 G_1 h_1 => ?_)
  obtain ⟨rfl, e_1⟩ := h_1
  subst G_1
  refine ar_if_eq (pc := 4) 14 d_To_isSameSort_4 (by decide) ⟨by omega, by omega⟩ (fun h_4 => ?_) (fun h_4 => ?_)
  refine ar_iload_n (pc := 14) d_To_isSameSort_14 rfl ?_
  refine ac_stat (pc := 15) (N := mt_To_isDigit) _ _ sv_To_isDigit ml_To_55 d_To_isSameSort_15 (cm_To_isDigit _ _ _ ha) rfl rfl (Nat.le_of_ble_eq_true rfl) (Nat.le_of_eq (Nat.zero_add _)) (Nat.le_of_eq (Nat.zero_add _)) (fun r_15 G_15 h_15 => ?_)
  obtain ⟨rfl, e_15⟩ := h_15
  subst G_15
  refine ar_if_eq (pc := 18) 32 d_To_isSameSort_18 (by decide) ⟨by omega, by omega⟩ (fun h_18 => ?_) (fun h_18 => ?_)
  refine ar_iconst (pc := 32) d_To_isSameSort_32 ?_
  refine ar_zret (pc := 33) d_To_isSameSort_33 rfl (by omega) ?_
  rotate_left
  refine ar_iload_n (pc := 21) d_To_isSameSort_21 rfl ?_
  refine ac_stat (pc := 22) (N := mt_To_isDigit) _ _ sv_To_isDigit ml_To_55 d_To_isSameSort_22 (cm_To_isDigit _ _ _ hb) rfl rfl (Nat.le_of_ble_eq_true rfl) (Nat.le_of_eq (Nat.zero_add _)) (Nat.le_of_eq (Nat.zero_add _)) (fun r_22 G_22 h_22 => ?_)
  obtain ⟨rfl, e_22⟩ := h_22
  subst G_22
  refine ar_if_eq (pc := 25) 32 d_To_isSameSort_25 (by decide) ⟨by omega, by omega⟩ (fun h_25 => ?_) (fun h_25 => ?_)
  refine ar_iconst (pc := 32) d_To_isSameSort_32 ?_
  refine ar_zret (pc := 33) d_To_isSameSort_33 rfl (by omega) ?_
  rotate_left
  refine ar_iconst (pc := 28) d_To_isSameSort_28 ?_
  refine ar_goto (pc := 29) 33 d_To_isSameSort_29 (by decide) ?_
  refine ar_zret (pc := 33) d_To_isSameSort_33 rfl (by omega) ?_
  rotate_left
  refine ar_iload_n (pc := 7) d_To_isSameSort_7 rfl ?_
  refine ac_stat (pc := 8) (N := mt_To_isLetter) _ _ sv_To_isLetter ml_To_47 d_To_isSameSort_8 (cm_To_isLetter _ _ _ hb) rfl rfl (Nat.le_of_ble_eq_true rfl) (Nat.le_of_eq (Nat.zero_add _)) (Nat.le_of_eq (Nat.zero_add _)) (fun r_8 G_8 h_8 => ?_)
  obtain ⟨rfl, e_8⟩ := h_8
  subst G_8
  refine ar_if_ne (pc := 11) 28 d_To_isSameSort_11 (by decide) ⟨by omega, by omega⟩ (fun h_11 => ?_) (fun h_11 => ?_)
  refine ar_iconst (pc := 28) d_To_isSameSort_28 ?_
  refine ar_goto (pc := 29) 33 d_To_isSameSort_29 (by decide) ?_
  refine ar_zret (pc := 33) d_To_isSameSort_33 rfl (by omega) ?_
  rotate_left
  refine ar_iload_n (pc := 14) d_To_isSameSort_14 rfl ?_
  refine ac_stat (pc := 15) (N := mt_To_isDigit) _ _ sv_To_isDigit ml_To_55 d_To_isSameSort_15 (cm_To_isDigit _ _ _ ha) rfl rfl (Nat.le_of_ble_eq_true rfl) (Nat.le_of_eq (Nat.zero_add _)) (Nat.le_of_eq (Nat.zero_add _)) (fun r_15 G_15 h_15 => ?_)
  obtain ⟨rfl, e_15⟩ := h_15
  subst G_15
  refine ar_if_eq (pc := 18) 32 d_To_isSameSort_18 (by decide) ⟨by omega, by omega⟩ (fun h_18 => ?_) (fun h_18 => ?_)
  refine ar_iconst (pc := 32) d_To_isSameSort_32 ?_
  refine ar_zret (pc := 33) d_To_isSameSort_33 rfl (by omega) ?_
  rotate_left
  refine ar_iload_n (pc := 21) d_To_isSameSort_21 rfl ?_
  refine ac_stat (pc := 22) (N := mt_To_isDigit) _ _ sv_To_isDigit ml_To_55 d_To_isSameSort_22 (cm_To_isDigit _ _ _ hb) rfl rfl (Nat.le_of_ble_eq_true rfl) (Nat.le_of_eq (Nat.zero_add _)) (Nat.le_of_eq (Nat.zero_add _)) (fun r_22 G_22 h_22 => ?_)
  obtain ⟨rfl, e_22⟩ := h_22
  subst G_22
  refine ar_if_eq (pc := 25) 32 d_To_isSameSort_25 (by decide) ⟨by omega, by omega⟩ (fun h_25 => ?_) (fun h_25 => ?_)
  refine ar_iconst (pc := 32) d_To_isSameSort_32 ?_
  refine ar_zret (pc := 33) d_To_isSameSort_33 rfl (by omega) ?_
  rotate_left
  refine ar_iconst (pc := 28) d_To_isSameSort_28 ?_
  refine ar_goto (pc := 29) 33 d_To_isSameSort_29 (by decide) ?_
  refine ar_zret (pc := 33) d_To_isSameSort_33 rfl (by omega) ?_
  rotate_left
  -- leaves: ret 33, ret 33, ret 33, ret 33, ret 33, ret 33, ret 33
  all_goals (refine ⟨?_, rfl⟩)
  all_goals first | rw [if_pos (by omega)] | rw [if_neg (by omega)]
