/-! ===== first contracts ===== -/
theorem cm_K_isUpTo (X : gx_T) (d : Nat) (G : mm_T) {v m : Int} (hv : i3_in v) (hm : i3_in m) : aw_M X (d + 1) mt_K_isUpTo [av_i v, av_i m] G 0 0 (fun r G' => r = some (av_i (if 0 ≤ v ∧ v ≤ m then 1 else 0)) ∧ G' = G) := by
  refine aw_enter pf_K_isUpTo (Nat.le_of_ble_eq_true rfl) ?_
  refine ar_iload_n (pc := 0) d_K_isUpTo_0 rfl ?_
  refine ar_if_lt (pc := 1) 13 d_K_isUpTo_1 (by decide) ⟨by omega, by omega⟩ (fun h_1 => ?_) (fun h_1 => ?_)
  refine ar_iconst (pc := 13) d_K_isUpTo_13 ?_
  refine ar_zret (pc := 14) d_K_isUpTo_14 rfl (by omega) ?_
  rotate_left
  refine ar_iload_n (pc := 4) d_K_isUpTo_4 rfl ?_
  refine ar_iload_n (pc := 5) d_K_isUpTo_5 rfl ?_
  refine ar_icmp_gt (pc := 6) 13 d_K_isUpTo_6 (by decide) ⟨by omega, by omega⟩ ⟨by omega, by omega⟩ (fun h_6 => ?_) (fun h_6 => ?_)
  refine ar_iconst (pc := 13) d_K_isUpTo_13 ?_
  refine ar_zret (pc := 14) d_K_isUpTo_14 rfl (by omega) ?_
  rotate_left
  refine ar_iconst (pc := 9) d_K_isUpTo_9 ?_
  refine ar_goto (pc := 10) 14 d_K_isUpTo_10 (by decide) ?_
  refine ar_zret (pc := 14) d_K_isUpTo_14 rfl (by omega) ?_
  rotate_left
  -- leaves: ret 14, ret 14, ret 14
  all_goals (refine ⟨?_, rfl⟩)
  all_goals first | rw [if_pos (by omega)] | rw [if_neg (by omega)]
theorem cm_JM_abs (X : gx_T) (d : Nat) (G : mm_T) {v : Int} (hv : i3_in v) : aw_M X (d + 1) mt_JM_abs [av_i v] G 0 0 (fun r G' => r = some (av_i (if 0 ≤ v then v else -v)) ∧ G' = G) := by
  refine aw_enter pf_JM_abs (Nat.le_of_ble_eq_true rfl) ?_
  refine ar_iload_n (pc := 0) d_JM_abs_0 rfl ?_
  refine ar_if_ge (pc := 1) 9 d_JM_abs_1 (by decide) ⟨by omega, by omega⟩ (fun h_1 => ?_) (fun h_1 => ?_)
  refine ar_iload_n (pc := 9) d_JM_abs_9 rfl ?_
  refine ar_iret (pc := 10) d_JM_abs_10 rfl ?_
  rotate_left
  refine ar_iload_n (pc := 4) d_JM_abs_4 rfl ?_
  refine ar_ineg (pc := 5) d_JM_abs_5 ?_
  refine ar_goto (pc := 6) 10 d_JM_abs_6 (by decide) ?_
  refine ar_iret (pc := 10) d_JM_abs_10 rfl ?_
  rotate_left
  -- leaves: ret 10, ret 10
  all_goals (refine ⟨?_, rfl⟩)
  all_goals first | rw [if_pos (by omega)] | rw [if_neg (by omega)]
