/-! ===== tokens: sorts of bytes ===== -/
def is_l (b : Int) : Int := if 97 ≤ b ∧ b ≤ 122 then 1 else 0
def is_d (b : Int) : Int := if 48 ≤ b ∧ b ≤ 57 then 1 else 0
def is_s (b : Int) : Int := if b = 59 ∨ b = 60 ∨ b = 62 ∨ b = 61 ∨ b = 43 ∨ b = 45 ∨ b = 40 ∨ b = 41 then 1 else 0
theorem cm_To_isLetter (X : gx_T) (d : Nat) (G : mm_T) {b : Int} (hb : i3_in b) : aw_M X (d + 1) mt_To_isLetter [av_i b] G 0 0 (fun r G' => r = some (av_i (is_l b)) ∧ G' = G) := by
  refine aw_enter pf_To_isLetter (Nat.le_of_ble_eq_true rfl) ?_
  refine ar_iload_n (pc := 0) d_To_isLetter_0 rfl ?_
  refine ar_bipush (pc := 1) d_To_isLetter_1 (by decide) ?_
  refine ar_icmp_lt (pc := 3) 16 d_To_isLetter_3 (by decide) ⟨by omega, by omega⟩ ⟨by omega, by omega⟩ (fun h_3 => ?_) (fun h_3 => ?_)
  refine ar_iconst (pc := 16) d_To_isLetter_16 ?_
  refine ar_zret (pc := 17) d_To_isLetter_17 rfl (by omega) ?_
  rotate_left
  refine ar_iload_n (pc := 6) d_To_isLetter_6 rfl ?_
  refine ar_bipush (pc := 7) d_To_isLetter_7 (by decide) ?_
  refine ar_icmp_gt (pc := 9) 16 d_To_isLetter_9 (by decide) ⟨by omega, by omega⟩ ⟨by omega, by omega⟩ (fun h_9 => ?_) (fun h_9 => ?_)
  refine ar_iconst (pc := 16) d_To_isLetter_16 ?_
  refine ar_zret (pc := 17) d_To_isLetter_17 rfl (by omega) ?_
  rotate_left
  refine ar_iconst (pc := 12) d_To_isLetter_12 ?_
  refine ar_goto (pc := 13) 17 d_To_isLetter_13 (by decide) ?_
  refine ar_zret (pc := 17) d_To_isLetter_17 rfl (by omega) ?_
  rotate_left
  -- leaves: ret 17, ret 17, ret 17
  all_goals (refine ⟨?_, rfl⟩; unfold is_l)
  all_goals first | rw [if_pos (by omega)] | rw [if_neg (by omega)]
theorem cm_To_isDigit (X : gx_T) (d : Nat) (G : mm_T) {b : Int} (hb : i3_in b) : aw_M X (d + 1) mt_To_isDigit [av_i b] G 0 0 (fun r G' => r = some (av_i (is_d b)) ∧ G' = G) := by
  refine aw_enter pf_To_isDigit (Nat.le_of_ble_eq_true rfl) ?_
  refine ar_iload_n (pc := 0) d_To_isDigit_0 rfl ?_
  refine ar_bipush (pc := 1) d_To_isDigit_1 (by decide) ?_
  refine ar_icmp_lt (pc := 3) 16 d_To_isDigit_3 (by decide) ⟨by omega, by omega⟩ ⟨by omega, by omega⟩ (fun h_3 => ?_) (fun h_3 => ?_)
  refine ar_iconst (pc := 16) d_To_isDigit_16 ?_
  refine ar_zret (pc := 17) d_To_isDigit_17 rfl (by omega) ?_
  rotate_left
  refine ar_iload_n (pc := 6) d_To_isDigit_6 rfl ?_
  refine ar_bipush (pc := 7) d_To_isDigit_7 (by decide) ?_
  refine ar_icmp_gt (pc := 9) 16 d_To_isDigit_9 (by decide) ⟨by omega, by omega⟩ ⟨by omega, by omega⟩ (fun h_9 => ?_) (fun h_9 => ?_)
  refine ar_iconst (pc := 16) d_To_isDigit_16 ?_
  refine ar_zret (pc := 17) d_To_isDigit_17 rfl (by omega) ?_
  rotate_left
  refine ar_iconst (pc := 12) d_To_isDigit_12 ?_
  refine ar_goto (pc := 13) 17 d_To_isDigit_13 (by decide) ?_
  refine ar_zret (pc := 17) d_To_isDigit_17 rfl (by omega) ?_
  rotate_left
  -- leaves: ret 17, ret 17, ret 17
  all_goals (refine ⟨?_, rfl⟩; unfold is_d)
  all_goals first | rw [if_pos (by omega)] | rw [if_neg (by omega)]
theorem cm_To_isSign (X : gx_T) (d : Nat) (G : mm_T) {b : Int} (hb : i3_in b) : aw_M X (d + 1) mt_To_isSign [av_i b] G 0 0 (fun r G' => r = some (av_i (is_s b)) ∧ G' = G) := by
  refine aw_enter pf_To_isSign (Nat.le_of_ble_eq_true rfl) ?_
  refine ar_iload_n (pc := 0) d_To_isSign_0 rfl ?_
  refine ar_bipush (pc := 1) d_To_isSign_1 (by decide) ?_
  refine ar_icmp_eq (pc := 3) 48 d_To_isSign_3 (by decide) ⟨by omega, by omega⟩ ⟨by omega, by omega⟩ (fun h_3 => ?_) (fun h_3 => ?_)
  refine ar_iconst (pc := 48) d_To_isSign_48 ?_
  refine ar_goto (pc := 49) 53 d_To_isSign_49 (by decide) ?_
  refine ar_zret (pc := 53) d_To_isSign_53 rfl (by omega) ?_
  rotate_left
  refine ar_iload_n (pc := 6) d_To_isSign_6 rfl ?_
  refine ar_bipush (pc := 7) d_To_isSign_7 (by decide) ?_
  refine ar_icmp_eq (pc := 9) 48 d_To_isSign_9 (by decide) ⟨by omega, by omega⟩ ⟨by omega, by omega⟩ (fun h_9 => ?_) (fun h_9 => ?_)
  refine ar_iconst (pc := 48) d_To_isSign_48 ?_
  refine ar_goto (pc := 49) 53 d_To_isSign_49 (by decide) ?_
  refine ar_zret (pc := 53) d_To_isSign_53 rfl (by omega) ?_
  rotate_left
  refine ar_iload_n (pc := 12) d_To_isSign_12 rfl ?_
  refine ar_bipush (pc := 13) d_To_isSign_13 (by decide) ?_
  refine ar_icmp_eq (pc := 15) 48 d_To_isSign_15 (by decide) ⟨by omega, by omega⟩ ⟨by omega, by omega⟩ (fun h_15 => ?_) (fun h_15 => ?_)
  refine ar_iconst (pc := 48) d_To_isSign_48 ?_
  refine ar_goto (pc := 49) 53 d_To_isSign_49 (by decide) ?_
  refine ar_zret (pc := 53) d_To_isSign_53 rfl (by omega) ?_
  rotate_left
  refine ar_iload_n (pc := 18) d_To_isSign_18 rfl ?_
  refine ar_bipush (pc := 19) d_To_isSign_19 (by decide) ?_
  refine ar_icmp_eq (pc := 21) 48 d_To_isSign_21 (by decide) ⟨by omega, by omega⟩ ⟨by omega, by omega⟩ (fun h_21 => ?_) (fun h_21 => ?_)
  refine ar_iconst (pc := 48) d_To_isSign_48 ?_
  refine ar_goto (pc := 49) 53 d_To_isSign_49 (by decide) ?_
  refine ar_zret (pc := 53) d_To_isSign_53 rfl (by omega) ?_
  rotate_left
  refine ar_iload_n (pc := 24) d_To_isSign_24 rfl ?_
  refine ar_bipush (pc := 25) d_To_isSign_25 (by decide) ?_
  refine ar_icmp_eq (pc := 27) 48 d_To_isSign_27 (by decide) ⟨by omega, by omega⟩ ⟨by omega, by omega⟩ (fun h_27 => ?_) (fun h_27 => ?_)
  refine ar_iconst (pc := 48) d_To_isSign_48 ?_
  refine ar_goto (pc := 49) 53 d_To_isSign_49 (by decide) ?_
  refine ar_zret (pc := 53) d_To_isSign_53 rfl (by omega) ?_
  rotate_left
  refine ar_iload_n (pc := 30) d_To_isSign_30 rfl ?_
  refine ar_bipush (pc := 31) d_To_isSign_31 (by decide) ?_
  refine ar_icmp_eq (pc := 33) 48 d_To_isSign_33 (by decide) ⟨by omega, by omega⟩ ⟨by omega, by omega⟩ (fun h_33 => ?_) (fun h_33 => ?_)
  refine ar_iconst (pc := 48) d_To_isSign_48 ?_
  refine ar_goto (pc := 49) 53 d_To_isSign_49 (by decide) ?_
  refine ar_zret (pc := 53) d_To_isSign_53 rfl (by omega) ?_
  rotate_left
  refine ar_iload_n (pc := 36) d_To_isSign_36 rfl ?_
  refine ar_bipush (pc := 37) d_To_isSign_37 (by decide) ?_
  refine ar_icmp_eq (pc := 39) 48 d_To_isSign_39 (by decide) ⟨by omega, by omega⟩ ⟨by omega, by omega⟩ (fun h_39 => ?_) (fun h_39 => ?_)
  refine ar_iconst (pc := 48) d_To_isSign_48 ?_
  refine ar_goto (pc := 49) 53 d_To_isSign_49 (by decide) ?_
  refine ar_zret (pc := 53) d_To_isSign_53 rfl (by omega) ?_
  rotate_left
  refine ar_iload_n (pc := 42) d_To_isSign_42 rfl ?_
  refine ar_bipush (pc := 43) d_To_isSign_43 (by decide) ?_
  refine ar_icmp_ne (pc := 45) 52 d_To_isSign_45 (by decide) ⟨by omega, by omega⟩ ⟨by omega, by omega⟩ (fun h_45 => ?_) (fun h_45 => ?_)
  refine ar_iconst (pc := 52) d_To_isSign_52 ?_
  refine ar_zret (pc := 53) d_To_isSign_53 rfl (by omega) ?_
  rotate_left
  refine ar_iconst (pc := 48) d_To_isSign_48 ?_
  refine ar_goto (pc := 49) 53 d_To_isSign_49 (by decide) ?_
  refine ar_zret (pc := 53) d_To_isSign_53 rfl (by omega) ?_
  rotate_left
  -- leaves: ret 53, ret 53, ret 53, ret 53, ret 53, ret 53, ret 53, ret 53, ret 53
  all_goals (refine ⟨?_, rfl⟩; unfold is_s)
  all_goals first | rw [if_pos (by omega)] | rw [if_neg (by omega)]
