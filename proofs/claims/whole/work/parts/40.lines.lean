/-! ===== writing orders ===== -/
theorem cm_Or_clear_a (X : gx_T) (d : Nat) (G : mm_T) : aw_M X (d + 1) mt_Or_clear [av_r (some 42)] G 0 0 (fun r G' => r = none ∧ G' = ms_I (ms_I G 42 5 0) 42 6 0) := by
  refine aw_enter pf_Or_clear (Nat.le_of_ble_eq_true rfl) ?_
  refine ar_aload_n (pc := 0) d_Or_clear_0 rfl ?_
  refine ar_iconst (pc := 1) d_Or_clear_1 ?_
  refine ar_putI (pc := 2) gf_Or_27 d_Or_clear_2 rfl (by first | rfl | exact sh_wheel (by omega) | exact sh_milk (by omega)) ⟨by omega, by omega⟩ ?_
  refine ar_aload_n (pc := 5) d_Or_clear_5 rfl ?_
  refine ar_iconst (pc := 6) d_Or_clear_6 ?_
  refine ar_putI (pc := 7) gf_Or_31 d_Or_clear_7 rfl (by first | rfl | exact sh_wheel (by omega) | exact sh_milk (by omega)) ⟨by omega, by omega⟩ ?_
  refine ar_ret (pc := 10) d_Or_clear_10 rfl ?_
  rotate_left
  -- leaves: ret 10
  · exact ⟨rfl, rfl⟩
theorem cm_Or_addItem_a (X : gx_T) (d : Nat) (G : mm_T) {c : Nat} {v : Int} (hF : fx_R G) (hv : i3_in v) (hc : mm_I G 42 5 = c) (hc2 : c < 500) : aw_M X (d + 1) mt_Or_addItem [av_r (some 42), av_i v] G 0 0 (fun r G' => r = none ∧ G' = ms_I (ms_I G 43 c v) 42 5 (c + 1)) := by
  refine aw_enter pf_Or_addItem (Nat.le_of_ble_eq_true rfl) ?_
  refine ar_aload_n (pc := 0) d_Or_addItem_0 rfl ?_
  refine ar_getIv (pc := 1) gf_Or_27 d_Or_addItem_1 (by first | rfl | exact sh_wheel (by omega) | exact sh_milk (by omega)) hc (fun r_1 => ?_)
  refine ar_sipush (pc := 4) d_Or_addItem_4 (by decide) ?_
  refine ar_icmp_ge (pc := 7) 30 d_Or_addItem_7 (by decide) ⟨by omega, by omega⟩ ⟨by omega, by omega⟩ (fun h_7 => by exfalso; omega) (fun h_7 => ?_)
  refine ar_aload_n (pc := 10) d_Or_addItem_10 rfl ?_
  refine ar_getR (pc := 11) gf_Or_9 d_Or_addItem_11 (by first | rfl | exact sh_wheel (by omega) | exact sh_milk (by omega)) (hF _ _ _ rfl) ?_
  refine ar_aload_n (pc := 14) d_Or_addItem_14 rfl ?_
  refine ar_getIv (pc := 15) gf_Or_27 d_Or_addItem_15 (by first | rfl | exact sh_wheel (by omega) | exact sh_milk (by omega)) hc (fun r_15 => ?_)
  refine ar_iload_n (pc := 18) d_Or_addItem_18 rfl ?_
  refine ar_iast (pc := 19) d_Or_addItem_19 rfl (c) (by omega) (by omega) ⟨by omega, by omega⟩ ?_
  refine ar_aload_n (pc := 20) d_Or_addItem_20 rfl ?_
  refine ar_dup (pc := 21) d_Or_addItem_21 rfl ?_
  refine ar_getIv (pc := 22) gf_Or_27 d_Or_addItem_22 (by first | rfl | exact sh_wheel (by omega) | exact sh_milk (by omega)) (show _ = (c : Int) from hc) (fun r_22 => ?_)
  refine ar_iconst (pc := 25) d_Or_addItem_25 ?_
  refine ar_iadd (pc := 26) d_Or_addItem_26 ?_
  refine ar_putI (pc := 27) gf_Or_27 d_Or_addItem_27 rfl (by first | rfl | exact sh_wheel (by omega) | exact sh_milk (by omega)) ⟨by omega, by omega⟩ ?_
  refine ar_ret (pc := 30) d_Or_addItem_30 rfl ?_
  rotate_left
  -- leaves: ret 30
  · exact ⟨rfl, rfl⟩
theorem cm_Or_closeLine_a (X : gx_T) (d : Nat) (G : mm_T) {c l : Nat} {v : Int} (hF : fx_R G) (hv : i3_in v) (hc : mm_I G 42 5 = c) (hc2 : c ≤ 500) (hl : mm_I G 42 6 = l) (hl2 : l < 8) : aw_M X (d + 1) mt_Or_closeLine [av_r (some 42), av_i v] G 0 0 (fun r G' => r = none ∧ G' = ms_I (ms_I (ms_I G 44 l c) 45 l v) 42 6 (l + 1)) := by
  refine aw_enter pf_Or_closeLine (Nat.le_of_ble_eq_true rfl) ?_
  refine ar_aload_n (pc := 0) d_Or_closeLine_0 rfl ?_
  refine ar_getIv (pc := 1) gf_Or_31 d_Or_closeLine_1 (by first | rfl | exact sh_wheel (by omega) | exact sh_milk (by omega)) hl (fun r_1 => ?_)
  refine ar_bipush (pc := 4) d_Or_closeLine_4 (by decide) ?_
  refine ar_icmp_ge (pc := 6) 42 d_Or_closeLine_6 (by decide) ⟨by omega, by omega⟩ ⟨by omega, by omega⟩ (fun h_6 => by exfalso; omega) (fun h_6 => ?_)
  refine ar_aload_n (pc := 9) d_Or_closeLine_9 rfl ?_
  refine ar_getR (pc := 10) gf_Or_15 d_Or_closeLine_10 (by first | rfl | exact sh_wheel (by omega) | exact sh_milk (by omega)) (hF _ _ _ rfl) ?_
  refine ar_aload_n (pc := 13) d_Or_closeLine_13 rfl ?_
  refine ar_getIv (pc := 14) gf_Or_31 d_Or_closeLine_14 (by first | rfl | exact sh_wheel (by omega) | exact sh_milk (by omega)) hl (fun r_14 => ?_)
  refine ar_aload_n (pc := 17) d_Or_closeLine_17 rfl ?_
  refine ar_getIv (pc := 18) gf_Or_27 d_Or_closeLine_18 (by first | rfl | exact sh_wheel (by omega) | exact sh_milk (by omega)) hc (fun r_18 => ?_)
  refine ar_iast (pc := 21) d_Or_closeLine_21 rfl (l) (by omega) (by omega) ⟨by omega, by omega⟩ ?_
  refine ar_aload_n (pc := 22) d_Or_closeLine_22 rfl ?_
  refine ar_getR (pc := 23) gf_Or_18 d_Or_closeLine_23 (by first | rfl | exact sh_wheel (by omega) | exact sh_milk (by omega)) (hF _ _ _ rfl) ?_
  refine ar_aload_n (pc := 26) d_Or_closeLine_26 rfl ?_
  refine ar_getIv (pc := 27) gf_Or_31 d_Or_closeLine_27 (by first | rfl | exact sh_wheel (by omega) | exact sh_milk (by omega)) (show _ = (l : Int) from hl) (fun r_27 => ?_)
  refine ar_iload_n (pc := 30) d_Or_closeLine_30 rfl ?_
  refine ar_iast (pc := 31) d_Or_closeLine_31 rfl (l) (by omega) (by omega) ⟨by omega, by omega⟩ ?_
  refine ar_aload_n (pc := 32) d_Or_closeLine_32 rfl ?_
  refine ar_dup (pc := 33) d_Or_closeLine_33 rfl ?_
  refine ar_getIv (pc := 34) gf_Or_31 d_Or_closeLine_34 (by first | rfl | exact sh_wheel (by omega) | exact sh_milk (by omega)) (show _ = (l : Int) from hl) (fun r_34 => ?_)
  refine ar_iconst (pc := 37) d_Or_closeLine_37 ?_
  refine ar_iadd (pc := 38) d_Or_closeLine_38 ?_
  refine ar_putI (pc := 39) gf_Or_31 d_Or_closeLine_39 rfl (by first | rfl | exact sh_wheel (by omega) | exact sh_milk (by omega)) ⟨by omega, by omega⟩ ?_
  refine ar_ret (pc := 42) d_Or_closeLine_42 rfl ?_
  rotate_left
  -- leaves: ret 42
  · exact ⟨rfl, rfl⟩
theorem cm_Or_clear_b (X : gx_T) (d : Nat) (G : mm_T) : aw_M X (d + 1) mt_Or_clear [av_r (some 48)] G 0 0 (fun r G' => r = none ∧ G' = ms_I (ms_I G 48 5 0) 48 6 0) := by
  refine aw_enter pf_Or_clear (Nat.le_of_ble_eq_true rfl) ?_
  refine ar_aload_n (pc := 0) d_Or_clear_0 rfl ?_
  refine ar_iconst (pc := 1) d_Or_clear_1 ?_
  refine ar_putI (pc := 2) gf_Or_27 d_Or_clear_2 rfl (by first | rfl | exact sh_wheel (by omega) | exact sh_milk (by omega)) ⟨by omega, by omega⟩ ?_
  refine ar_aload_n (pc := 5) d_Or_clear_5 rfl ?_
  refine ar_iconst (pc := 6) d_Or_clear_6 ?_
  refine ar_putI (pc := 7) gf_Or_31 d_Or_clear_7 rfl (by first | rfl | exact sh_wheel (by omega) | exact sh_milk (by omega)) ⟨by omega, by omega⟩ ?_
  refine ar_ret (pc := 10) d_Or_clear_10 rfl ?_
  rotate_left
  -- leaves: ret 10
  · exact ⟨rfl, rfl⟩
theorem cm_Or_addItem_b (X : gx_T) (d : Nat) (G : mm_T) {c : Nat} {v : Int} (hF : fx_R G) (hv : i3_in v) (hc : mm_I G 48 5 = c) (hc2 : c < 500) : aw_M X (d + 1) mt_Or_addItem [av_r (some 48), av_i v] G 0 0 (fun r G' => r = none ∧ G' = ms_I (ms_I G 49 c v) 48 5 (c + 1)) := by
  refine aw_enter pf_Or_addItem (Nat.le_of_ble_eq_true rfl) ?_
  refine ar_aload_n (pc := 0) d_Or_addItem_0 rfl ?_
  refine ar_getIv (pc := 1) gf_Or_27 d_Or_addItem_1 (by first | rfl | exact sh_wheel (by omega) | exact sh_milk (by omega)) hc (fun r_1 => ?_)
  refine ar_sipush (pc := 4) d_Or_addItem_4 (by decide) ?_
  refine ar_icmp_ge (pc := 7) 30 d_Or_addItem_7 (by decide) ⟨by omega, by omega⟩ ⟨by omega, by omega⟩ (fun h_7 => by exfalso; omega) (fun h_7 => ?_)
  refine ar_aload_n (pc := 10) d_Or_addItem_10 rfl ?_
  refine ar_getR (pc := 11) gf_Or_9 d_Or_addItem_11 (by first | rfl | exact sh_wheel (by omega) | exact sh_milk (by omega)) (hF _ _ _ rfl) ?_
  refine ar_aload_n (pc := 14) d_Or_addItem_14 rfl ?_
  refine ar_getIv (pc := 15) gf_Or_27 d_Or_addItem_15 (by first | rfl | exact sh_wheel (by omega) | exact sh_milk (by omega)) hc (fun r_15 => ?_)
  refine ar_iload_n (pc := 18) d_Or_addItem_18 rfl ?_
  refine ar_iast (pc := 19) d_Or_addItem_19 rfl (c) (by omega) (by omega) ⟨by omega, by omega⟩ ?_
  refine ar_aload_n (pc := 20) d_Or_addItem_20 rfl ?_
  refine ar_dup (pc := 21) d_Or_addItem_21 rfl ?_
  refine ar_getIv (pc := 22) gf_Or_27 d_Or_addItem_22 (by first | rfl | exact sh_wheel (by omega) | exact sh_milk (by omega)) (show _ = (c : Int) from hc) (fun r_22 => ?_)
  refine ar_iconst (pc := 25) d_Or_addItem_25 ?_
  refine ar_iadd (pc := 26) d_Or_addItem_26 ?_
  refine ar_putI (pc := 27) gf_Or_27 d_Or_addItem_27 rfl (by first | rfl | exact sh_wheel (by omega) | exact sh_milk (by omega)) ⟨by omega, by omega⟩ ?_
  refine ar_ret (pc := 30) d_Or_addItem_30 rfl ?_
  rotate_left
  -- leaves: ret 30
  · exact ⟨rfl, rfl⟩
theorem cm_Or_closeLine_b (X : gx_T) (d : Nat) (G : mm_T) {c l : Nat} {v : Int} (hF : fx_R G) (hv : i3_in v) (hc : mm_I G 48 5 = c) (hc2 : c ≤ 500) (hl : mm_I G 48 6 = l) (hl2 : l < 8) : aw_M X (d + 1) mt_Or_closeLine [av_r (some 48), av_i v] G 0 0 (fun r G' => r = none ∧ G' = ms_I (ms_I (ms_I G 50 l c) 51 l v) 48 6 (l + 1)) := by
  refine aw_enter pf_Or_closeLine (Nat.le_of_ble_eq_true rfl) ?_
  refine ar_aload_n (pc := 0) d_Or_closeLine_0 rfl ?_
  refine ar_getIv (pc := 1) gf_Or_31 d_Or_closeLine_1 (by first | rfl | exact sh_wheel (by omega) | exact sh_milk (by omega)) hl (fun r_1 => ?_)
  refine ar_bipush (pc := 4) d_Or_closeLine_4 (by decide) ?_
  refine ar_icmp_ge (pc := 6) 42 d_Or_closeLine_6 (by decide) ⟨by omega, by omega⟩ ⟨by omega, by omega⟩ (fun h_6 => by exfalso; omega) (fun h_6 => ?_)
  refine ar_aload_n (pc := 9) d_Or_closeLine_9 rfl ?_
  refine ar_getR (pc := 10) gf_Or_15 d_Or_closeLine_10 (by first | rfl | exact sh_wheel (by omega) | exact sh_milk (by omega)) (hF _ _ _ rfl) ?_
  refine ar_aload_n (pc := 13) d_Or_closeLine_13 rfl ?_
  refine ar_getIv (pc := 14) gf_Or_31 d_Or_closeLine_14 (by first | rfl | exact sh_wheel (by omega) | exact sh_milk (by omega)) hl (fun r_14 => ?_)
  refine ar_aload_n (pc := 17) d_Or_closeLine_17 rfl ?_
  refine ar_getIv (pc := 18) gf_Or_27 d_Or_closeLine_18 (by first | rfl | exact sh_wheel (by omega) | exact sh_milk (by omega)) hc (fun r_18 => ?_)
  refine ar_iast (pc := 21) d_Or_closeLine_21 rfl (l) (by omega) (by omega) ⟨by omega, by omega⟩ ?_
  refine ar_aload_n (pc := 22) d_Or_closeLine_22 rfl ?_
  refine ar_getR (pc := 23) gf_Or_18 d_Or_closeLine_23 (by first | rfl | exact sh_wheel (by omega) | exact sh_milk (by omega)) (hF _ _ _ rfl) ?_
  refine ar_aload_n (pc := 26) d_Or_closeLine_26 rfl ?_
  refine ar_getIv (pc := 27) gf_Or_31 d_Or_closeLine_27 (by first | rfl | exact sh_wheel (by omega) | exact sh_milk (by omega)) (show _ = (l : Int) from hl) (fun r_27 => ?_)
  refine ar_iload_n (pc := 30) d_Or_closeLine_30 rfl ?_
  refine ar_iast (pc := 31) d_Or_closeLine_31 rfl (l) (by omega) (by omega) ⟨by omega, by omega⟩ ?_
  refine ar_aload_n (pc := 32) d_Or_closeLine_32 rfl ?_
  refine ar_dup (pc := 33) d_Or_closeLine_33 rfl ?_
  refine ar_getIv (pc := 34) gf_Or_31 d_Or_closeLine_34 (by first | rfl | exact sh_wheel (by omega) | exact sh_milk (by omega)) (show _ = (l : Int) from hl) (fun r_34 => ?_)
  refine ar_iconst (pc := 37) d_Or_closeLine_37 ?_
  refine ar_iadd (pc := 38) d_Or_closeLine_38 ?_
  refine ar_putI (pc := 39) gf_Or_31 d_Or_closeLine_39 rfl (by first | rfl | exact sh_wheel (by omega) | exact sh_milk (by omega)) ⟨by omega, by omega⟩ ?_
  refine ar_ret (pc := 42) d_Or_closeLine_42 rfl ?_
  rotate_left
  -- leaves: ret 42
  · exact ⟨rfl, rfl⟩
