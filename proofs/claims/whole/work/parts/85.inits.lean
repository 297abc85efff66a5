/-! ===== new objects of the class ===== -/
theorem cm_Sh_init (X : gx_T) (d : Nat) (G : mm_T) (hA : ∀ a, 2 ≤ a → a < 5 → mm_A G a = false) : aw_M X (d + 1) mt_Sh_init [av_r (some 1)] G 3 52 (fun r G' => r = none ∧ G' = (ms_R (ms_N (ms_R (ms_N (ms_R (ms_N G 2) 1 0 (some 2)) 3) 1 1 (some 3)) 4) 1 2 (some 4))) := by
  refine aw_enter pf_Sh_init (Nat.le_of_ble_eq_true rfl) ?_
  refine ar_aload_n (pc := 0) d_Sh_init_0 rfl ?_
  refine ac_obj (pc := 1) ml_Sh_3 d_Sh_init_1 (Nat.le_of_ble_eq_true rfl) ?_
  refine ar_aload_n (pc := 4) d_Sh_init_4 rfl ?_
  refine ar_bipush (pc := 5) d_Sh_init_5 (by decide) ?_
  refine an_100 (pc := 7) 2 d_Sh_init_7 rfl rfl (hA 2 (by omega) (by omega)) ?_
  refine ar_putFR (pc := 9) gf_Sh_9 d_Sh_init_9 rfl rfl rfl (by first | rfl | exact sh_wheel (by omega) | exact sh_milk (by omega)) (fun b h => by cases h; omega) ?_
  refine ar_aload_n (pc := 12) d_Sh_init_12 rfl ?_
  refine ar_iconst (pc := 13) d_Sh_init_13 ?_
  refine an_100 (pc := 14) 3 d_Sh_init_14 rfl rfl (hA 3 (by omega) (by omega)) ?_
  refine ar_putFR (pc := 16) gf_Sh_15 d_Sh_init_16 rfl rfl rfl (by first | rfl | exact sh_wheel (by omega) | exact sh_milk (by omega)) (fun b h => by cases h; omega) ?_
  refine ar_aload_n (pc := 19) d_Sh_init_19 rfl ?_
  refine ar_bipush (pc := 20) d_Sh_init_20 (by decide) ?_
  refine an_100 (pc := 22) 4 d_Sh_init_22 rfl rfl (hA 4 (by omega) (by omega)) ?_
  refine ar_putFR (pc := 24) gf_Sh_18 d_Sh_init_24 rfl rfl rfl (by first | rfl | exact sh_wheel (by omega) | exact sh_milk (by omega)) (fun b h => by cases h; omega) ?_
  refine ar_ret (pc := 27) d_Sh_init_27 rfl ?_
  rotate_left
  -- leaves: ret 27
  · exact ⟨rfl, rfl⟩
theorem cm_Ba_init (X : gx_T) (d : Nat) (G : mm_T) (hA : ∀ a, 8 ≤ a → a < 12 → mm_A G a = false) : aw_M X (d + 1) mt_Ba_init [av_r (some 7)] G 4 39 (fun r G' => r = none ∧ G' = (ms_R (ms_N (ms_R (ms_N (ms_R (ms_N (ms_R (ms_N G 8) 7 0 (some 8)) 9) 7 1 (some 9)) 10) 7 2 (some 10)) 11) 7 3 (some 11))) := by
  refine aw_enter pf_Ba_init (Nat.le_of_ble_eq_true rfl) ?_
  refine ar_aload_n (pc := 0) d_Ba_init_0 rfl ?_
  refine ac_obj (pc := 1) ml_Ba_3 d_Ba_init_1 (Nat.le_of_ble_eq_true rfl) ?_
  refine ar_aload_n (pc := 4) d_Ba_init_4 rfl ?_
  refine ar_iconst (pc := 5) d_Ba_init_5 ?_
  refine an_100 (pc := 6) 8 d_Ba_init_6 rfl rfl (hA 8 (by omega) (by omega)) ?_
  refine ar_putFR (pc := 8) gf_Ba_9 d_Ba_init_8 rfl rfl rfl (by first | rfl | exact sh_wheel (by omega) | exact sh_milk (by omega)) (fun b h => by cases h; omega) ?_
  refine ar_aload_n (pc := 11) d_Ba_init_11 rfl ?_
  refine ar_bipush (pc := 12) d_Ba_init_12 (by decide) ?_
  refine an_100 (pc := 14) 9 d_Ba_init_14 rfl rfl (hA 9 (by omega) (by omega)) ?_
  refine ar_putFR (pc := 16) gf_Ba_15 d_Ba_init_16 rfl rfl rfl (by first | rfl | exact sh_wheel (by omega) | exact sh_milk (by omega)) (fun b h => by cases h; omega) ?_
  refine ar_aload_n (pc := 19) d_Ba_init_19 rfl ?_
  refine ar_bipush (pc := 20) d_Ba_init_20 (by decide) ?_
  refine an_100 (pc := 22) 10 d_Ba_init_22 rfl rfl (hA 10 (by omega) (by omega)) ?_
  refine ar_putFR (pc := 24) gf_Ba_18 d_Ba_init_24 rfl rfl rfl (by first | rfl | exact sh_wheel (by omega) | exact sh_milk (by omega)) (fun b h => by cases h; omega) ?_
  refine ar_aload_n (pc := 27) d_Ba_init_27 rfl ?_
  refine ar_bipush (pc := 28) d_Ba_init_28 (by decide) ?_
  refine an_100 (pc := 30) 11 d_Ba_init_30 rfl rfl (hA 11 (by omega) (by omega)) ?_
  refine ar_putFR (pc := 32) gf_Ba_21 d_Ba_init_32 rfl rfl rfl (by first | rfl | exact sh_wheel (by omega) | exact sh_milk (by omega)) (fun b h => by cases h; omega) ?_
  refine ar_ret (pc := 35) d_Ba_init_35 rfl ?_
  rotate_left
  -- leaves: ret 35
  · exact ⟨rfl, rfl⟩
theorem cm_St_init (X : gx_T) (d : Nat) (G : mm_T) (hA : ∀ a, 13 ≤ a → a < 17 → mm_A G a = false) : aw_M X (d + 1) mt_St_init [av_r (some 12)] G 4 800 (fun r G' => r = none ∧ G' = (ms_R (ms_N (ms_R (ms_N (ms_R (ms_N (ms_R (ms_N G 13) 12 0 (some 13)) 14) 12 1 (some 14)) 15) 12 2 (some 15)) 16) 12 3 (some 16))) := by
  refine aw_enter pf_St_init (Nat.le_of_ble_eq_true rfl) ?_
  refine ar_aload_n (pc := 0) d_St_init_0 rfl ?_
  refine ac_obj (pc := 1) ml_St_3 d_St_init_1 (Nat.le_of_ble_eq_true rfl) ?_
  refine ar_aload_n (pc := 4) d_St_init_4 rfl ?_
  refine ar_sipush (pc := 5) d_St_init_5 (by decide) ?_
  refine an_100 (pc := 8) 13 d_St_init_8 rfl rfl (hA 13 (by omega) (by omega)) ?_
  refine ar_putFR (pc := 10) gf_St_9 d_St_init_10 rfl rfl rfl (by first | rfl | exact sh_wheel (by omega) | exact sh_milk (by omega)) (fun b h => by cases h; omega) ?_
  refine ar_aload_n (pc := 13) d_St_init_13 rfl ?_
  refine ar_sipush (pc := 14) d_St_init_14 (by decide) ?_
  refine an_100 (pc := 17) 14 d_St_init_17 rfl rfl (hA 14 (by omega) (by omega)) ?_
  refine ar_putFR (pc := 19) gf_St_15 d_St_init_19 rfl rfl rfl (by first | rfl | exact sh_wheel (by omega) | exact sh_milk (by omega)) (fun b h => by cases h; omega) ?_
  refine ar_aload_n (pc := 22) d_St_init_22 rfl ?_
  refine ar_sipush (pc := 23) d_St_init_23 (by decide) ?_
  refine an_100 (pc := 26) 15 d_St_init_26 rfl rfl (hA 15 (by omega) (by omega)) ?_
  refine ar_putFR (pc := 28) gf_St_18 d_St_init_28 rfl rfl rfl (by first | rfl | exact sh_wheel (by omega) | exact sh_milk (by omega)) (fun b h => by cases h; omega) ?_
  refine ar_aload_n (pc := 31) d_St_init_31 rfl ?_
  refine ar_sipush (pc := 32) d_St_init_32 (by decide) ?_
  refine an_100 (pc := 35) 16 d_St_init_35 rfl rfl (hA 16 (by omega) (by omega)) ?_
  refine ar_putFR (pc := 37) gf_St_21 d_St_init_37 rfl rfl rfl (by first | rfl | exact sh_wheel (by omega) | exact sh_milk (by omega)) (fun b h => by cases h; omega) ?_
  refine ar_ret (pc := 40) d_St_init_40 rfl ?_
  rotate_left
  -- leaves: ret 40
  · exact ⟨rfl, rfl⟩
theorem cm_Ma_init (X : gx_T) (d : Nat) (G : mm_T) (hA : ∀ a, 18 ≤ a → a < 24 → mm_A G a = false) : aw_M X (d + 1) mt_Ma_init [av_r (some 17)] G 6 505 (fun r G' => r = none ∧ G' = (ms_R (ms_N (ms_R (ms_N (ms_R (ms_N (ms_R (ms_N (ms_R (ms_N (ms_R (ms_N G 18) 17 0 (some 18)) 19) 17 1 (some 19)) 20) 17 2 (some 20)) 21) 17 3 (some 21)) 22) 17 4 (some 22)) 23) 17 5 (some 23))) := by
  refine aw_enter pf_Ma_init (Nat.le_of_ble_eq_true rfl) ?_
  refine ar_aload_n (pc := 0) d_Ma_init_0 rfl ?_
  refine ac_obj (pc := 1) ml_Ma_3 d_Ma_init_1 (Nat.le_of_ble_eq_true rfl) ?_
  refine ar_aload_n (pc := 4) d_Ma_init_4 rfl ?_
  refine ar_bipush (pc := 5) d_Ma_init_5 (by decide) ?_
  refine an_100 (pc := 7) 18 d_Ma_init_7 rfl rfl (hA 18 (by omega) (by omega)) ?_
  refine ar_putFR (pc := 9) gf_Ma_9 d_Ma_init_9 rfl rfl rfl (by first | rfl | exact sh_wheel (by omega) | exact sh_milk (by omega)) (fun b h => by cases h; omega) ?_
  refine ar_aload_n (pc := 12) d_Ma_init_12 rfl ?_
  refine ar_bipush (pc := 13) d_Ma_init_13 (by decide) ?_
  refine an_100 (pc := 15) 19 d_Ma_init_15 rfl rfl (hA 19 (by omega) (by omega)) ?_
  refine ar_putFR (pc := 17) gf_Ma_15 d_Ma_init_17 rfl rfl rfl (by first | rfl | exact sh_wheel (by omega) | exact sh_milk (by omega)) (fun b h => by cases h; omega) ?_
  refine ar_aload_n (pc := 20) d_Ma_init_20 rfl ?_
  refine ar_bipush (pc := 21) d_Ma_init_21 (by decide) ?_
  refine an_100 (pc := 23) 20 d_Ma_init_23 rfl rfl (hA 20 (by omega) (by omega)) ?_
  refine ar_putFR (pc := 25) gf_Ma_18 d_Ma_init_25 rfl rfl rfl (by first | rfl | exact sh_wheel (by omega) | exact sh_milk (by omega)) (fun b h => by cases h; omega) ?_
  refine ar_aload_n (pc := 28) d_Ma_init_28 rfl ?_
  refine ar_bipush (pc := 29) d_Ma_init_29 (by decide) ?_
  refine an_100 (pc := 31) 21 d_Ma_init_31 rfl rfl (hA 21 (by omega) (by omega)) ?_
  refine ar_putFR (pc := 33) gf_Ma_21 d_Ma_init_33 rfl rfl rfl (by first | rfl | exact sh_wheel (by omega) | exact sh_milk (by omega)) (fun b h => by cases h; omega) ?_
  refine ar_aload_n (pc := 36) d_Ma_init_36 rfl ?_
  refine ar_bipush (pc := 37) d_Ma_init_37 (by decide) ?_
  refine an_100 (pc := 39) 22 d_Ma_init_39 rfl rfl (hA 22 (by omega) (by omega)) ?_
  refine ar_putFR (pc := 41) gf_Ma_24 d_Ma_init_41 rfl rfl rfl (by first | rfl | exact sh_wheel (by omega) | exact sh_milk (by omega)) (fun b h => by cases h; omega) ?_
  refine ar_aload_n (pc := 44) d_Ma_init_44 rfl ?_
  refine ar_iconst (pc := 45) d_Ma_init_45 ?_
  refine an_100 (pc := 46) 23 d_Ma_init_46 rfl rfl (hA 23 (by omega) (by omega)) ?_
  refine ar_putFR (pc := 48) gf_Ma_27 d_Ma_init_48 rfl rfl rfl (by first | rfl | exact sh_wheel (by omega) | exact sh_milk (by omega)) (fun b h => by cases h; omega) ?_
  refine ar_ret (pc := 51) d_Ma_init_51 rfl ?_
  rotate_left
  -- leaves: ret 51
  · exact ⟨rfl, rfl⟩
theorem cm_Pl_init (X : gx_T) (d : Nat) (G : mm_T) (hA : ∀ a, 25 ≤ a → a < 33 → mm_A G a = false) : aw_M X (d + 1) mt_Pl_init [av_r (some 24)] G 8 382 (fun r G' => r = none ∧ G' = (ms_R (ms_N (ms_R (ms_N (ms_R (ms_N (ms_R (ms_N (ms_R (ms_N (ms_R (ms_N (ms_R (ms_N (ms_R (ms_N G 25) 24 0 (some 25)) 26) 24 1 (some 26)) 27) 24 2 (some 27)) 28) 24 3 (some 28)) 29) 24 4 (some 29)) 30) 24 5 (some 30)) 31) 24 6 (some 31)) 32) 24 7 (some 32))) := by
  refine aw_enter pf_Pl_init (Nat.le_of_ble_eq_true rfl) ?_
  refine ar_aload_n (pc := 0) d_Pl_init_0 rfl ?_
  refine ac_obj (pc := 1) ml_Pl_3 d_Pl_init_1 (Nat.le_of_ble_eq_true rfl) ?_
  refine ar_aload_n (pc := 4) d_Pl_init_4 rfl ?_
  refine ar_bipush (pc := 5) d_Pl_init_5 (by decide) ?_
  refine an_100 (pc := 7) 25 d_Pl_init_7 rfl rfl (hA 25 (by omega) (by omega)) ?_
  refine ar_putFR (pc := 9) gf_Pl_9 d_Pl_init_9 rfl rfl rfl (by first | rfl | exact sh_wheel (by omega) | exact sh_milk (by omega)) (fun b h => by cases h; omega) ?_
  refine ar_aload_n (pc := 12) d_Pl_init_12 rfl ?_
  refine ar_bipush (pc := 13) d_Pl_init_13 (by decide) ?_
  refine an_100 (pc := 15) 26 d_Pl_init_15 rfl rfl (hA 26 (by omega) (by omega)) ?_
  refine ar_putFR (pc := 17) gf_Pl_15 d_Pl_init_17 rfl rfl rfl (by first | rfl | exact sh_wheel (by omega) | exact sh_milk (by omega)) (fun b h => by cases h; omega) ?_
  refine ar_aload_n (pc := 20) d_Pl_init_20 rfl ?_
  refine ar_bipush (pc := 21) d_Pl_init_21 (by decide) ?_
  refine an_100 (pc := 23) 27 d_Pl_init_23 rfl rfl (hA 27 (by omega) (by omega)) ?_
  refine ar_putFR (pc := 25) gf_Pl_18 d_Pl_init_25 rfl rfl rfl (by first | rfl | exact sh_wheel (by omega) | exact sh_milk (by omega)) (fun b h => by cases h; omega) ?_
  refine ar_aload_n (pc := 28) d_Pl_init_28 rfl ?_
  refine ar_sipush (pc := 29) d_Pl_init_29 (by decide) ?_
  refine an_101 (pc := 32) 28 d_Pl_init_32 rfl rfl (hA 28 (by omega) (by omega)) ?_
  refine ar_putFR (pc := 34) gf_Pl_21 d_Pl_init_34 rfl rfl rfl (by first | rfl | exact sh_wheel (by omega) | exact sh_milk (by omega)) (fun b h => by cases h; omega) ?_
  refine ar_aload_n (pc := 37) d_Pl_init_37 rfl ?_
  refine ar_bipush (pc := 38) d_Pl_init_38 (by decide) ?_
  refine an_100 (pc := 40) 29 d_Pl_init_40 rfl rfl (hA 29 (by omega) (by omega)) ?_
  refine ar_putFR (pc := 42) gf_Pl_25 d_Pl_init_42 rfl rfl rfl (by first | rfl | exact sh_wheel (by omega) | exact sh_milk (by omega)) (fun b h => by cases h; omega) ?_
  refine ar_aload_n (pc := 45) d_Pl_init_45 rfl ?_
  refine ar_bipush (pc := 46) d_Pl_init_46 (by decide) ?_
  refine an_101 (pc := 48) 30 d_Pl_init_48 rfl rfl (hA 30 (by omega) (by omega)) ?_
  refine ar_putFR (pc := 50) gf_Pl_28 d_Pl_init_50 rfl rfl rfl (by first | rfl | exact sh_wheel (by omega) | exact sh_milk (by omega)) (fun b h => by cases h; omega) ?_
  refine ar_aload_n (pc := 53) d_Pl_init_53 rfl ?_
  refine ar_bipush (pc := 54) d_Pl_init_54 (by decide) ?_
  refine an_100 (pc := 56) 31 d_Pl_init_56 rfl rfl (hA 31 (by omega) (by omega)) ?_
  refine ar_putFR (pc := 58) gf_Pl_31 d_Pl_init_58 rfl rfl rfl (by first | rfl | exact sh_wheel (by omega) | exact sh_milk (by omega)) (fun b h => by cases h; omega) ?_
  refine ar_aload_n (pc := 61) d_Pl_init_61 rfl ?_
  refine ar_bipush (pc := 62) d_Pl_init_62 (by decide) ?_
  refine an_100 (pc := 64) 32 d_Pl_init_64 rfl rfl (hA 32 (by omega) (by omega)) ?_
  refine ar_putFR (pc := 66) gf_Pl_34 d_Pl_init_66 rfl rfl rfl (by first | rfl | exact sh_wheel (by omega) | exact sh_milk (by omega)) (fun b h => by cases h; omega) ?_
  refine ar_ret (pc := 69) d_Pl_init_69 rfl ?_
  rotate_left
  -- leaves: ret 69
  · exact ⟨rfl, rfl⟩
theorem cm_Ta_init (X : gx_T) (d : Nat) (G : mm_T) (hA : ∀ a, 34 ≤ a → a < 35 → mm_A G a = false) : aw_M X (d + 1) mt_Ta_init [av_r (some 33)] G 1 500 (fun r G' => r = none ∧ G' = (ms_R (ms_N G 34) 33 0 (some 34))) := by
  refine aw_enter pf_Ta_init (Nat.le_of_ble_eq_true rfl) ?_
  refine ar_aload_n (pc := 0) d_Ta_init_0 rfl ?_
  refine ac_obj (pc := 1) ml_Ta_3 d_Ta_init_1 (Nat.le_of_ble_eq_true rfl) ?_
  refine ar_aload_n (pc := 4) d_Ta_init_4 rfl ?_
  refine ar_sipush (pc := 5) d_Ta_init_5 (by decide) ?_
  refine an_100 (pc := 8) 34 d_Ta_init_8 rfl rfl (hA 34 (by omega) (by omega)) ?_
  refine ar_putFR (pc := 10) gf_Ta_9 d_Ta_init_10 rfl rfl rfl (by first | rfl | exact sh_wheel (by omega) | exact sh_milk (by omega)) (fun b h => by cases h; omega) ?_
  refine ar_ret (pc := 13) d_Ta_init_13 rfl ?_
  rotate_left
  -- leaves: ret 13
  · exact ⟨rfl, rfl⟩
theorem cm_To_init (X : gx_T) (d : Nat) (G : mm_T) (hA : ∀ a, 37 ≤ a → a < 40 → mm_A G a = false) : aw_M X (d + 1) mt_To_init [av_r (some 36)] G 3 1503 (fun r G' => r = none ∧ G' = (ms_R (ms_N (ms_R (ms_N (ms_R (ms_N G 37) 36 0 (some 37)) 38) 36 1 (some 38)) 39) 36 2 (some 39))) := by
  refine aw_enter pf_To_init (Nat.le_of_ble_eq_true rfl) ?_
  refine ar_aload_n (pc := 0) d_To_init_0 rfl ?_
  refine ac_obj (pc := 1) ml_To_3 d_To_init_1 (Nat.le_of_ble_eq_true rfl) ?_
  refine ar_aload_n (pc := 4) d_To_init_4 rfl ?_
  refine ar_sipush (pc := 5) d_To_init_5 (by decide) ?_
  refine an_100 (pc := 8) 37 d_To_init_8 rfl rfl (hA 37 (by omega) (by omega)) ?_
  refine ar_putFR (pc := 10) gf_To_9 d_To_init_10 rfl rfl rfl (by first | rfl | exact sh_wheel (by omega) | exact sh_milk (by omega)) (fun b h => by cases h; omega) ?_
  refine ar_aload_n (pc := 13) d_To_init_13 rfl ?_
  refine ar_sipush (pc := 14) d_To_init_14 (by decide) ?_
  refine an_100 (pc := 17) 38 d_To_init_17 rfl rfl (hA 38 (by omega) (by omega)) ?_
  refine ar_putFR (pc := 19) gf_To_15 d_To_init_19 rfl rfl rfl (by first | rfl | exact sh_wheel (by omega) | exact sh_milk (by omega)) (fun b h => by cases h; omega) ?_
  refine ar_aload_n (pc := 22) d_To_init_22 rfl ?_
  refine ar_sipush (pc := 23) d_To_init_23 (by decide) ?_
  refine an_100 (pc := 26) 39 d_To_init_26 rfl rfl (hA 39 (by omega) (by omega)) ?_
  refine ar_putFR (pc := 28) gf_To_18 d_To_init_28 rfl rfl rfl (by first | rfl | exact sh_wheel (by omega) | exact sh_milk (by omega)) (fun b h => by cases h; omega) ?_
  refine ar_ret (pc := 31) d_To_init_31 rfl ?_
  rotate_left
  -- leaves: ret 31
  · exact ⟨rfl, rfl⟩
theorem cm_Or_init_a (X : gx_T) (d : Nat) (G : mm_T) (hA : ∀ a, 43 ≤ a → a < 48 → mm_A G a = false) : aw_M X (d + 1) mt_Or_init [av_r (some 42)] G 5 614 (fun r G' => r = none ∧ G' = (ms_R (ms_N (ms_R (ms_N (ms_R (ms_N (ms_R (ms_N (ms_R (ms_N G 43) 42 0 (some 43)) 44) 42 1 (some 44)) 45) 42 2 (some 45)) 46) 42 3 (some 46)) 47) 42 4 (some 47))) := by
  refine aw_enter pf_Or_init (Nat.le_of_ble_eq_true rfl) ?_
  refine ar_aload_n (pc := 0) d_Or_init_0 rfl ?_
  refine ac_obj (pc := 1) ml_Or_3 d_Or_init_1 (Nat.le_of_ble_eq_true rfl) ?_
  refine ar_aload_n (pc := 4) d_Or_init_4 rfl ?_
  refine ar_sipush (pc := 5) d_Or_init_5 (by decide) ?_
  refine an_100 (pc := 8) 43 d_Or_init_8 rfl rfl (hA 43 (by omega) (by omega)) ?_
  refine ar_putFR (pc := 10) gf_Or_9 d_Or_init_10 rfl rfl rfl (by first | rfl | exact sh_wheel (by omega) | exact sh_milk (by omega)) (fun b h => by cases h; omega) ?_
  refine ar_aload_n (pc := 13) d_Or_init_13 rfl ?_
  refine ar_bipush (pc := 14) d_Or_init_14 (by decide) ?_
  refine an_100 (pc := 16) 44 d_Or_init_16 rfl rfl (hA 44 (by omega) (by omega)) ?_
  refine ar_putFR (pc := 18) gf_Or_15 d_Or_init_18 rfl rfl rfl (by first | rfl | exact sh_wheel (by omega) | exact sh_milk (by omega)) (fun b h => by cases h; omega) ?_
  refine ar_aload_n (pc := 21) d_Or_init_21 rfl ?_
  refine ar_bipush (pc := 22) d_Or_init_22 (by decide) ?_
  refine an_100 (pc := 24) 45 d_Or_init_24 rfl rfl (hA 45 (by omega) (by omega)) ?_
  refine ar_putFR (pc := 26) gf_Or_18 d_Or_init_26 rfl rfl rfl (by first | rfl | exact sh_wheel (by omega) | exact sh_milk (by omega)) (fun b h => by cases h; omega) ?_
  refine ar_aload_n (pc := 29) d_Or_init_29 rfl ?_
  refine ar_bipush (pc := 30) d_Or_init_30 (by decide) ?_
  refine an_100 (pc := 32) 46 d_Or_init_32 rfl rfl (hA 46 (by omega) (by omega)) ?_
  refine ar_putFR (pc := 34) gf_Or_21 d_Or_init_34 rfl rfl rfl (by first | rfl | exact sh_wheel (by omega) | exact sh_milk (by omega)) (fun b h => by cases h; omega) ?_
  refine ar_aload_n (pc := 37) d_Or_init_37 rfl ?_
  refine ar_bipush (pc := 38) d_Or_init_38 (by decide) ?_
  refine an_100 (pc := 40) 47 d_Or_init_40 rfl rfl (hA 47 (by omega) (by omega)) ?_
  refine ar_putFR (pc := 42) gf_Or_24 d_Or_init_42 rfl rfl rfl (by first | rfl | exact sh_wheel (by omega) | exact sh_milk (by omega)) (fun b h => by cases h; omega) ?_
  refine ar_ret (pc := 45) d_Or_init_45 rfl ?_
  rotate_left
  -- leaves: ret 45
  · exact ⟨rfl, rfl⟩
theorem cm_Or_init_b (X : gx_T) (d : Nat) (G : mm_T) (hA : ∀ a, 49 ≤ a → a < 54 → mm_A G a = false) : aw_M X (d + 1) mt_Or_init [av_r (some 48)] G 5 614 (fun r G' => r = none ∧ G' = (ms_R (ms_N (ms_R (ms_N (ms_R (ms_N (ms_R (ms_N (ms_R (ms_N G 49) 48 0 (some 49)) 50) 48 1 (some 50)) 51) 48 2 (some 51)) 52) 48 3 (some 52)) 53) 48 4 (some 53))) := by
  refine aw_enter pf_Or_init (Nat.le_of_ble_eq_true rfl) ?_
  refine ar_aload_n (pc := 0) d_Or_init_0 rfl ?_
  refine ac_obj (pc := 1) ml_Or_3 d_Or_init_1 (Nat.le_of_ble_eq_true rfl) ?_
  refine ar_aload_n (pc := 4) d_Or_init_4 rfl ?_
  refine ar_sipush (pc := 5) d_Or_init_5 (by decide) ?_
  refine an_100 (pc := 8) 49 d_Or_init_8 rfl rfl (hA 49 (by omega) (by omega)) ?_
  refine ar_putFR (pc := 10) gf_Or_9 d_Or_init_10 rfl rfl rfl (by first | rfl | exact sh_wheel (by omega) | exact sh_milk (by omega)) (fun b h => by cases h; omega) ?_
  refine ar_aload_n (pc := 13) d_Or_init_13 rfl ?_
  refine ar_bipush (pc := 14) d_Or_init_14 (by decide) ?_
  refine an_100 (pc := 16) 50 d_Or_init_16 rfl rfl (hA 50 (by omega) (by omega)) ?_
  refine ar_putFR (pc := 18) gf_Or_15 d_Or_init_18 rfl rfl rfl (by first | rfl | exact sh_wheel (by omega) | exact sh_milk (by omega)) (fun b h => by cases h; omega) ?_
  refine ar_aload_n (pc := 21) d_Or_init_21 rfl ?_
  refine ar_bipush (pc := 22) d_Or_init_22 (by decide) ?_
  refine an_100 (pc := 24) 51 d_Or_init_24 rfl rfl (hA 51 (by omega) (by omega)) ?_
  refine ar_putFR (pc := 26) gf_Or_18 d_Or_init_26 rfl rfl rfl (by first | rfl | exact sh_wheel (by omega) | exact sh_milk (by omega)) (fun b h => by cases h; omega) ?_
  refine ar_aload_n (pc := 29) d_Or_init_29 rfl ?_
  refine ar_bipush (pc := 30) d_Or_init_30 (by decide) ?_
  refine an_100 (pc := 32) 52 d_Or_init_32 rfl rfl (hA 52 (by omega) (by omega)) ?_
  refine ar_putFR (pc := 34) gf_Or_21 d_Or_init_34 rfl rfl rfl (by first | rfl | exact sh_wheel (by omega) | exact sh_milk (by omega)) (fun b h => by cases h; omega) ?_
  refine ar_aload_n (pc := 37) d_Or_init_37 rfl ?_
  refine ar_bipush (pc := 38) d_Or_init_38 (by decide) ?_
  refine an_100 (pc := 40) 53 d_Or_init_40 rfl rfl (hA 53 (by omega) (by omega)) ?_
  refine ar_putFR (pc := 42) gf_Or_24 d_Or_init_42 rfl rfl rfl (by first | rfl | exact sh_wheel (by omega) | exact sh_milk (by omega)) (fun b h => by cases h; omega) ?_
  refine ar_ret (pc := 45) d_Or_init_45 rfl ?_
  rotate_left
  -- leaves: ret 45
  · exact ⟨rfl, rfl⟩
