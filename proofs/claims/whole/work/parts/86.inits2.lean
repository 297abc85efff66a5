/-! ===== new objects: reader, class, reference ===== -/
theorem cm_Re_init (X : gx_T) (d : Nat) (G : mm_T) (hA : ∀ a, 36 ≤ a → a < 40 → mm_A G a = false) : aw_M X (d + 2) mt_Re_init [av_r (some 35)] G 4 1507 (fun r G' => r = none ∧ G' = (ms_I (ms_I (ms_R (ms_R (ms_N (ms_R (ms_N (ms_R (ms_N (ms_N G 36) 37) 36 0 (some 37)) 38) 36 1 (some 38)) 39) 36 2 (some 39)) 35 0 (some 36)) 35 6 0) 35 7 (-1))) := by
  refine aw_enter pf_Re_init (Nat.le_of_ble_eq_true rfl) ?_
  refine ar_aload_n (pc := 0) d_Re_init_0 rfl ?_
  refine ac_obj (pc := 1) ml_Re_3 d_Re_init_1 (Nat.le_of_ble_eq_true rfl) ?_
  refine ar_aload_n (pc := 4) d_Re_init_4 rfl ?_
  refine ac_new (pc := 5) 36 ck_9 kl_Re_9 in_To it_To d_Re_init_5 rfl (hA 36 (by omega) (by omega)) ?_
  refine ar_dup (pc := 8) d_Re_init_8 rfl ?_
  refine ac_initN (pc := 9) (N := mt_To_init) 0 0 iv_To_init (List.mem_of_getElem? (i := 7) rfl) d_Re_init_9 (cm_To_init _ _ _ (fun a h1 h2 => by rcases (show a = 37 ∨ a = 38 ∨ a = 39 by omega) with rfl | rfl | rfl; exact hA 37 (by omega) (by omega); exact hA 38 (by omega) (by omega); exact hA 39 (by omega) (by omega))) rfl rfl (Nat.le_of_ble_eq_true rfl) (by omega) (by omega) (fun r_9 G_9 h_9 => ?_)
  obtain ⟨rfl, e_9⟩ := h_9
  subst G_9
  refine ar_putFR (pc := 12) gf_Re_12 d_Re_init_12 rfl rfl rfl (by first | rfl | exact sh_wheel (by omega) | exact sh_milk (by omega)) (fun b h => by cases h; omega) ?_
  refine ar_aload_n (pc := 15) d_Re_init_15 rfl ?_
  refine ar_iconst (pc := 16) d_Re_init_16 ?_
  refine ar_putI (pc := 17) gf_Re_18 d_Re_init_17 rfl (by first | rfl | exact sh_wheel (by omega) | exact sh_milk (by omega)) ⟨by omega, by omega⟩ ?_
  refine ar_aload_n (pc := 20) d_Re_init_20 rfl ?_
  refine ar_iconst (pc := 21) d_Re_init_21 ?_
  refine ar_putI (pc := 22) gf_Re_22 d_Re_init_22 rfl (by first | rfl | exact sh_wheel (by omega) | exact sh_milk (by omega)) ⟨by omega, by omega⟩ ?_
  refine ar_ret (pc := 25) d_Re_init_25 rfl ?_
  rotate_left
  -- leaves: ret 25
  · exact ⟨rfl, rfl⟩
def nk_G (G : mm_T) : mm_T := (ms_R (ms_R (ms_N (ms_R (ms_N (ms_R (ms_N (ms_R (ms_N (ms_R (ms_N (ms_N (ms_R (ms_R (ms_N (ms_R (ms_N (ms_R (ms_N (ms_R (ms_N (ms_R (ms_N (ms_N (ms_R (ms_N (ms_R (ms_N (ms_R (ms_I (ms_I (ms_R (ms_R (ms_N (ms_R (ms_N (ms_R (ms_N (ms_N (ms_N (ms_R (ms_R (ms_N (ms_N (ms_R (ms_R (ms_N (ms_R (ms_N (ms_R (ms_N (ms_R (ms_N (ms_R (ms_N (ms_R (ms_N (ms_R (ms_N (ms_R (ms_N (ms_N (ms_R (ms_R (ms_N (ms_R (ms_N (ms_R (ms_N (ms_R (ms_N (ms_R (ms_N (ms_R (ms_N (ms_N (ms_R (ms_R (ms_N (ms_R (ms_N (ms_R (ms_N (ms_R (ms_N (ms_N (ms_R (ms_R (ms_N (ms_R (ms_N (ms_R (ms_N (ms_R (ms_N (ms_N (ms_R (ms_N (ms_R (ms_N (ms_R (ms_R (ms_N (ms_R (ms_N (ms_R (ms_N (ms_N G 1) 2) 1 0 (some 2)) 3) 1 1 (some 3)) 4) 1 2 (some 4)) 0 0 (some 1)) 5) 0 1 (some 5)) 6) 0 2 (some 6)) 7) 8) 7 0 (some 8)) 9) 7 1 (some 9)) 10) 7 2 (some 10)) 11) 7 3 (some 11)) 0 3 (some 7)) 12) 13) 12 0 (some 13)) 14) 12 1 (some 14)) 15) 12 2 (some 15)) 16) 12 3 (some 16)) 0 4 (some 12)) 17) 18) 17 0 (some 18)) 19) 17 1 (some 19)) 20) 17 2 (some 20)) 21) 17 3 (some 21)) 22) 17 4 (some 22)) 23) 17 5 (some 23)) 0 5 (some 17)) 24) 25) 24 0 (some 25)) 26) 24 1 (some 26)) 27) 24 2 (some 27)) 28) 24 3 (some 28)) 29) 24 4 (some 29)) 30) 24 5 (some 30)) 31) 24 6 (some 31)) 32) 24 7 (some 32)) 0 6 (some 24)) 33) 34) 33 0 (some 34)) 0 7 (some 33)) 35) 36) 37) 36 0 (some 37)) 38) 36 1 (some 38)) 39) 36 2 (some 39)) 35 0 (some 36)) 35 6 0) 35 7 (-1)) 0 8 (some 35)) 40) 0 9 (some 40)) 41) 0 10 (some 41)) 42) 43) 42 0 (some 43)) 44) 42 1 (some 44)) 45) 42 2 (some 45)) 46) 42 3 (some 46)) 47) 42 4 (some 47)) 0 11 (some 42)) 48) 49) 48 0 (some 49)) 50) 48 1 (some 50)) 51) 48 2 (some 51)) 52) 48 3 (some 52)) 53) 48 4 (some 53)) 0 12 (some 48))
theorem cm_K_init (X : gx_T) (d : Nat) (G : mm_T) (hA : ∀ a, 1 ≤ a → a < 54 → mm_A G a = false) : aw_M X (d + 3) mt_K_init [av_r (some 0)] G 53 5146 (fun r G' => r = none ∧ G' = nk_G G) := by
  refine aw_enter pf_K_init (Nat.le_of_ble_eq_true rfl) ?_
  refine ar_aload_n (pc := 0) d_K_init_0 rfl ?_
  refine ac_obj (pc := 1) ml_K_1 d_K_init_1 (Nat.le_of_ble_eq_true rfl) ?_
  refine ar_aload_n (pc := 4) d_K_init_4 rfl ?_
  refine ac_new (pc := 5) 1 ck_6 kl_K_7 in_Sh it_Sh d_K_init_5 rfl (hA 1 (by omega) (by omega)) ?_
  refine ar_dup (pc := 8) d_K_init_8 rfl ?_
  refine ac_initN (pc := 9) (N := mt_Sh_init) 49 5091 iv_Sh_init (List.mem_of_getElem? (i := 0) rfl) d_K_init_9 (cm_Sh_init _ _ _ (fun a h1 h2 => by rcases (show a = 2 ∨ a = 3 ∨ a = 4 by omega) with rfl | rfl | rfl; exact hA 2 (by omega) (by omega); exact hA 3 (by omega) (by omega); exact hA 4 (by omega) (by omega))) rfl rfl (Nat.le_of_ble_eq_true rfl) (by omega) (by omega) (fun r_9 G_9 h_9 => ?_)
  obtain ⟨rfl, e_9⟩ := h_9
  subst G_9
  refine ar_putFR (pc := 12) gf_K_10 d_K_init_12 rfl rfl rfl (by first | rfl | exact sh_wheel (by omega) | exact sh_milk (by omega)) (fun b h => by cases h; omega) ?_
  refine ar_aload_n (pc := 15) d_K_init_15 rfl ?_
  refine ar_bipush (pc := 16) d_K_init_16 (by decide) ?_
  refine an_103 (pc := 18) 5 kl_K_16 d_K_init_18 rfl rfl (hA 5 (by omega) (by omega)) ?_
  refine ar_putFR (pc := 21) gf_K_18 d_K_init_21 rfl rfl rfl (by first | rfl | exact sh_wheel (by omega) | exact sh_milk (by omega)) (fun b h => by cases h; omega) ?_
  refine ar_aload_n (pc := 24) d_K_init_24 rfl ?_
  refine ar_bipush (pc := 25) d_K_init_25 (by decide) ?_
  refine an_104 (pc := 27) 6 kl_K_22 d_K_init_27 rfl rfl (hA 6 (by omega) (by omega)) ?_
  refine ar_putFR (pc := 30) gf_K_24 d_K_init_30 rfl rfl rfl (by first | rfl | exact sh_wheel (by omega) | exact sh_milk (by omega)) (fun b h => by cases h; omega) ?_
  refine ar_aload_n (pc := 33) d_K_init_33 rfl ?_
  refine ac_new (pc := 34) 7 ck_0 kl_K_28 in_Ba it_Ba d_K_init_34 rfl (hA 7 (by omega) (by omega)) ?_
  refine ar_dup (pc := 37) d_K_init_37 rfl ?_
  refine ac_initN (pc := 38) (N := mt_Ba_init) 42 4978 iv_Ba_init (List.mem_of_getElem? (i := 1) rfl) d_K_init_38 (cm_Ba_init _ _ _ (fun a h1 h2 => by rcases (show a = 8 ∨ a = 9 ∨ a = 10 ∨ a = 11 by omega) with rfl | rfl | rfl | rfl; exact hA 8 (by omega) (by omega); exact hA 9 (by omega) (by omega); exact hA 10 (by omega) (by omega); exact hA 11 (by omega) (by omega))) rfl rfl (Nat.le_of_ble_eq_true rfl) (by omega) (by omega) (fun r_38 G_38 h_38 => ?_)
  obtain ⟨rfl, e_38⟩ := h_38
  subst G_38
  refine ar_putFR (pc := 41) gf_K_31 d_K_init_41 rfl rfl rfl (by first | rfl | exact sh_wheel (by omega) | exact sh_milk (by omega)) (fun b h => by cases h; omega) ?_
  refine ar_aload_n (pc := 44) d_K_init_44 rfl ?_
  refine ac_new (pc := 45) 12 ck_7 kl_K_35 in_St it_St d_K_init_45 rfl (hA 12 (by omega) (by omega)) ?_
  refine ar_dup (pc := 48) d_K_init_48 rfl ?_
  refine ac_initN (pc := 49) (N := mt_St_init) 37 4173 iv_St_init (List.mem_of_getElem? (i := 2) rfl) d_K_init_49 (cm_St_init _ _ _ (fun a h1 h2 => by rcases (show a = 13 ∨ a = 14 ∨ a = 15 ∨ a = 16 by omega) with rfl | rfl | rfl | rfl; exact hA 13 (by omega) (by omega); exact hA 14 (by omega) (by omega); exact hA 15 (by omega) (by omega); exact hA 16 (by omega) (by omega))) rfl rfl (Nat.le_of_ble_eq_true rfl) (by omega) (by omega) (fun r_49 G_49 h_49 => ?_)
  obtain ⟨rfl, e_49⟩ := h_49
  subst G_49
  refine ar_putFR (pc := 52) gf_K_38 d_K_init_52 rfl rfl rfl (by first | rfl | exact sh_wheel (by omega) | exact sh_milk (by omega)) (fun b h => by cases h; omega) ?_
  refine ar_aload_n (pc := 55) d_K_init_55 rfl ?_
  refine ac_new (pc := 56) 17 ck_1 kl_K_42 in_Ma it_Ma d_K_init_56 rfl (hA 17 (by omega) (by omega)) ?_
  refine ar_dup (pc := 59) d_K_init_59 rfl ?_
  refine ac_initN (pc := 60) (N := mt_Ma_init) 30 3661 iv_Ma_init (List.mem_of_getElem? (i := 3) rfl) d_K_init_60 (cm_Ma_init _ _ _ (fun a h1 h2 => by rcases (show a = 18 ∨ a = 19 ∨ a = 20 ∨ a = 21 ∨ a = 22 ∨ a = 23 by omega) with rfl | rfl | rfl | rfl | rfl | rfl; exact hA 18 (by omega) (by omega); exact hA 19 (by omega) (by omega); exact hA 20 (by omega) (by omega); exact hA 21 (by omega) (by omega); exact hA 22 (by omega) (by omega); exact hA 23 (by omega) (by omega))) rfl rfl (Nat.le_of_ble_eq_true rfl) (by omega) (by omega) (fun r_60 G_60 h_60 => ?_)
  obtain ⟨rfl, e_60⟩ := h_60
  subst G_60
  refine ar_putFR (pc := 63) gf_K_45 d_K_init_63 rfl rfl rfl (by first | rfl | exact sh_wheel (by omega) | exact sh_milk (by omega)) (fun b h => by cases h; omega) ?_
  refine ar_aload_n (pc := 66) d_K_init_66 rfl ?_
  refine ac_new (pc := 67) 24 ck_4 kl_K_49 in_Pl it_Pl d_K_init_67 rfl (hA 24 (by omega) (by omega)) ?_
  refine ar_dup (pc := 70) d_K_init_70 rfl ?_
  refine ac_initN (pc := 71) (N := mt_Pl_init) 21 3267 iv_Pl_init (List.mem_of_getElem? (i := 4) rfl) d_K_init_71 (cm_Pl_init _ _ _ (fun a h1 h2 => by rcases (show a = 25 ∨ a = 26 ∨ a = 27 ∨ a = 28 ∨ a = 29 ∨ a = 30 ∨ a = 31 ∨ a = 32 by omega) with rfl | rfl | rfl | rfl | rfl | rfl | rfl | rfl; exact hA 25 (by omega) (by omega); exact hA 26 (by omega) (by omega); exact hA 27 (by omega) (by omega); exact hA 28 (by omega) (by omega); exact hA 29 (by omega) (by omega); exact hA 30 (by omega) (by omega); exact hA 31 (by omega) (by omega); exact hA 32 (by omega) (by omega))) rfl rfl (Nat.le_of_ble_eq_true rfl) (by omega) (by omega) (fun r_71 G_71 h_71 => ?_)
  obtain ⟨rfl, e_71⟩ := h_71
  subst G_71
  refine ar_putFR (pc := 74) gf_K_52 d_K_init_74 rfl rfl rfl (by first | rfl | exact sh_wheel (by omega) | exact sh_milk (by omega)) (fun b h => by cases h; omega) ?_
  refine ar_aload_n (pc := 77) d_K_init_77 rfl ?_
  refine ac_new (pc := 78) 33 ck_8 kl_K_56 in_Ta it_Ta d_K_init_78 rfl (hA 33 (by omega) (by omega)) ?_
  refine ar_dup (pc := 81) d_K_init_81 rfl ?_
  refine ac_initN (pc := 82) (N := mt_Ta_init) 19 2765 iv_Ta_init (List.mem_of_getElem? (i := 5) rfl) d_K_init_82 (cm_Ta_init _ _ _ (fun a h1 h2 => by rw [show a = 34 by omega]; exact hA 34 (by omega) (by omega))) rfl rfl (Nat.le_of_ble_eq_true rfl) (by omega) (by omega) (fun r_82 G_82 h_82 => ?_)
  obtain ⟨rfl, e_82⟩ := h_82
  subst G_82
  refine ar_putFR (pc := 85) gf_K_59 d_K_init_85 rfl rfl rfl (by first | rfl | exact sh_wheel (by omega) | exact sh_milk (by omega)) (fun b h => by cases h; omega) ?_
  refine ar_aload_n (pc := 88) d_K_init_88 rfl ?_
  refine ac_new (pc := 89) 35 ck_5 kl_K_63 in_Re it_Re d_K_init_89 rfl (hA 35 (by omega) (by omega)) ?_
  refine ar_dup (pc := 92) d_K_init_92 rfl ?_
  refine ac_initN (pc := 93) (N := mt_Re_init) 14 1250 iv_Re_init (List.mem_of_getElem? (i := 6) rfl) d_K_init_93 (cm_Re_init _ _ _ (fun a h1 h2 => by rcases (show a = 36 ∨ a = 37 ∨ a = 38 ∨ a = 39 by omega) with rfl | rfl | rfl | rfl; exact hA 36 (by omega) (by omega); exact hA 37 (by omega) (by omega); exact hA 38 (by omega) (by omega); exact hA 39 (by omega) (by omega))) rfl rfl (Nat.le_of_ble_eq_true rfl) (by omega) (by omega) (fun r_93 G_93 h_93 => ?_)
  obtain ⟨rfl, e_93⟩ := h_93
  subst G_93
  refine ar_putFR (pc := 96) gf_K_66 d_K_init_96 rfl rfl rfl (by first | rfl | exact sh_wheel (by omega) | exact sh_milk (by omega)) (fun b h => by cases h; omega) ?_
  refine ar_aload_n (pc := 99) d_K_init_99 rfl ?_
  refine ar_iconst (pc := 100) d_K_init_100 ?_
  refine an_100 (pc := 101) 40 d_K_init_101 rfl rfl (hA 40 (by omega) (by omega)) ?_
  refine ar_putFR (pc := 103) gf_K_70 d_K_init_103 rfl rfl rfl (by first | rfl | exact sh_wheel (by omega) | exact sh_milk (by omega)) (fun b h => by cases h; omega) ?_
  refine ar_aload_n (pc := 106) d_K_init_106 rfl ?_
  refine ar_iconst (pc := 107) d_K_init_107 ?_
  refine an_100 (pc := 108) 41 d_K_init_108 rfl rfl (hA 41 (by omega) (by omega)) ?_
  refine ar_putFR (pc := 110) gf_K_74 d_K_init_110 rfl rfl rfl (by first | rfl | exact sh_wheel (by omega) | exact sh_milk (by omega)) (fun b h => by cases h; omega) ?_
  refine ar_aload_n (pc := 113) d_K_init_113 rfl ?_
  refine ac_new (pc := 114) 42 ck_3 kl_K_77 in_Or it_Or d_K_init_114 rfl (hA 42 (by omega) (by omega)) ?_
  refine ar_dup (pc := 117) d_K_init_117 rfl ?_
  refine ac_initN (pc := 118) (N := mt_Or_init) 6 622 iv_Or_init (List.mem_of_getElem? (i := 8) rfl) d_K_init_118 (cm_Or_init_a _ _ _ (fun a h1 h2 => by rcases (show a = 43 ∨ a = 44 ∨ a = 45 ∨ a = 46 ∨ a = 47 by omega) with rfl | rfl | rfl | rfl | rfl; exact hA 43 (by omega) (by omega); exact hA 44 (by omega) (by omega); exact hA 45 (by omega) (by omega); exact hA 46 (by omega) (by omega); exact hA 47 (by omega) (by omega))) rfl rfl (Nat.le_of_ble_eq_true rfl) (by omega) (by omega) (fun r_118 G_118 h_118 => ?_)
  obtain ⟨rfl, e_118⟩ := h_118
  subst G_118
  refine ar_putR (pc := 121) gf_K_80 d_K_init_121 rfl (by first | rfl | exact sh_wheel (by omega) | exact sh_milk (by omega)) (fun b h => by cases h; omega) ?_
  refine ar_aload_n (pc := 124) d_K_init_124 rfl ?_
  refine ac_new (pc := 125) 48 ck_3 kl_K_77 in_Or it_Or d_K_init_125 rfl (hA 48 (by omega) (by omega)) ?_
  refine ar_dup (pc := 128) d_K_init_128 rfl ?_
  refine ac_initN (pc := 129) (N := mt_Or_init) 0 0 iv_Or_init (List.mem_of_getElem? (i := 8) rfl) d_K_init_129 (cm_Or_init_b _ _ _ (fun a h1 h2 => by rcases (show a = 49 ∨ a = 50 ∨ a = 51 ∨ a = 52 ∨ a = 53 by omega) with rfl | rfl | rfl | rfl | rfl; exact hA 49 (by omega) (by omega); exact hA 50 (by omega) (by omega); exact hA 51 (by omega) (by omega); exact hA 52 (by omega) (by omega); exact hA 53 (by omega) (by omega))) rfl rfl (Nat.le_of_ble_eq_true rfl) (by omega) (by omega) (fun r_129 G_129 h_129 => ?_)
  obtain ⟨rfl, e_129⟩ := h_129
  subst G_129
  refine ar_putR (pc := 132) gf_K_84 d_K_init_132 rfl (by first | rfl | exact sh_wheel (by omega) | exact sh_milk (by omega)) (fun b h => by cases h; omega) ?_
  refine ar_ret (pc := 135) d_K_init_135 rfl ?_
  rotate_left
  -- leaves: ret 135
  · exact ⟨rfl, rfl⟩
def nm_G (G : mm_T) : mm_T := (ms_R (ms_N (ms_R (ms_N (ms_R (ms_N (ms_R (ms_N (ms_R (ms_N (ms_R (ms_N (ms_R (ms_N (ms_R (ms_N (ms_R (ms_N (ms_R (ms_N (ms_R (ms_N (ms_R (ms_N (ms_R (ms_N (ms_R (ms_N (ms_R (ms_N (ms_R (ms_N (ms_R (ms_N (ms_R (ms_N (ms_R (ms_N (ms_I (ms_R (ms_N (ms_R (ms_N (ms_R (ms_N (ms_R (ms_N (ms_R (ms_N (ms_R (ms_N (ms_R (ms_N (ms_R (ms_N (ms_R (ms_N (ms_R (ms_N (ms_R (ms_N (ms_R (ms_N (ms_R (ms_N (ms_R (ms_N (ms_R (ms_N (ms_R (ms_N (ms_R (ms_N (ms_R (ms_N (ms_R (ms_N (ms_R (ms_N (ms_R (ms_N (ms_R (ms_N (ms_R (ms_N (ms_R (ms_N (ms_R (ms_N (ms_R (ms_N (ms_R (ms_N G 61) 60 1 (some 61)) 62) 60 2 (some 62)) 63) 60 6 (some 63)) 64) 60 7 (some 64)) 65) 60 8 (some 65)) 66) 60 9 (some 66)) 67) 60 10 (some 67)) 68) 60 11 (some 68)) 69) 60 12 (some 69)) 70) 60 13 (some 70)) 71) 60 14 (some 71)) 72) 60 15 (some 72)) 73) 60 16 (some 73)) 74) 60 17 (some 74)) 75) 60 18 (some 75)) 76) 60 19 (some 76)) 77) 60 20 (some 77)) 78) 60 21 (some 78)) 79) 60 22 (some 79)) 80) 60 23 (some 80)) 81) 60 24 (some 81)) 82) 60 25 (some 82)) 83) 60 27 (some 83)) 84) 60 28 (some 84)) 85) 60 29 (some 85)) 86) 60 30 (some 86)) 87) 60 34 (some 87)) 60 37 (-1)) 88) 60 44 (some 88)) 89) 60 47 (some 89)) 90) 60 48 (some 90)) 91) 60 49 (some 91)) 92) 60 50 (some 92)) 93) 60 51 (some 93)) 94) 60 52 (some 94)) 95) 60 56 (some 95)) 96) 60 57 (some 96)) 97) 60 58 (some 97)) 98) 60 59 (some 98)) 99) 60 60 (some 99)) 100) 60 61 (some 100)) 101) 60 63 (some 101)) 102) 60 64 (some 102)) 103) 60 65 (some 103)) 104) 60 66 (some 104)) 105) 60 67 (some 105)) 106) 60 68 (some 106))
theorem cm_Mo_init (X : gx_T) (d : Nat) (G : mm_T) (hA : ∀ a, 61 ≤ a → a < 107 → mm_A G a = false) : aw_M X (d + 1) mt_Mo_init [av_r (some 60)] G 46 57698 (fun r G' => r = none ∧ G' = nm_G G) := by
  refine aw_enter pf_Mo_init (Nat.le_of_ble_eq_true rfl) ?_
  refine ar_aload_n (pc := 0) d_Mo_init_0 rfl ?_
  refine ac_obj (pc := 1) ml_Mo_1 d_Mo_init_1 (Nat.le_of_ble_eq_true rfl) ?_
  refine ar_aload_n (pc := 4) d_Mo_init_4 rfl ?_
  refine ar_bipush (pc := 5) d_Mo_init_5 (by decide) ?_
  refine an_100 (pc := 7) 61 d_Mo_init_7 rfl rfl (hA 61 (by omega) (by omega)) ?_
  refine ar_putFR (pc := 9) gf_Mo_7 d_Mo_init_9 rfl rfl rfl (by first | rfl | exact sh_wheel (by omega) | exact sh_milk (by omega)) (fun b h => by cases h; omega) ?_
  refine ar_aload_n (pc := 12) d_Mo_init_12 rfl ?_
  refine ar_iconst (pc := 13) d_Mo_init_13 ?_
  refine an_100 (pc := 14) 62 d_Mo_init_14 rfl rfl (hA 62 (by omega) (by omega)) ?_
  refine ar_putFR (pc := 16) gf_Mo_13 d_Mo_init_16 rfl rfl rfl (by first | rfl | exact sh_wheel (by omega) | exact sh_milk (by omega)) (fun b h => by cases h; omega) ?_
  refine ar_aload_n (pc := 19) d_Mo_init_19 rfl ?_
  refine ar_bipush (pc := 20) d_Mo_init_20 (by decide) ?_
  refine an_100 (pc := 22) 63 d_Mo_init_22 rfl rfl (hA 63 (by omega) (by omega)) ?_
  refine ar_putFR (pc := 24) gf_Mo_16 d_Mo_init_24 rfl rfl rfl (by first | rfl | exact sh_wheel (by omega) | exact sh_milk (by omega)) (fun b h => by cases h; omega) ?_
  refine ar_aload_n (pc := 27) d_Mo_init_27 rfl ?_
  refine ar_bipush (pc := 28) d_Mo_init_28 (by decide) ?_
  refine an_100 (pc := 30) 64 d_Mo_init_30 rfl rfl (hA 64 (by omega) (by omega)) ?_
  refine ar_putFR (pc := 32) gf_Mo_19 d_Mo_init_32 rfl rfl rfl (by first | rfl | exact sh_wheel (by omega) | exact sh_milk (by omega)) (fun b h => by cases h; omega) ?_
  refine ar_aload_n (pc := 35) d_Mo_init_35 rfl ?_
  refine ar_bipush (pc := 36) d_Mo_init_36 (by decide) ?_
  refine an_100 (pc := 38) 65 d_Mo_init_38 rfl rfl (hA 65 (by omega) (by omega)) ?_
  refine ar_putFR (pc := 40) gf_Mo_22 d_Mo_init_40 rfl rfl rfl (by first | rfl | exact sh_wheel (by omega) | exact sh_milk (by omega)) (fun b h => by cases h; omega) ?_
  refine ar_aload_n (pc := 43) d_Mo_init_43 rfl ?_
  refine ar_bipush (pc := 44) d_Mo_init_44 (by decide) ?_
  refine an_100 (pc := 46) 66 d_Mo_init_46 rfl rfl (hA 66 (by omega) (by omega)) ?_
  refine ar_putFR (pc := 48) gf_Mo_25 d_Mo_init_48 rfl rfl rfl (by first | rfl | exact sh_wheel (by omega) | exact sh_milk (by omega)) (fun b h => by cases h; omega) ?_
  refine ar_aload_n (pc := 51) d_Mo_init_51 rfl ?_
  refine ar_bipush (pc := 52) d_Mo_init_52 (by decide) ?_
  refine an_100 (pc := 54) 67 d_Mo_init_54 rfl rfl (hA 67 (by omega) (by omega)) ?_
  refine ar_putFR (pc := 56) gf_Mo_28 d_Mo_init_56 rfl rfl rfl (by first | rfl | exact sh_wheel (by omega) | exact sh_milk (by omega)) (fun b h => by cases h; omega) ?_
  refine ar_aload_n (pc := 59) d_Mo_init_59 rfl ?_
  refine ar_bipush (pc := 60) d_Mo_init_60 (by decide) ?_
  refine an_100 (pc := 62) 68 d_Mo_init_62 rfl rfl (hA 68 (by omega) (by omega)) ?_
  refine ar_putFR (pc := 64) gf_Mo_31 d_Mo_init_64 rfl rfl rfl (by first | rfl | exact sh_wheel (by omega) | exact sh_milk (by omega)) (fun b h => by cases h; omega) ?_
  refine ar_aload_n (pc := 67) d_Mo_init_67 rfl ?_
  refine ar_bipush (pc := 68) d_Mo_init_68 (by decide) ?_
  refine an_100 (pc := 70) 69 d_Mo_init_70 rfl rfl (hA 69 (by omega) (by omega)) ?_
  refine ar_putFR (pc := 72) gf_Mo_34 d_Mo_init_72 rfl rfl rfl (by first | rfl | exact sh_wheel (by omega) | exact sh_milk (by omega)) (fun b h => by cases h; omega) ?_
  refine ar_aload_n (pc := 75) d_Mo_init_75 rfl ?_
  refine ar_bipush (pc := 76) d_Mo_init_76 (by decide) ?_
  refine an_100 (pc := 78) 70 d_Mo_init_78 rfl rfl (hA 70 (by omega) (by omega)) ?_
  refine ar_putFR (pc := 80) gf_Mo_37 d_Mo_init_80 rfl rfl rfl (by first | rfl | exact sh_wheel (by omega) | exact sh_milk (by omega)) (fun b h => by cases h; omega) ?_
  refine ar_aload_n (pc := 83) d_Mo_init_83 rfl ?_
  refine ar_bipush (pc := 84) d_Mo_init_84 (by decide) ?_
  refine an_100 (pc := 86) 71 d_Mo_init_86 rfl rfl (hA 71 (by omega) (by omega)) ?_
  refine ar_putFR (pc := 88) gf_Mo_40 d_Mo_init_88 rfl rfl rfl (by first | rfl | exact sh_wheel (by omega) | exact sh_milk (by omega)) (fun b h => by cases h; omega) ?_
  refine ar_aload_n (pc := 91) d_Mo_init_91 rfl ?_
  refine ar_bipush (pc := 92) d_Mo_init_92 (by decide) ?_
  refine an_100 (pc := 94) 72 d_Mo_init_94 rfl rfl (hA 72 (by omega) (by omega)) ?_
  refine ar_putFR (pc := 96) gf_Mo_43 d_Mo_init_96 rfl rfl rfl (by first | rfl | exact sh_wheel (by omega) | exact sh_milk (by omega)) (fun b h => by cases h; omega) ?_
  refine ar_aload_n (pc := 99) d_Mo_init_99 rfl ?_
  refine ar_bipush (pc := 100) d_Mo_init_100 (by decide) ?_
  refine an_100 (pc := 102) 73 d_Mo_init_102 rfl rfl (hA 73 (by omega) (by omega)) ?_
  refine ar_putFR (pc := 104) gf_Mo_46 d_Mo_init_104 rfl rfl rfl (by first | rfl | exact sh_wheel (by omega) | exact sh_milk (by omega)) (fun b h => by cases h; omega) ?_
  refine ar_aload_n (pc := 107) d_Mo_init_107 rfl ?_
  refine ar_sipush (pc := 108) d_Mo_init_108 (by decide) ?_
  refine an_102 (pc := 111) 74 d_Mo_init_111 rfl rfl (hA 74 (by omega) (by omega)) ?_
  refine ar_putFR (pc := 113) gf_Mo_49 d_Mo_init_113 rfl rfl rfl (by first | rfl | exact sh_wheel (by omega) | exact sh_milk (by omega)) (fun b h => by cases h; omega) ?_
  refine ar_aload_n (pc := 116) d_Mo_init_116 rfl ?_
  refine ar_sipush (pc := 117) d_Mo_init_117 (by decide) ?_
  refine an_100 (pc := 120) 75 d_Mo_init_120 rfl rfl (hA 75 (by omega) (by omega)) ?_
  refine ar_putFR (pc := 122) gf_Mo_53 d_Mo_init_122 rfl rfl rfl (by first | rfl | exact sh_wheel (by omega) | exact sh_milk (by omega)) (fun b h => by cases h; omega) ?_
  refine ar_aload_n (pc := 125) d_Mo_init_125 rfl ?_
  refine ar_sipush (pc := 126) d_Mo_init_126 (by decide) ?_
  refine an_100 (pc := 129) 76 d_Mo_init_129 rfl rfl (hA 76 (by omega) (by omega)) ?_
  refine ar_putFR (pc := 131) gf_Mo_56 d_Mo_init_131 rfl rfl rfl (by first | rfl | exact sh_wheel (by omega) | exact sh_milk (by omega)) (fun b h => by cases h; omega) ?_
  refine ar_aload_n (pc := 134) d_Mo_init_134 rfl ?_
  refine ar_sipush (pc := 135) d_Mo_init_135 (by decide) ?_
  refine an_100 (pc := 138) 77 d_Mo_init_138 rfl rfl (hA 77 (by omega) (by omega)) ?_
  refine ar_putFR (pc := 140) gf_Mo_59 d_Mo_init_140 rfl rfl rfl (by first | rfl | exact sh_wheel (by omega) | exact sh_milk (by omega)) (fun b h => by cases h; omega) ?_
  refine ar_aload_n (pc := 143) d_Mo_init_143 rfl ?_
  refine ar_sipush (pc := 144) d_Mo_init_144 (by decide) ?_
  refine an_100 (pc := 147) 78 d_Mo_init_147 rfl rfl (hA 78 (by omega) (by omega)) ?_
  refine ar_putFR (pc := 149) gf_Mo_62 d_Mo_init_149 rfl rfl rfl (by first | rfl | exact sh_wheel (by omega) | exact sh_milk (by omega)) (fun b h => by cases h; omega) ?_
  refine ar_aload_n (pc := 152) d_Mo_init_152 rfl ?_
  refine ar_sipush (pc := 153) d_Mo_init_153 (by decide) ?_
  refine an_100 (pc := 156) 79 d_Mo_init_156 rfl rfl (hA 79 (by omega) (by omega)) ?_
  refine ar_putFR (pc := 158) gf_Mo_65 d_Mo_init_158 rfl rfl rfl (by first | rfl | exact sh_wheel (by omega) | exact sh_milk (by omega)) (fun b h => by cases h; omega) ?_
  refine ar_aload_n (pc := 161) d_Mo_init_161 rfl ?_
  refine ar_sipush (pc := 162) d_Mo_init_162 (by decide) ?_
  refine an_100 (pc := 165) 80 d_Mo_init_165 rfl rfl (hA 80 (by omega) (by omega)) ?_
  refine ar_putFR (pc := 167) gf_Mo_68 d_Mo_init_167 rfl rfl rfl (by first | rfl | exact sh_wheel (by omega) | exact sh_milk (by omega)) (fun b h => by cases h; omega) ?_
  refine ar_aload_n (pc := 170) d_Mo_init_170 rfl ?_
  refine ar_bipush (pc := 171) d_Mo_init_171 (by decide) ?_
  refine an_100 (pc := 173) 81 d_Mo_init_173 rfl rfl (hA 81 (by omega) (by omega)) ?_
  refine ar_putFR (pc := 175) gf_Mo_71 d_Mo_init_175 rfl rfl rfl (by first | rfl | exact sh_wheel (by omega) | exact sh_milk (by omega)) (fun b h => by cases h; omega) ?_
  refine ar_aload_n (pc := 178) d_Mo_init_178 rfl ?_
  refine ar_bipush (pc := 179) d_Mo_init_179 (by decide) ?_
  refine an_100 (pc := 181) 82 d_Mo_init_181 rfl rfl (hA 82 (by omega) (by omega)) ?_
  refine ar_putFR (pc := 183) gf_Mo_74 d_Mo_init_183 rfl rfl rfl (by first | rfl | exact sh_wheel (by omega) | exact sh_milk (by omega)) (fun b h => by cases h; omega) ?_
  refine ar_aload_n (pc := 186) d_Mo_init_186 rfl ?_
  refine ar_sipush (pc := 187) d_Mo_init_187 (by decide) ?_
  refine an_100 (pc := 190) 83 d_Mo_init_190 rfl rfl (hA 83 (by omega) (by omega)) ?_
  refine ar_putFR (pc := 192) gf_Mo_77 d_Mo_init_192 rfl rfl rfl (by first | rfl | exact sh_wheel (by omega) | exact sh_milk (by omega)) (fun b h => by cases h; omega) ?_
  refine ar_aload_n (pc := 195) d_Mo_init_195 rfl ?_
  refine ar_sipush (pc := 196) d_Mo_init_196 (by decide) ?_
  refine an_100 (pc := 199) 84 d_Mo_init_199 rfl rfl (hA 84 (by omega) (by omega)) ?_
  refine ar_putFR (pc := 201) gf_Mo_80 d_Mo_init_201 rfl rfl rfl (by first | rfl | exact sh_wheel (by omega) | exact sh_milk (by omega)) (fun b h => by cases h; omega) ?_
  refine ar_aload_n (pc := 204) d_Mo_init_204 rfl ?_
  refine ar_bipush (pc := 205) d_Mo_init_205 (by decide) ?_
  refine an_100 (pc := 207) 85 d_Mo_init_207 rfl rfl (hA 85 (by omega) (by omega)) ?_
  refine ar_putFR (pc := 209) gf_Mo_83 d_Mo_init_209 rfl rfl rfl (by first | rfl | exact sh_wheel (by omega) | exact sh_milk (by omega)) (fun b h => by cases h; omega) ?_
  refine ar_aload_n (pc := 212) d_Mo_init_212 rfl ?_
  refine ar_bipush (pc := 213) d_Mo_init_213 (by decide) ?_
  refine an_100 (pc := 215) 86 d_Mo_init_215 rfl rfl (hA 86 (by omega) (by omega)) ?_
  refine ar_putFR (pc := 217) gf_Mo_86 d_Mo_init_217 rfl rfl rfl (by first | rfl | exact sh_wheel (by omega) | exact sh_milk (by omega)) (fun b h => by cases h; omega) ?_
  refine ar_aload_n (pc := 220) d_Mo_init_220 rfl ?_
  refine ar_sipush (pc := 221) d_Mo_init_221 (by decide) ?_
  refine an_100 (pc := 224) 87 d_Mo_init_224 rfl rfl (hA 87 (by omega) (by omega)) ?_
  refine ar_putFR (pc := 226) gf_Mo_89 d_Mo_init_226 rfl rfl rfl (by first | rfl | exact sh_wheel (by omega) | exact sh_milk (by omega)) (fun b h => by cases h; omega) ?_
  refine ar_aload_n (pc := 229) d_Mo_init_229 rfl ?_
  refine ar_iconst (pc := 230) d_Mo_init_230 ?_
  refine ar_putI (pc := 231) gf_Mo_92 d_Mo_init_231 rfl (by first | rfl | exact sh_wheel (by omega) | exact sh_milk (by omega)) ⟨by omega, by omega⟩ ?_
  refine ar_aload_n (pc := 234) d_Mo_init_234 rfl ?_
  refine ar_sipush (pc := 235) d_Mo_init_235 (by decide) ?_
  refine an_100 (pc := 238) 88 d_Mo_init_238 rfl rfl (hA 88 (by omega) (by omega)) ?_
  refine ar_putFR (pc := 240) gf_Mo_96 d_Mo_init_240 rfl rfl rfl (by first | rfl | exact sh_wheel (by omega) | exact sh_milk (by omega)) (fun b h => by cases h; omega) ?_
  refine ar_aload_n (pc := 243) d_Mo_init_243 rfl ?_
  refine ar_sipush (pc := 244) d_Mo_init_244 (by decide) ?_
  refine an_100 (pc := 247) 89 d_Mo_init_247 rfl rfl (hA 89 (by omega) (by omega)) ?_
  refine ar_putFR (pc := 249) gf_Mo_99 d_Mo_init_249 rfl rfl rfl (by first | rfl | exact sh_wheel (by omega) | exact sh_milk (by omega)) (fun b h => by cases h; omega) ?_
  refine ar_aload_n (pc := 252) d_Mo_init_252 rfl ?_
  refine ar_bipush (pc := 253) d_Mo_init_253 (by decide) ?_
  refine an_100 (pc := 255) 90 d_Mo_init_255 rfl rfl (hA 90 (by omega) (by omega)) ?_
  refine ar_putFR (pc := 257) gf_Mo_102 d_Mo_init_257 rfl rfl rfl (by first | rfl | exact sh_wheel (by omega) | exact sh_milk (by omega)) (fun b h => by cases h; omega) ?_
  refine ar_aload_n (pc := 260) d_Mo_init_260 rfl ?_
  refine ar_iconst (pc := 261) d_Mo_init_261 ?_
  refine an_100 (pc := 262) 91 d_Mo_init_262 rfl rfl (hA 91 (by omega) (by omega)) ?_
  refine ar_putFR (pc := 264) gf_Mo_105 d_Mo_init_264 rfl rfl rfl (by first | rfl | exact sh_wheel (by omega) | exact sh_milk (by omega)) (fun b h => by cases h; omega) ?_
  refine ar_aload_n (pc := 267) d_Mo_init_267 rfl ?_
  refine ar_bipush (pc := 268) d_Mo_init_268 (by decide) ?_
  refine an_100 (pc := 270) 92 d_Mo_init_270 rfl rfl (hA 92 (by omega) (by omega)) ?_
  refine ar_putFR (pc := 272) gf_Mo_108 d_Mo_init_272 rfl rfl rfl (by first | rfl | exact sh_wheel (by omega) | exact sh_milk (by omega)) (fun b h => by cases h; omega) ?_
  refine ar_aload_n (pc := 275) d_Mo_init_275 rfl ?_
  refine ar_bipush (pc := 276) d_Mo_init_276 (by decide) ?_
  refine an_100 (pc := 278) 93 d_Mo_init_278 rfl rfl (hA 93 (by omega) (by omega)) ?_
  refine ar_putFR (pc := 280) gf_Mo_111 d_Mo_init_280 rfl rfl rfl (by first | rfl | exact sh_wheel (by omega) | exact sh_milk (by omega)) (fun b h => by cases h; omega) ?_
  refine ar_aload_n (pc := 283) d_Mo_init_283 rfl ?_
  refine ar_bipush (pc := 284) d_Mo_init_284 (by decide) ?_
  refine an_100 (pc := 286) 94 d_Mo_init_286 rfl rfl (hA 94 (by omega) (by omega)) ?_
  refine ar_putFR (pc := 288) gf_Mo_114 d_Mo_init_288 rfl rfl rfl (by first | rfl | exact sh_wheel (by omega) | exact sh_milk (by omega)) (fun b h => by cases h; omega) ?_
  refine ar_aload_n (pc := 291) d_Mo_init_291 rfl ?_
  refine ar_bipush (pc := 292) d_Mo_init_292 (by decide) ?_
  refine an_100 (pc := 294) 95 d_Mo_init_294 rfl rfl (hA 95 (by omega) (by omega)) ?_
  refine ar_putFR (pc := 296) gf_Mo_117 d_Mo_init_296 rfl rfl rfl (by first | rfl | exact sh_wheel (by omega) | exact sh_milk (by omega)) (fun b h => by cases h; omega) ?_
  refine ar_aload_n (pc := 299) d_Mo_init_299 rfl ?_
  refine ar_bipush (pc := 300) d_Mo_init_300 (by decide) ?_
  refine an_100 (pc := 302) 96 d_Mo_init_302 rfl rfl (hA 96 (by omega) (by omega)) ?_
  refine ar_putFR (pc := 304) gf_Mo_120 d_Mo_init_304 rfl rfl rfl (by first | rfl | exact sh_wheel (by omega) | exact sh_milk (by omega)) (fun b h => by cases h; omega) ?_
  refine ar_aload_n (pc := 307) d_Mo_init_307 rfl ?_
  refine ar_bipush (pc := 308) d_Mo_init_308 (by decide) ?_
  refine an_100 (pc := 310) 97 d_Mo_init_310 rfl rfl (hA 97 (by omega) (by omega)) ?_
  refine ar_putFR (pc := 312) gf_Mo_123 d_Mo_init_312 rfl rfl rfl (by first | rfl | exact sh_wheel (by omega) | exact sh_milk (by omega)) (fun b h => by cases h; omega) ?_
  refine ar_aload_n (pc := 315) d_Mo_init_315 rfl ?_
  refine ar_sipush (pc := 316) d_Mo_init_316 (by decide) ?_
  refine an_100 (pc := 319) 98 d_Mo_init_319 rfl rfl (hA 98 (by omega) (by omega)) ?_
  refine ar_putFR (pc := 321) gf_Mo_126 d_Mo_init_321 rfl rfl rfl (by first | rfl | exact sh_wheel (by omega) | exact sh_milk (by omega)) (fun b h => by cases h; omega) ?_
  refine ar_aload_n (pc := 324) d_Mo_init_324 rfl ?_
  refine ar_sipush (pc := 325) d_Mo_init_325 (by decide) ?_
  refine an_101 (pc := 328) 99 d_Mo_init_328 rfl rfl (hA 99 (by omega) (by omega)) ?_
  refine ar_putFR (pc := 330) gf_Mo_129 d_Mo_init_330 rfl rfl rfl (by first | rfl | exact sh_wheel (by omega) | exact sh_milk (by omega)) (fun b h => by cases h; omega) ?_
  refine ar_aload_n (pc := 333) d_Mo_init_333 rfl ?_
  refine ar_sipush (pc := 334) d_Mo_init_334 (by decide) ?_
  refine an_101 (pc := 337) 100 d_Mo_init_337 rfl rfl (hA 100 (by omega) (by omega)) ?_
  refine ar_putFR (pc := 339) gf_Mo_133 d_Mo_init_339 rfl rfl rfl (by first | rfl | exact sh_wheel (by omega) | exact sh_milk (by omega)) (fun b h => by cases h; omega) ?_
  refine ar_aload_n (pc := 342) d_Mo_init_342 rfl ?_
  refine ar_bipush (pc := 343) d_Mo_init_343 (by decide) ?_
  refine an_100 (pc := 345) 101 d_Mo_init_345 rfl rfl (hA 101 (by omega) (by omega)) ?_
  refine ar_putFR (pc := 347) gf_Mo_136 d_Mo_init_347 rfl rfl rfl (by first | rfl | exact sh_wheel (by omega) | exact sh_milk (by omega)) (fun b h => by cases h; omega) ?_
  refine ar_aload_n (pc := 350) d_Mo_init_350 rfl ?_
  refine ar_bipush (pc := 351) d_Mo_init_351 (by decide) ?_
  refine an_100 (pc := 353) 102 d_Mo_init_353 rfl rfl (hA 102 (by omega) (by omega)) ?_
  refine ar_putFR (pc := 355) gf_Mo_139 d_Mo_init_355 rfl rfl rfl (by first | rfl | exact sh_wheel (by omega) | exact sh_milk (by omega)) (fun b h => by cases h; omega) ?_
  refine ar_aload_n (pc := 358) d_Mo_init_358 rfl ?_
  refine ar_bipush (pc := 359) d_Mo_init_359 (by decide) ?_
  refine an_100 (pc := 361) 103 d_Mo_init_361 rfl rfl (hA 103 (by omega) (by omega)) ?_
  refine ar_putFR (pc := 363) gf_Mo_142 d_Mo_init_363 rfl rfl rfl (by first | rfl | exact sh_wheel (by omega) | exact sh_milk (by omega)) (fun b h => by cases h; omega) ?_
  refine ar_aload_n (pc := 366) d_Mo_init_366 rfl ?_
  refine ar_bipush (pc := 367) d_Mo_init_367 (by decide) ?_
  refine an_100 (pc := 369) 104 d_Mo_init_369 rfl rfl (hA 104 (by omega) (by omega)) ?_
  refine ar_putFR (pc := 371) gf_Mo_145 d_Mo_init_371 rfl rfl rfl (by first | rfl | exact sh_wheel (by omega) | exact sh_milk (by omega)) (fun b h => by cases h; omega) ?_
  refine ar_aload_n (pc := 374) d_Mo_init_374 rfl ?_
  refine ar_bipush (pc := 375) d_Mo_init_375 (by decide) ?_
  refine an_100 (pc := 377) 105 d_Mo_init_377 rfl rfl (hA 105 (by omega) (by omega)) ?_
  refine ar_putFR (pc := 379) gf_Mo_148 d_Mo_init_379 rfl rfl rfl (by first | rfl | exact sh_wheel (by omega) | exact sh_milk (by omega)) (fun b h => by cases h; omega) ?_
  refine ar_aload_n (pc := 382) d_Mo_init_382 rfl ?_
  refine ar_iconst (pc := 383) d_Mo_init_383 ?_
  refine an_100 (pc := 384) 106 d_Mo_init_384 rfl rfl (hA 106 (by omega) (by omega)) ?_
  refine ar_putFR (pc := 386) gf_Mo_151 d_Mo_init_386 rfl rfl rfl (by first | rfl | exact sh_wheel (by omega) | exact sh_milk (by omega)) (fun b h => by cases h; omega) ?_
  refine ar_ret (pc := 389) d_Mo_init_389 rfl ?_
  rotate_left
  -- leaves: ret 389
  · exact ⟨rfl, rfl⟩
