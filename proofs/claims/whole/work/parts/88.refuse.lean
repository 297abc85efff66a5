/-! ===== refused calls make nothing ===== -/
theorem cm_K_milk_n (X : gx_T) (d : Nat) (G : mm_T) {f l : Int} (hF : fx_R G) (hf : i3_in f) (hl : i3_in l) {c : Nat} (hc : mm_I G 0 13 = c) (hc2 : c ≤ 30) (hN : ¬ (c < 30 ∧ 0 ≤ f ∧ f ≤ 99 ∧ 1 ≤ l ∧ l ≤ 1000)) : aw_M X (d + 2) mt_K_milk [av_r (some 0), av_i f, av_i l] G 0 0 (fun r G' => r = some (av_i (-1)) ∧ G' = G) := by
  refine aw_enter pf_K_milk (Nat.le_of_ble_eq_true rfl) ?_
  refine ar_iload_n (pc := 0) d_K_milk_0 rfl ?_
  refine ar_bipush (pc := 1) d_K_milk_1 (by decide) ?_
  refine ac_stat (pc := 3) (N := mt_K_isUpTo) _ _ sv_K_isUpTo ml_K_87 d_K_milk_3 (cm_K_isUpTo _ _ _ ⟨by omega, by omega⟩ ⟨by omega, by omega⟩) rfl rfl (Nat.le_of_ble_eq_true rfl) (Nat.le_of_eq (Nat.zero_add _)) (Nat.le_of_eq (Nat.zero_add _)) (fun r_3 G_3 h_3 => ?_)
  obtain ⟨rfl, e_3⟩ := h_3
  subst G_3
  refine ar_if_eq (pc := 6) 25 d_K_milk_6 (by decide) ⟨by omega, by omega⟩ (fun h_6 => ?_) (fun h_6 => ?_)
  refine ar_iconst (pc := 25) d_K_milk_25 ?_
  refine ar_istore_n (pc := 26) d_K_milk_26 rfl (by decide) ?_
  refine ar_iload_n (pc := 27) d_K_milk_27 rfl ?_
  refine ar_if_eq (pc := 28) 40 d_K_milk_28 (by decide) ⟨by omega, by omega⟩ (fun h_28 => ?_) (fun h_28 => by exfalso; omega)
  refine ar_iconst (pc := 40) d_K_milk_40 ?_
  refine ar_iret (pc := 41) d_K_milk_41 rfl ?_
  rotate_left
  refine ar_iload_n (pc := 9) d_K_milk_9 rfl ?_
  refine ar_iconst (pc := 10) d_K_milk_10 ?_
  refine ar_icmp_lt (pc := 11) 25 d_K_milk_11 (by decide) ⟨by omega, by omega⟩ ⟨by omega, by omega⟩ (fun h_11 => ?_) (fun h_11 => ?_)
  refine ar_iconst (pc := 25) d_K_milk_25 ?_
  refine ar_istore_n (pc := 26) d_K_milk_26 rfl (by decide) ?_
  refine ar_iload_n (pc := 27) d_K_milk_27 rfl ?_
  refine ar_if_eq (pc := 28) 40 d_K_milk_28 (by decide) ⟨by omega, by omega⟩ (fun h_28 => ?_) (fun h_28 => by exfalso; omega)
  refine ar_iconst (pc := 40) d_K_milk_40 ?_
  refine ar_iret (pc := 41) d_K_milk_41 rfl ?_
  rotate_left
  refine ar_iload_n (pc := 14) d_K_milk_14 rfl ?_
  refine ar_sipush (pc := 15) d_K_milk_15 (by decide) ?_
  refine ar_icmp_gt (pc := 18) 25 d_K_milk_18 (by decide) ⟨by omega, by omega⟩ ⟨by omega, by omega⟩ (fun h_18 => ?_) (fun h_18 => ?_)
  refine ar_iconst (pc := 25) d_K_milk_25 ?_
  refine ar_istore_n (pc := 26) d_K_milk_26 rfl (by decide) ?_
  refine ar_iload_n (pc := 27) d_K_milk_27 rfl ?_
  refine ar_if_eq (pc := 28) 40 d_K_milk_28 (by decide) ⟨by omega, by omega⟩ (fun h_28 => ?_) (fun h_28 => by exfalso; omega)
  refine ar_iconst (pc := 40) d_K_milk_40 ?_
  refine ar_iret (pc := 41) d_K_milk_41 rfl ?_
  rotate_left
  refine ar_iconst (pc := 21) d_K_milk_21 ?_
  refine ar_goto (pc := 22) 26 d_K_milk_22 (by decide) ?_
  refine ar_istore_n (pc := 26) d_K_milk_26 rfl (by decide) ?_
  refine ar_iload_n (pc := 27) d_K_milk_27 rfl ?_
  refine ar_if_eq (pc := 28) 40 d_K_milk_28 (by decide) ⟨by omega, by omega⟩ (fun h_28 => by exfalso; omega) (fun h_28 => ?_)
  refine ar_aload_n (pc := 31) d_K_milk_31 rfl ?_
  refine ar_getIv (pc := 32) gf_K_100 d_K_milk_32 (by first | rfl | exact sh_wheel (by omega) | exact sh_milk (by omega)) hc (fun r_32 => ?_)
  refine ar_bipush (pc := 35) d_K_milk_35 (by decide) ?_
  refine ar_icmp_lt (pc := 37) 42 d_K_milk_37 (by decide) ⟨by omega, by omega⟩ ⟨by omega, by omega⟩ (fun h_37 => ?_) (fun h_37 => ?_)
  refine ar_aload_n (pc := 42) d_K_milk_42 rfl ?_
  refine ar_getR (pc := 43) gf_K_18 d_K_milk_43 (by first | rfl | exact sh_wheel (by omega) | exact sh_milk (by omega)) (hF _ _ _ rfl) ?_
  refine ar_aload_n (pc := 46) d_K_milk_46 rfl ?_
  refine ar_getIv (pc := 47) gf_K_100 d_K_milk_47 (by first | rfl | exact sh_wheel (by omega) | exact sh_milk (by omega)) hc (fun r_47 => ?_)
  rotate_left
  refine ar_iconst (pc := 40) d_K_milk_40 ?_
  refine ar_iret (pc := 41) d_K_milk_41 rfl ?_
  rotate_left
  -- leaves: ret 41, ret 41, ret 41, stop 50, ret 41
  all_goals first | exact ⟨rfl, rfl⟩ | (exfalso; omega)
theorem cm_K_wheel_n (X : gx_T) (d : Nat) (G : mm_T) {kd s m1 l1 m2 l2 m3 l3 : Int} {w c : Nat} (hF : fx_R G) (hW : fx_W G) (hwc : mm_I G 0 14 = w) (hw : w ≤ 40) (h0 : i3_in kd) (hs : i3_in s) (h1 : i3_in m1) (h2 : i3_in l1) (h3 : i3_in m2) (h4 : i3_in l2) (h5 : i3_in m3) (h6 : i3_in l3) (hc : mm_I G 12 4 = c) (hc2 : c ≤ 200) (hly : ∀ k, k < 24 → 0 ≤ mm_I G 4 k ∧ mm_I G 4 k ≤ 4) (hN : ¬ (w < 40 ∧ c < 200 ∧ (0 ≤ kd ∧ kd ≤ 2) ∧ (0 ≤ s ∧ s ≤ 23 ∧ mm_I G 4 s.toNat < 4) ∧ m1 ≠ -1 ∧ xu_am G m1 l1 m2 l2 m3 l3)) :
    aw_M X (d + 5) mt_K_wheel [av_r (some 0), av_i kd, av_i s, av_i m1, av_i l1, av_i m2, av_i l2, av_i m3, av_i l3] G 0 0 (fun r G' => r = some (av_i (-1)) ∧ G' = xu_v G m1 l1 m2 l2 m3 l3) := by
  have hF' : fx_R (xu_v G m1 l1 m2 l2 m3 l3) := hF
  have hW' : fx_W (xu_v G m1 l1 m2 l2 m3 l3) := hW
  have hW1 := hW.1
  have am := cm_K_areMilksThere X (d + 1) (xu_v G m1 l1 m2 l2 m3 l3) hF' hW'
  rw [bv_e (xu_eq G m1 l1 m2 l2 m3 l3)] at am
  generalize hP : xu_am G m1 l1 m2 l2 m3 l3 = P at am hN
  have r1 := bv_r P
  have hU : ms_I (ms_I (ms_I (ms_I (ms_I (ms_I G 40 0 m1) 40 1 m2) 40 2 m3) 41 0 l1) 41 1 l2) 41 2 l3 = xu_v G m1 l1 m2 l2 m3 l3 := rfl
  have e12 : mm_I (xu_v G m1 l1 m2 l2 m3 l3) 12 4 = (c : Int) := hc
  have e4 : mm_I (xu_v G m1 l1 m2 l2 m3 l3) 4 s.toNat = mm_I G 4 s.toNat := rfl
  refine aw_enter pf_K_wheel (Nat.le_of_ble_eq_true rfl) ?_
  refine ar_aload_n (pc := 0) d_K_wheel_0 rfl ?_
  refine ar_getR (pc := 1) gf_K_70 d_K_wheel_1 (by first | rfl | exact sh_wheel (by omega) | exact sh_milk (by omega)) (hF _ _ _ rfl) ?_
  refine ar_iconst (pc := 4) d_K_wheel_4 ?_
  refine ar_iload_n (pc := 5) d_K_wheel_5 rfl ?_
  refine ar_iast (pc := 6) d_K_wheel_6 rfl (0) (by omega) (by omega) ⟨by omega, by omega⟩ ?_
  refine ar_aload_n (pc := 7) d_K_wheel_7 rfl ?_
  refine ar_getR (pc := 8) gf_K_70 d_K_wheel_8 (by first | rfl | exact sh_wheel (by omega) | exact sh_milk (by omega)) (hF _ _ _ rfl) ?_
  refine ar_iconst (pc := 11) d_K_wheel_11 ?_
  refine ar_iload (pc := 12) d_K_wheel_12 rfl ?_
  refine ar_iast (pc := 14) d_K_wheel_14 rfl (1) (by omega) (by omega) ⟨by omega, by omega⟩ ?_
  refine ar_aload_n (pc := 15) d_K_wheel_15 rfl ?_
  refine ar_getR (pc := 16) gf_K_70 d_K_wheel_16 (by first | rfl | exact sh_wheel (by omega) | exact sh_milk (by omega)) (hF _ _ _ rfl) ?_
  refine ar_iconst (pc := 19) d_K_wheel_19 ?_
  refine ar_iload (pc := 20) d_K_wheel_20 rfl ?_
  refine ar_iast (pc := 22) d_K_wheel_22 rfl (2) (by omega) (by omega) ⟨by omega, by omega⟩ ?_
  refine ar_aload_n (pc := 23) d_K_wheel_23 rfl ?_
  refine ar_getR (pc := 24) gf_K_74 d_K_wheel_24 (by first | rfl | exact sh_wheel (by omega) | exact sh_milk (by omega)) (hF _ _ _ rfl) ?_
  refine ar_iconst (pc := 27) d_K_wheel_27 ?_
  refine ar_iload (pc := 28) d_K_wheel_28 rfl ?_
  refine ar_iast (pc := 30) d_K_wheel_30 rfl (0) (by omega) (by omega) ⟨by omega, by omega⟩ ?_
  refine ar_aload_n (pc := 31) d_K_wheel_31 rfl ?_
  refine ar_getR (pc := 32) gf_K_74 d_K_wheel_32 (by first | rfl | exact sh_wheel (by omega) | exact sh_milk (by omega)) (hF _ _ _ rfl) ?_
  refine ar_iconst (pc := 35) d_K_wheel_35 ?_
  refine ar_iload (pc := 36) d_K_wheel_36 rfl ?_
  refine ar_iast (pc := 38) d_K_wheel_38 rfl (1) (by omega) (by omega) ⟨by omega, by omega⟩ ?_
  refine ar_aload_n (pc := 39) d_K_wheel_39 rfl ?_
  refine ar_getR (pc := 40) gf_K_74 d_K_wheel_40 (by first | rfl | exact sh_wheel (by omega) | exact sh_milk (by omega)) (hF _ _ _ rfl) ?_
  refine ar_iconst (pc := 43) d_K_wheel_43 ?_
  refine ar_iload (pc := 44) d_K_wheel_44 rfl ?_
  refine ar_iast (pc := 46) d_K_wheel_46 rfl (2) (by omega) (by omega) ⟨by omega, by omega⟩ ?_
  rw [hU]
  refine ar_iload_n (pc := 47) d_K_wheel_47 rfl ?_
  refine ar_iconst (pc := 48) d_K_wheel_48 ?_
  refine ac_stat (pc := 49) (N := mt_K_isUpTo) _ _ sv_K_isUpTo ml_K_87 d_K_wheel_49 (cm_K_isUpTo _ _ _ ⟨by omega, by omega⟩ ⟨by omega, by omega⟩) rfl rfl (Nat.le_of_ble_eq_true rfl) (Nat.le_of_eq (Nat.zero_add _)) (Nat.le_of_eq (Nat.zero_add _)) (fun r_49 G_49 h_49 => ?_)
  obtain ⟨rfl, e_49⟩ := h_49
  subst G_49
  refine ar_if_eq (pc := 52) 82 d_K_wheel_52 (by decide) ⟨by omega, by omega⟩ (fun h_52 => ?_) (fun h_52 => ?_)
  refine ar_iconst (pc := 82) d_K_wheel_82 ?_
  refine ar_istore (pc := 83) d_K_wheel_83 rfl (by decide) ?_
  refine ar_iload (pc := 85) d_K_wheel_85 rfl ?_
  refine ar_if_eq (pc := 87) 110 d_K_wheel_87 (by decide) ⟨by omega, by omega⟩ (fun h_87 => ?_) (fun h_87 => by exfalso; omega)
  refine ar_iconst (pc := 110) d_K_wheel_110 ?_
  refine ar_iret (pc := 111) d_K_wheel_111 rfl ?_
  rotate_left
  refine ar_aload_n (pc := 55) d_K_wheel_55 rfl ?_
  refine ar_getR (pc := 56) gf_K_10 d_K_wheel_56 (by first | rfl | exact sh_wheel (by omega) | exact sh_milk (by omega)) (hF _ _ _ rfl) ?_
  refine ar_iload_n (pc := 59) d_K_wheel_59 rfl ?_
  refine ac_virt (pc := 60) (N := mt_Sh_hasRoom) _ _ mv_Sh_hasRoom ml_K_107 ck_6 d_K_wheel_60 (cm_Sh_hasRoom _ _ _ (by exact hF) hs (by exact hly)) (by first | rfl | exact sh_wheel (by omega) | exact sh_milk (by omega)) rfl rfl (Nat.le_of_ble_eq_true rfl) (Nat.le_of_eq (Nat.zero_add _)) (Nat.le_of_eq (Nat.zero_add _)) (fun r_60 G_60 h_60 => ?_)
  obtain ⟨rfl, e_60⟩ := h_60
  subst G_60
  refine ar_if_eq (pc := 63) 82 d_K_wheel_63 (by decide) ⟨by omega, by omega⟩ (fun h_63 => ?_) (fun h_63 => ?_)
  refine ar_iconst (pc := 82) d_K_wheel_82 ?_
  refine ar_istore (pc := 83) d_K_wheel_83 rfl (by decide) ?_
  refine ar_iload (pc := 85) d_K_wheel_85 rfl ?_
  refine ar_if_eq (pc := 87) 110 d_K_wheel_87 (by decide) ⟨by omega, by omega⟩ (fun h_87 => ?_) (fun h_87 => by exfalso; omega)
  refine ar_iconst (pc := 110) d_K_wheel_110 ?_
  refine ar_iret (pc := 111) d_K_wheel_111 rfl ?_
  rotate_left
  refine ar_iload_n (pc := 66) d_K_wheel_66 rfl ?_
  refine ar_iconst (pc := 67) d_K_wheel_67 ?_
  refine ar_icmp_eq (pc := 68) 82 d_K_wheel_68 (by decide) ⟨by omega, by omega⟩ ⟨by omega, by omega⟩ (fun h_68 => ?_) (fun h_68 => ?_)
  refine ar_iconst (pc := 82) d_K_wheel_82 ?_
  refine ar_istore (pc := 83) d_K_wheel_83 rfl (by decide) ?_
  refine ar_iload (pc := 85) d_K_wheel_85 rfl ?_
  refine ar_if_eq (pc := 87) 110 d_K_wheel_87 (by decide) ⟨by omega, by omega⟩ (fun h_87 => ?_) (fun h_87 => by exfalso; omega)
  refine ar_iconst (pc := 110) d_K_wheel_110 ?_
  refine ar_iret (pc := 111) d_K_wheel_111 rfl ?_
  rotate_left
  refine ar_aload_n (pc := 71) d_K_wheel_71 rfl ?_
  refine ac_virt (pc := 72) (N := mt_K_areMilksThere) _ _ mv_K_areMilksThere ml_K_111 ck_11 d_K_wheel_72 am (by first | rfl | exact sh_wheel (by omega) | exact sh_milk (by omega)) rfl rfl (Nat.le_of_ble_eq_true rfl) (Nat.le_of_eq (Nat.zero_add _)) (Nat.le_of_eq (Nat.zero_add _)) (fun r_72 G_72 h_72 => ?_)
  obtain ⟨rfl, e_72⟩ := h_72
  subst G_72
  refine ar_if_eq (pc := 75) 82 d_K_wheel_75 (by decide) ⟨by omega, by omega⟩ (fun h_75 => ?_) (fun h_75 => ?_)
  refine ar_iconst (pc := 82) d_K_wheel_82 ?_
  refine ar_istore (pc := 83) d_K_wheel_83 rfl (by decide) ?_
  refine ar_iload (pc := 85) d_K_wheel_85 rfl ?_
  refine ar_if_eq (pc := 87) 110 d_K_wheel_87 (by decide) ⟨by omega, by omega⟩ (fun h_87 => ?_) (fun h_87 => by exfalso; omega)
  refine ar_iconst (pc := 110) d_K_wheel_110 ?_
  refine ar_iret (pc := 111) d_K_wheel_111 rfl ?_
  rotate_left
  refine ar_iconst (pc := 78) d_K_wheel_78 ?_
  refine ar_goto (pc := 79) 83 d_K_wheel_79 (by decide) ?_
  refine ar_istore (pc := 83) d_K_wheel_83 rfl (by decide) ?_
  refine ar_iload (pc := 85) d_K_wheel_85 rfl ?_
  refine ar_if_eq (pc := 87) 110 d_K_wheel_87 (by decide) ⟨by omega, by omega⟩ (fun h_87 => by exfalso; omega) (fun h_87 => ?_)
  refine ar_aload_n (pc := 90) d_K_wheel_90 rfl ?_
  refine ar_getIv (pc := 91) gf_K_115 d_K_wheel_91 (by first | rfl | exact sh_wheel (by omega) | exact sh_milk (by omega)) hwc (fun r_91 => ?_)
  refine ar_bipush (pc := 94) d_K_wheel_94 (by decide) ?_
  refine ar_icmp_ge (pc := 96) 110 d_K_wheel_96 (by decide) ⟨by omega, by omega⟩ ⟨by omega, by omega⟩ (fun h_96 => ?_) (fun h_96 => ?_)
  refine ar_iconst (pc := 110) d_K_wheel_110 ?_
  refine ar_iret (pc := 111) d_K_wheel_111 rfl ?_
  rotate_left
  refine ar_aload_n (pc := 99) d_K_wheel_99 rfl ?_
  refine ar_getR (pc := 100) gf_K_38 d_K_wheel_100 (by first | rfl | exact sh_wheel (by omega) | exact sh_milk (by omega)) (hF _ _ _ rfl) ?_
  refine ar_iconst (pc := 103) d_K_wheel_103 ?_
  refine ac_virt (pc := 104) (N := mt_St_haveRoomFor) _ _ mv_St_haveRoomFor ml_K_118 ck_7 d_K_wheel_104 (cm_St_haveRoomFor _ _ _ ⟨by omega, by omega⟩ (by rw [show mm_I (xu_v G m1 l1 m2 l2 m3 l3) 12 4 = (c : Int) from hc]; omega)) (by first | rfl | exact sh_wheel (by omega) | exact sh_milk (by omega)) rfl rfl (Nat.le_of_ble_eq_true rfl) (Nat.le_of_eq (Nat.zero_add _)) (Nat.le_of_eq (Nat.zero_add _)) (fun r_104 G_104 h_104 => ?_)
  obtain ⟨rfl, e_104⟩ := h_104
  subst G_104
  refine ar_if_ne (pc := 107) 112 d_K_wheel_107 (by decide) ⟨by omega, by omega⟩ (fun h_107 => ?_) (fun h_107 => ?_)
  refine ar_aload_n (pc := 112) d_K_wheel_112 rfl ?_
  refine ar_iload_n (pc := 113) d_K_wheel_113 rfl ?_
  refine ar_iload_n (pc := 114) d_K_wheel_114 rfl ?_
  rotate_left
  refine ar_iconst (pc := 110) d_K_wheel_110 ?_
  refine ar_iret (pc := 111) d_K_wheel_111 rfl ?_
  rotate_left
  -- leaves: ret 111, ret 111, ret 111, ret 111, ret 111, stop 115, ret 111
  all_goals first | exact ⟨rfl, rfl⟩ | skip
  all_goals exact absurd ⟨by omega, by omega, by omega, by omega, by omega, bv_n h_75⟩ hN
