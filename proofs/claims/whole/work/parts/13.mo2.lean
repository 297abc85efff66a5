/-! ===== the reference: suits, moves, wheels, marks ===== -/
theorem lp_Mo_doesSuit (X : gx_T) (d : Nat) (G : mm_T) {w kd : Nat} {s age : Int} (hF : fx_R G) (hw : w < 40) (hk : mm_I G 66 w = kd) (hk2 : kd ≤ 2) (hs : 0 ≤ s ∧ s ≤ 23) (hage : mm_I G 60 0 - mm_I G 71 w = age) (hag : i3_in age) {c : Nat} (hc : mm_I G 91 kd = c) (hc4 : c ≤ 4) : ∀ n i, i + n = c → aw_W X mt_Mo_doesSuit (d + 1) 5 [(0, some (av_r (some 60))), (1, some (av_i (w : Int))), (2, some (av_i s)), (3, some (av_i (bd_best (mm_I G 92) age (4 * kd) i))), (4, some (av_i (i : Int)))] [] G 0 0 (fun r G' => r = some (av_i (bv_p (bd_best (mm_I G 92) age (4 * kd) c < 0 ∨ (mm_I G 93 (bd_best (mm_I G 92) age (4 * kd) c).toNat ≤ mm_I G 61 s.toNat ∧ mm_I G 61 s.toNat ≤ mm_I G 94 (bd_best (mm_I G 92) age (4 * kd) c).toNat)))) ∧ G' = G) := by
  intro n
  induction n with
  | zero =>
    intro i hi
    have hi : i = c := by omega
    subst hi
    have hb := bd_rng (mm_I G 92) age (4 * kd) i
    refine ar_iload (pc := 5) d_Mo_doesSuit_5 rfl ?_
    refine ar_aload_n (pc := 7) d_Mo_doesSuit_7 rfl ?_
    refine ar_getR (pc := 8) gf_Mo_105 d_Mo_doesSuit_8 (by first | rfl | exact sh_wheel (by omega) | exact sh_milk (by omega)) (hF _ _ _ rfl) ?_
    refine ar_aload_n (pc := 11) d_Mo_doesSuit_11 rfl ?_
    refine ar_getR (pc := 12) gf_Mo_25 d_Mo_doesSuit_12 (by first | rfl | exact sh_wheel (by omega) | exact sh_milk (by omega)) (hF _ _ _ rfl) ?_
    refine ar_iload_n (pc := 15) d_Mo_doesSuit_15 rfl ?_
    refine ar_ialdv (pc := 16) d_Mo_doesSuit_16 rfl (w) (by omega) (by omega) hk (fun r_16 => ?_)
    refine ar_ialdv (pc := 17) d_Mo_doesSuit_17 rfl (kd) (by omega) (by omega) hc (fun r_17 => ?_)
    refine ar_icmp_ge (pc := 18) 84 d_Mo_doesSuit_18 (by decide) ⟨by omega, by omega⟩ ⟨by omega, by omega⟩ (fun h_18 => ?_) (fun h_18 => by exfalso; omega)
    refine ar_iload_n (pc := 84) d_Mo_doesSuit_84 rfl ?_
    refine ar_if_lt (pc := 85) 118 d_Mo_doesSuit_85 (by decide) ⟨by omega, by omega⟩ (fun h_85 => ?_) (fun h_85 => ?_)
    refine ar_iconst (pc := 118) d_Mo_doesSuit_118 ?_
    refine ar_goto (pc := 119) 123 d_Mo_doesSuit_119 (by decide) ?_
    refine ar_zret (pc := 123) d_Mo_doesSuit_123 rfl (by omega) ?_
    rotate_left
    refine ar_aload_n (pc := 88) d_Mo_doesSuit_88 rfl ?_
    refine ar_getR (pc := 89) gf_Mo_7 d_Mo_doesSuit_89 (by first | rfl | exact sh_wheel (by omega) | exact sh_milk (by omega)) (hF _ _ _ rfl) ?_
    refine ar_iload_n (pc := 92) d_Mo_doesSuit_92 rfl ?_
    refine ar_iald (pc := 93) d_Mo_doesSuit_93 rfl _ (Int.toNat_of_nonneg (by omega)).symm (by omega) (fun r_93 => ?_)
    refine ar_aload_n (pc := 94) d_Mo_doesSuit_94 rfl ?_
    refine ar_getR (pc := 95) gf_Mo_111 d_Mo_doesSuit_95 (by first | rfl | exact sh_wheel (by omega) | exact sh_milk (by omega)) (hF _ _ _ rfl) ?_
    refine ar_iload_n (pc := 98) d_Mo_doesSuit_98 rfl ?_
    refine ar_iald (pc := 99) d_Mo_doesSuit_99 rfl _ (Int.toNat_of_nonneg (by omega)).symm (by omega) (fun r_99 => ?_)
    refine ar_icmp_lt (pc := 100) 122 d_Mo_doesSuit_100 (by decide) ⟨by omega, by omega⟩ ⟨by omega, by omega⟩ (fun h_100 => ?_) (fun h_100 => ?_)
    refine ar_iconst (pc := 122) d_Mo_doesSuit_122 ?_
    refine ar_zret (pc := 123) d_Mo_doesSuit_123 rfl (by omega) ?_
    rotate_left
    refine ar_aload_n (pc := 103) d_Mo_doesSuit_103 rfl ?_
    refine ar_getR (pc := 104) gf_Mo_7 d_Mo_doesSuit_104 (by first | rfl | exact sh_wheel (by omega) | exact sh_milk (by omega)) (hF _ _ _ rfl) ?_
    refine ar_iload_n (pc := 107) d_Mo_doesSuit_107 rfl ?_
    refine ar_iald (pc := 108) d_Mo_doesSuit_108 rfl _ (Int.toNat_of_nonneg (by omega)).symm (by omega) (fun r_108 => ?_)
    refine ar_aload_n (pc := 109) d_Mo_doesSuit_109 rfl ?_
    refine ar_getR (pc := 110) gf_Mo_114 d_Mo_doesSuit_110 (by first | rfl | exact sh_wheel (by omega) | exact sh_milk (by omega)) (hF _ _ _ rfl) ?_
    refine ar_iload_n (pc := 113) d_Mo_doesSuit_113 rfl ?_
    refine ar_iald (pc := 114) d_Mo_doesSuit_114 rfl _ (Int.toNat_of_nonneg (by omega)).symm (by omega) (fun r_114 => ?_)
    refine ar_icmp_gt (pc := 115) 122 d_Mo_doesSuit_115 (by decide) ⟨by omega, by omega⟩ ⟨by omega, by omega⟩ (fun h_115 => ?_) (fun h_115 => ?_)
    refine ar_iconst (pc := 122) d_Mo_doesSuit_122 ?_
    refine ar_zret (pc := 123) d_Mo_doesSuit_123 rfl (by omega) ?_
    rotate_left
    refine ar_iconst (pc := 118) d_Mo_doesSuit_118 ?_
    refine ar_goto (pc := 119) 123 d_Mo_doesSuit_119 (by decide) ?_
    refine ar_zret (pc := 123) d_Mo_doesSuit_123 rfl (by omega) ?_
    rotate_left
    -- leaves: ret 123, ret 123, ret 123, ret 123
    all_goals (refine ⟨congrArg (fun x => some (av_i x)) ?_, rfl⟩)
    all_goals first | exact bv_1 (by omega) | exact bv_0 (by omega)
  | succ n ih =>
    intro i hi
    have hb := bd_rng (mm_I G 92) age (4 * kd) i
    have ih1 := ih (i + 1) (by omega)
    rw [bd_best] at ih1
    refine ar_iload (pc := 5) d_Mo_doesSuit_5 rfl ?_
    refine ar_aload_n (pc := 7) d_Mo_doesSuit_7 rfl ?_
    refine ar_getR (pc := 8) gf_Mo_105 d_Mo_doesSuit_8 (by first | rfl | exact sh_wheel (by omega) | exact sh_milk (by omega)) (hF _ _ _ rfl) ?_
    refine ar_aload_n (pc := 11) d_Mo_doesSuit_11 rfl ?_
    refine ar_getR (pc := 12) gf_Mo_25 d_Mo_doesSuit_12 (by first | rfl | exact sh_wheel (by omega) | exact sh_milk (by omega)) (hF _ _ _ rfl) ?_
    refine ar_iload_n (pc := 15) d_Mo_doesSuit_15 rfl ?_
    refine ar_ialdv (pc := 16) d_Mo_doesSuit_16 rfl (w) (by omega) (by omega) hk (fun r_16 => ?_)
    refine ar_ialdv (pc := 17) d_Mo_doesSuit_17 rfl (kd) (by omega) (by omega) hc (fun r_17 => ?_)
    refine ar_icmp_ge (pc := 18) 84 d_Mo_doesSuit_18 (by decide) ⟨by omega, by omega⟩ ⟨by omega, by omega⟩ (fun h_18 => by exfalso; omega) (fun h_18 => ?_)
    refine ar_iconst (pc := 21) d_Mo_doesSuit_21 ?_
    refine ar_aload_n (pc := 22) d_Mo_doesSuit_22 rfl ?_
    refine ar_getR (pc := 23) gf_Mo_25 d_Mo_doesSuit_23 (by first | rfl | exact sh_wheel (by omega) | exact sh_milk (by omega)) (hF _ _ _ rfl) ?_
    refine ar_iload_n (pc := 26) d_Mo_doesSuit_26 rfl ?_
    refine ar_ialdv (pc := 27) d_Mo_doesSuit_27 rfl (w) (by omega) (by omega) hk (fun r_27 => ?_)
    refine ar_imul (pc := 28) d_Mo_doesSuit_28 ?_
    refine ar_iload (pc := 29) d_Mo_doesSuit_29 rfl ?_
    refine ar_iadd (pc := 31) d_Mo_doesSuit_31 ?_
    refine ar_istore (pc := 32) d_Mo_doesSuit_32 rfl (by decide) ?_
    refine ar_aload_n (pc := 34) d_Mo_doesSuit_34 rfl ?_
    refine ar_getR (pc := 35) gf_Mo_108 d_Mo_doesSuit_35 (by first | rfl | exact sh_wheel (by omega) | exact sh_milk (by omega)) (hF _ _ _ rfl) ?_
    refine ar_iload (pc := 38) d_Mo_doesSuit_38 rfl ?_
    refine ar_iald (pc := 40) d_Mo_doesSuit_40 rfl (4*kd+i) (by omega) (by omega) (fun r_40 => ?_)
    refine ar_aload_n (pc := 41) d_Mo_doesSuit_41 rfl ?_
    refine ar_getI (pc := 42) gf_Mo_171 d_Mo_doesSuit_42 (by first | rfl | exact sh_wheel (by omega) | exact sh_milk (by omega)) (fun r_42 => ?_)
    refine ar_aload_n (pc := 45) d_Mo_doesSuit_45 rfl ?_
    refine ar_getR (pc := 46) gf_Mo_40 d_Mo_doesSuit_46 (by first | rfl | exact sh_wheel (by omega) | exact sh_milk (by omega)) (hF _ _ _ rfl) ?_
    refine ar_iload_n (pc := 49) d_Mo_doesSuit_49 rfl ?_
    refine ar_iald (pc := 50) d_Mo_doesSuit_50 rfl (w) (by omega) (by omega) (fun r_50 => ?_)
    refine ar_isub (pc := 51) d_Mo_doesSuit_51 ?_
    refine ar_icmp_gt (pc := 52) 78 d_Mo_doesSuit_52 (by decide) ⟨by omega, by omega⟩ ⟨by omega, by omega⟩ (fun h_52 => ?_) (fun h_52 => ?_)
    refine ar_iinc (pc := 78) d_Mo_doesSuit_78 rfl rfl (by decide) ?_
    refine ar_goto (pc := 81) 5 d_Mo_doesSuit_81 (by decide) ?_
    rotate_left
    refine ar_iload_n (pc := 55) d_Mo_doesSuit_55 rfl ?_
    refine ar_if_lt (pc := 56) 75 d_Mo_doesSuit_56 (by decide) ⟨by omega, by omega⟩ (fun h_56 => ?_) (fun h_56 => ?_)
    refine ar_iload (pc := 75) d_Mo_doesSuit_75 rfl ?_
    refine ar_istore_n (pc := 77) d_Mo_doesSuit_77 rfl (by decide) ?_
    refine ar_iinc (pc := 78) d_Mo_doesSuit_78 rfl rfl (by decide) ?_
    refine ar_goto (pc := 81) 5 d_Mo_doesSuit_81 (by decide) ?_
    rotate_left
    refine ar_aload_n (pc := 59) d_Mo_doesSuit_59 rfl ?_
    refine ar_getR (pc := 60) gf_Mo_108 d_Mo_doesSuit_60 (by first | rfl | exact sh_wheel (by omega) | exact sh_milk (by omega)) (hF _ _ _ rfl) ?_
    refine ar_iload (pc := 63) d_Mo_doesSuit_63 rfl ?_
    refine ar_iald (pc := 65) d_Mo_doesSuit_65 rfl (4*kd+i) (by omega) (by omega) (fun r_65 => ?_)
    refine ar_aload_n (pc := 66) d_Mo_doesSuit_66 rfl ?_
    refine ar_getR (pc := 67) gf_Mo_108 d_Mo_doesSuit_67 (by first | rfl | exact sh_wheel (by omega) | exact sh_milk (by omega)) (hF _ _ _ rfl) ?_
    refine ar_iload_n (pc := 70) d_Mo_doesSuit_70 rfl ?_
    refine ar_iald (pc := 71) d_Mo_doesSuit_71 rfl _ (Int.toNat_of_nonneg (by omega)).symm (by omega) (fun r_71 => ?_)
    refine ar_icmp_lt (pc := 72) 78 d_Mo_doesSuit_72 (by decide) ⟨by omega, by omega⟩ ⟨by omega, by omega⟩ (fun h_72 => ?_) (fun h_72 => ?_)
    refine ar_iinc (pc := 78) d_Mo_doesSuit_78 rfl rfl (by decide) ?_
    refine ar_goto (pc := 81) 5 d_Mo_doesSuit_81 (by decide) ?_
    rotate_left
    refine ar_iload (pc := 75) d_Mo_doesSuit_75 rfl ?_
    refine ar_istore_n (pc := 77) d_Mo_doesSuit_77 rfl (by decide) ?_
    refine ar_iinc (pc := 78) d_Mo_doesSuit_78 rfl rfl (by decide) ?_
    refine ar_goto (pc := 81) 5 d_Mo_doesSuit_81 (by decide) ?_
    rotate_left
    -- leaves: stop 5, stop 5, stop 5, stop 5
    · exact ar_loc ih1 ⟨rfl, rfl, rfl, li_i rfl (by rw [if_neg (by omega)]), li_i rfl (by omega), trivial⟩
    · exact ar_loc ih1 ⟨rfl, rfl, rfl, li_i rfl (by rw [if_pos (by omega)]; omega), li_i rfl (by omega), trivial⟩
    · exact ar_loc ih1 ⟨rfl, rfl, rfl, li_i rfl (by rw [if_neg (by omega)]), li_i rfl (by omega), trivial⟩
    · exact ar_loc ih1 ⟨rfl, rfl, rfl, li_i rfl (by rw [if_pos (by omega)]; omega), li_i rfl (by omega), trivial⟩
theorem cm_Mo_doesSuit (X : gx_T) (d : Nat) (G : mm_T) {w s : Int} (hF : fx_R G) (hw : 0 ≤ w ∧ w < 40) (hs : 0 ≤ s ∧ s ≤ 23) (hk : 0 ≤ mm_I G 66 w.toNat ∧ mm_I G 66 w.toNat ≤ 2) (hag : i3_in (mm_I G 60 0 - mm_I G 71 w.toNat)) (hc : ∀ k, k < 3 → 0 ≤ mm_I G 91 k ∧ mm_I G 91 k ≤ 4) : aw_M X (d + 1) mt_Mo_doesSuit [av_r (some 60), av_i w, av_i s] G 0 0 (fun r G' => r = some (av_i (bv_p (bd_suit (mm_I G 91) (mm_I G 92) (mm_I G 93) (mm_I G 94) (mm_I G 66 w.toNat) (mm_I G 60 0 - mm_I G 71 w.toNat) (mm_I G 61 s.toNat)))) ∧ G' = G) := by
  obtain ⟨v, rfl⟩ : ∃ v : Nat, w = v := ⟨w.toNat, by omega⟩
  rw [Int.toNat_natCast] at hk hag ⊢
  obtain ⟨kd, hkd⟩ : ∃ k : Nat, mm_I G 66 v = k := ⟨(mm_I G 66 v).toNat, by omega⟩
  have hc := hc kd (by omega)
  obtain ⟨c, hcc⟩ : ∃ c : Nat, mm_I G 91 kd = c := ⟨(mm_I G 91 kd).toNat, by omega⟩
  unfold bd_suit
  dsimp only
  rw [hkd, Int.toNat_natCast, hcc, Int.toNat_natCast]
  refine aw_enter pf_Mo_doesSuit (Nat.le_of_ble_eq_true rfl) ?_
  refine ar_iconst (pc := 0) d_Mo_doesSuit_0 ?_
  refine ar_istore_n (pc := 1) d_Mo_doesSuit_1 rfl (by decide) ?_
  refine ar_iconst (pc := 2) d_Mo_doesSuit_2 ?_
  refine ar_istore (pc := 3) d_Mo_doesSuit_3 rfl (by decide) ?_
  rotate_left
  -- leaves: stop 5
  · exact ar_loc (lp_Mo_doesSuit X d G hF (by omega) hkd (by omega) hs rfl hag hcc (by omega) c 0 (by omega)) ⟨rfl, rfl, rfl, rfl, rfl, trivial⟩
theorem cm_Mo_suits (X : gx_T) (d : Nat) (G : mm_T) {w s : Int} (hF : fx_R G) (hw : i3_in w) (hs : i3_in s) (hwc : mm_I G 60 4 ≤ 40) (hk : ∀ w, w < 40 → 0 ≤ mm_I G 66 w ∧ mm_I G 66 w ≤ 2) (hag : ∀ w, w < 40 → i3_in (mm_I G 60 0 - mm_I G 71 w)) (hc : ∀ k, k < 3 → 0 ≤ mm_I G 91 k ∧ mm_I G 91 k ≤ 4) : aw_M X (d + 3) mt_Mo_suits [av_r (some 60), av_i w, av_i s] G 0 0 (fun r G' => r = some (av_i (if (0 ≤ w ∧ w < mm_I G 60 4 ∧ 0 ≤ mm_I G 67 w.toNat) ∧ 0 ≤ s ∧ s ≤ 23 then bv_p (bd_suit (mm_I G 91) (mm_I G 92) (mm_I G 93) (mm_I G 94) (mm_I G 66 w.toNat) (mm_I G 60 0 - mm_I G 71 w.toNat) (mm_I G 61 s.toNat)) else -1)) ∧ G' = G) := by
  have hbv := bv_c (bd_suit (mm_I G 91) (mm_I G 92) (mm_I G 93) (mm_I G 94) (mm_I G 66 w.toNat) (mm_I G 60 0 - mm_I G 71 w.toNat) (mm_I G 61 s.toNat))
  refine aw_enter pf_Mo_suits (Nat.le_of_ble_eq_true rfl) ?_
  refine ar_aload_n (pc := 0) d_Mo_suits_0 rfl ?_
  refine ar_iload_n (pc := 1) d_Mo_suits_1 rfl ?_
  refine ac_virt (pc := 2) (N := mt_Mo_lies) _ _ mv_Mo_lies ml_Mo_193 ck_12 d_Mo_suits_2 (cm_Mo_lies _ _ _ hF hw hwc) (by first | rfl | exact sh_wheel (by omega) | exact sh_milk (by omega)) rfl rfl (Nat.le_of_ble_eq_true rfl) (Nat.le_of_eq (Nat.zero_add _)) (Nat.le_of_eq (Nat.zero_add _)) (fun r_2 G_2 h_2 => ?_)
  obtain ⟨rfl, e_2⟩ := h_2
  subst G_2
  refine ar_if_eq (pc := 5) 15 d_Mo_suits_5 (by decide) ⟨by omega, by omega⟩ (fun h_5 => ?_) (fun h_5 => ?_)
  refine ar_iconst (pc := 15) d_Mo_suits_15 ?_
  refine ar_goto (pc := 16) 33 d_Mo_suits_16 (by decide) ?_
  refine ar_iret (pc := 33) d_Mo_suits_33 rfl ?_
  rotate_left
  refine ar_iload_n (pc := 8) d_Mo_suits_8 rfl ?_
  refine ac_stat (pc := 9) (N := mt_Mo_isShelf) _ _ sv_Mo_isShelf ml_Mo_154 d_Mo_suits_9 (cm_Mo_isShelf _ _ _ hs) rfl rfl (Nat.le_of_ble_eq_true rfl) (Nat.le_of_eq (Nat.zero_add _)) (Nat.le_of_eq (Nat.zero_add _)) (fun r_9 G_9 h_9 => ?_)
  obtain ⟨rfl, e_9⟩ := h_9
  subst G_9
  refine ar_if_ne (pc := 12) 19 d_Mo_suits_12 (by decide) ⟨by omega, by omega⟩ (fun h_12 => ?_) (fun h_12 => ?_)
  refine ar_aload_n (pc := 19) d_Mo_suits_19 rfl ?_
  refine ar_iload_n (pc := 20) d_Mo_suits_20 rfl ?_
  refine ar_iload_n (pc := 21) d_Mo_suits_21 rfl ?_
  refine ac_virt (pc := 22) (N := mt_Mo_doesSuit) _ _ mv_Mo_doesSuit ml_Mo_351 ck_12 d_Mo_suits_22 (cm_Mo_doesSuit _ _ _ hF (by omega) (by omega) (hk _ (by omega)) (hag _ (by omega)) hc) (by first | rfl | exact sh_wheel (by omega) | exact sh_milk (by omega)) rfl rfl (Nat.le_of_ble_eq_true rfl) (Nat.le_of_eq (Nat.zero_add _)) (Nat.le_of_eq (Nat.zero_add _)) (fun r_22 G_22 h_22 => ?_)
  obtain ⟨rfl, e_22⟩ := h_22
  subst G_22
  refine ar_if_eq (pc := 25) 32 d_Mo_suits_25 (by decide) ⟨by omega, by omega⟩ (fun h_25 => ?_) (fun h_25 => ?_)
  refine ar_iconst (pc := 32) d_Mo_suits_32 ?_
  refine ar_iret (pc := 33) d_Mo_suits_33 rfl ?_
  rotate_left
  refine ar_iconst (pc := 28) d_Mo_suits_28 ?_
  refine ar_goto (pc := 29) 33 d_Mo_suits_29 (by decide) ?_
  refine ar_iret (pc := 33) d_Mo_suits_33 rfl ?_
  rotate_left
  refine ar_iconst (pc := 15) d_Mo_suits_15 ?_
  refine ar_goto (pc := 16) 33 d_Mo_suits_16 (by decide) ?_
  refine ar_iret (pc := 33) d_Mo_suits_33 rfl ?_
  rotate_left
  -- leaves: ret 33, ret 33, ret 33, ret 33
  all_goals (refine ⟨congrArg (fun x => some (av_i x)) ?_, rfl⟩)
  all_goals first | rw [if_neg (by omega)] | (rw [if_pos (by omega)]; omega)
theorem cm_Mo_move (X : gx_T) (d : Nat) (G : mm_T) {w s : Int} (hF : fx_R G) (hw : i3_in w) (hs : i3_in s) {wc : Nat} (hwc : mm_I G 60 4 = wc) (hwc2 : wc ≤ 40) {c : Nat} (hc : mm_I G 60 5 = c) (hc2 : c ≤ 200) (hst : ∀ k, k < 40 → 0 ≤ mm_I G 73 k ∧ mm_I G 73 k < 200) : aw_M X (d + 3) mt_Mo_move [av_r (some 60), av_i w, av_i s] G 0 0 (fun r G' => ((0 ≤ w ∧ w < wc ∧ 0 ≤ mm_I G 67 w.toNat) ∧ (0 ≤ s ∧ s ≤ 23) ∧ mm_I G 67 w.toNat ≠ s ∧ ct_n (mm_I G 67) s wc ≠ 4 ∧ c ≠ 200) ∧ r = some (av_i 1) ∧ G' = ms_I (ms_I (ms_I (ms_I (ms_I (ms_I (ms_I (ms_I (ms_I G 78 (mm_I G 73 w.toNat).toNat (mm_I G 60 0)) 67 w.toNat s) 73 w.toNat c) 75 c w) 76 c s) 77 c (mm_I G 60 0)) 78 c (-1)) 60 5 (c + 1)) 60 53 0 ∨ ¬ ((0 ≤ w ∧ w < wc ∧ 0 ≤ mm_I G 67 w.toNat) ∧ (0 ≤ s ∧ s ≤ 23) ∧ mm_I G 67 w.toNat ≠ s ∧ ct_n (mm_I G 67) s wc ≠ 4 ∧ c ≠ 200) ∧ r = some (av_i 0) ∧ G' = G) := by
  have hst := hst w.toNat
  have hct := ct_rng (mm_I G 67) s wc
  refine aw_enter pf_Mo_move (Nat.le_of_ble_eq_true rfl) ?_
  refine ar_aload_n (pc := 0) d_Mo_move_0 rfl ?_
  refine ar_iload_n (pc := 1) d_Mo_move_1 rfl ?_
  refine ac_virt (pc := 2) (N := mt_Mo_lies) _ _ mv_Mo_lies ml_Mo_193 ck_12 d_Mo_move_2 (cm_Mo_lies _ _ _ hF hw (by omega)) (by first | rfl | exact sh_wheel (by omega) | exact sh_milk (by omega)) rfl rfl (Nat.le_of_ble_eq_true rfl) (Nat.le_of_eq (Nat.zero_add _)) (Nat.le_of_eq (Nat.zero_add _)) (fun r_2 G_2 h_2 => ?_)
  obtain ⟨rfl, e_2⟩ := h_2
  subst G_2
  refine ar_if_eq (pc := 5) 44 d_Mo_move_5 (by decide) ⟨by omega, by omega⟩ (fun h_5 => ?_) (fun h_5 => ?_)
  refine ar_iconst (pc := 44) d_Mo_move_44 ?_
  refine ar_zret (pc := 45) d_Mo_move_45 rfl (by omega) ?_
  rotate_left
  refine ar_iload_n (pc := 8) d_Mo_move_8 rfl ?_
  refine ac_stat (pc := 9) (N := mt_Mo_isShelf) _ _ sv_Mo_isShelf ml_Mo_154 d_Mo_move_9 (cm_Mo_isShelf _ _ _ hs) rfl rfl (Nat.le_of_ble_eq_true rfl) (Nat.le_of_eq (Nat.zero_add _)) (Nat.le_of_eq (Nat.zero_add _)) (fun r_9 G_9 h_9 => ?_)
  obtain ⟨rfl, e_9⟩ := h_9
  subst G_9
  refine ar_if_eq (pc := 12) 44 d_Mo_move_12 (by decide) ⟨by omega, by omega⟩ (fun h_12 => ?_) (fun h_12 => ?_)
  refine ar_iconst (pc := 44) d_Mo_move_44 ?_
  refine ar_zret (pc := 45) d_Mo_move_45 rfl (by omega) ?_
  rotate_left
  refine ar_aload_n (pc := 15) d_Mo_move_15 rfl ?_
  refine ar_getR (pc := 16) gf_Mo_28 d_Mo_move_16 (by first | rfl | exact sh_wheel (by omega) | exact sh_milk (by omega)) (hF _ _ _ rfl) ?_
  refine ar_iload_n (pc := 19) d_Mo_move_19 rfl ?_
  refine ar_iald (pc := 20) d_Mo_move_20 rfl _ (Int.toNat_of_nonneg (by omega)).symm (by omega) (fun r_20 => ?_)
  refine ar_iload_n (pc := 21) d_Mo_move_21 rfl ?_
  refine ar_icmp_eq (pc := 22) 44 d_Mo_move_22 (by decide) ⟨by omega, by omega⟩ ⟨by omega, by omega⟩ (fun h_22 => ?_) (fun h_22 => ?_)
  refine ar_iconst (pc := 44) d_Mo_move_44 ?_
  refine ar_zret (pc := 45) d_Mo_move_45 rfl (by omega) ?_
  rotate_left
  refine ar_aload_n (pc := 25) d_Mo_move_25 rfl ?_
  refine ar_iload_n (pc := 26) d_Mo_move_26 rfl ?_
  refine ac_virt (pc := 27) (N := mt_Mo_lying) _ _ mv_Mo_lying ml_Mo_174 ck_12 d_Mo_move_27 (cm_Mo_lying _ _ _ hF hs hwc hwc2) (by first | rfl | exact sh_wheel (by omega) | exact sh_milk (by omega)) rfl rfl (Nat.le_of_ble_eq_true rfl) (Nat.le_of_eq (Nat.zero_add _)) (Nat.le_of_eq (Nat.zero_add _)) (fun r_27 G_27 h_27 => ?_)
  obtain ⟨rfl, e_27⟩ := h_27
  subst G_27
  refine ar_iconst (pc := 30) d_Mo_move_30 ?_
  refine ar_icmp_eq (pc := 31) 44 d_Mo_move_31 (by decide) ⟨by omega, by omega⟩ ⟨by omega, by omega⟩ (fun h_31 => ?_) (fun h_31 => ?_)
  refine ar_iconst (pc := 44) d_Mo_move_44 ?_
  refine ar_zret (pc := 45) d_Mo_move_45 rfl (by omega) ?_
  rotate_left
  refine ar_aload_n (pc := 34) d_Mo_move_34 rfl ?_
  refine ar_getIv (pc := 35) gf_Mo_168 d_Mo_move_35 (by first | rfl | exact sh_wheel (by omega) | exact sh_milk (by omega)) hc (fun r_35 => ?_)
  refine ar_sipush (pc := 38) d_Mo_move_38 (by decide) ?_
  refine ar_icmp_ne (pc := 41) 46 d_Mo_move_41 (by decide) ⟨by omega, by omega⟩ ⟨by omega, by omega⟩ (fun h_41 => ?_) (fun h_41 => ?_)
  refine ar_aload_n (pc := 46) d_Mo_move_46 rfl ?_
  refine ar_iload_n (pc := 47) d_Mo_move_47 rfl ?_
  refine ar_iload_n (pc := 48) d_Mo_move_48 rfl ?_
  refine ac_virt (pc := 49) (N := mt_Mo_go) _ _ mv_Mo_go ml_Mo_354 ck_12 d_Mo_move_49 (cm_Mo_go (q := (mm_I G 73 w.toNat).toNat) _ _ _ hF (by omega) (by omega) hc (by omega) (by omega) (by omega)) (by first | rfl | exact sh_wheel (by omega) | exact sh_milk (by omega)) rfl rfl (Nat.le_of_ble_eq_true rfl) (Nat.le_of_eq (Nat.zero_add _)) (Nat.le_of_eq (Nat.zero_add _)) (fun r_49 G_49 h_49 => ?_)
  obtain ⟨rfl, e_49⟩ := h_49
  subst G_49
  refine ar_aload_n (pc := 52) d_Mo_move_52 rfl ?_
  refine ar_iconst (pc := 53) d_Mo_move_53 ?_
  refine ar_putZ (pc := 54) gf_Mo_158 d_Mo_move_54 rfl (by first | rfl | exact sh_wheel (by omega) | exact sh_milk (by omega)) (by omega) ?_
  refine ar_iconst (pc := 57) d_Mo_move_57 ?_
  refine ar_zret (pc := 58) d_Mo_move_58 rfl (by omega) ?_
  rotate_left
  refine ar_iconst (pc := 44) d_Mo_move_44 ?_
  refine ar_zret (pc := 45) d_Mo_move_45 rfl (by omega) ?_
  rotate_left
  -- leaves: ret 45, ret 45, ret 45, ret 45, ret 58, ret 45
  all_goals first | exact Or.inr ⟨by omega, rfl, rfl⟩ | exact Or.inl ⟨by omega, rfl, rfl⟩
theorem cm_Mo_of (X : gx_T) (d : Nat) (G : mm_T) {w q : Int} (hF : fx_R G) (hw : i3_in w) (hq : i3_in q) (hwc : mm_I G 60 4 ≤ 40) (hsh : ∀ w, w < 40 → mm_I G 67 w ≤ 23) (hk : ∀ w, w < 40 → 0 ≤ mm_I G 66 w ∧ mm_I G 66 w ≤ 2) (hag : ∀ w, w < 40 → i3_in (mm_I G 60 0 - mm_I G 71 w)) (hc : ∀ k, k < 3 → 0 ≤ mm_I G 91 k ∧ mm_I G 91 k ≤ 4) : aw_M X (d + 2) mt_Mo_of [av_r (some 60), av_i w, av_i q] G 0 0 (fun r G' => r = some (av_i (if 0 ≤ w ∧ w < mm_I G 60 4 then (if q = 0 then mm_I G 66 w.toNat else if q = 1 then mm_I G 67 w.toNat else if q = 2 then mm_I G 68 w.toNat else if q = 3 then mm_I G 69 w.toNat else if q = 4 then mm_I G 70 w.toNat else if q = 5 then mm_I G 60 0 - mm_I G 71 w.toNat else if q = 6 then mm_I G 72 w.toNat else if q = 7 then (if 0 ≤ mm_I G 67 w.toNat then bv_p (bd_suit (mm_I G 91) (mm_I G 92) (mm_I G 93) (mm_I G 94) (mm_I G 66 w.toNat) (mm_I G 60 0 - mm_I G 71 w.toNat) (mm_I G 61 (mm_I G 67 w.toNat).toNat)) else 0) else -1) else -1)) ∧ G' = G) := by
  have hbv := bv_c (bd_suit (mm_I G 91) (mm_I G 92) (mm_I G 93) (mm_I G 94) (mm_I G 66 w.toNat) (mm_I G 60 0 - mm_I G 71 w.toNat) (mm_I G 61 (mm_I G 67 w.toNat).toNat))
  have hsh := hsh w.toNat
  refine aw_enter pf_Mo_of (Nat.le_of_ble_eq_true rfl) ?_
  refine ar_aload_n (pc := 0) d_Mo_of_0 rfl ?_
  refine ar_iload_n (pc := 1) d_Mo_of_1 rfl ?_
  refine ac_virt (pc := 2) (N := mt_Mo_isWheel) _ _ mv_Mo_isWheel ml_Mo_190 ck_12 d_Mo_of_2 (cm_Mo_isWheel _ _ _ hw) (by first | rfl | exact sh_wheel (by omega) | exact sh_milk (by omega)) rfl rfl (Nat.le_of_ble_eq_true rfl) (Nat.le_of_eq (Nat.zero_add _)) (Nat.le_of_eq (Nat.zero_add _)) (fun r_2 G_2 h_2 => ?_)
  obtain ⟨rfl, e_2⟩ := h_2
  subst G_2
  refine ar_if_ne (pc := 5) 10 d_Mo_of_5 (by decide) ⟨by omega, by omega⟩ (fun h_5 => ?_) (fun h_5 => ?_)
  refine ar_iload_n (pc := 10) d_Mo_of_10 rfl ?_
  refine ar_case (q = 0) (fun hs_11_0 => ?_) (fun hn_11_0 => ?_)
  refine ar_tableIn (pc := 11) 56 d_Mo_of_11 ⟨by omega, by omega⟩ (by omega) (by omega) (by rw [hs_11_0]; rfl) (by decide) ?_
  refine ar_aload_n (pc := 56) d_Mo_of_56 rfl ?_
  refine ar_getR (pc := 57) gf_Mo_25 d_Mo_of_57 (by first | rfl | exact sh_wheel (by omega) | exact sh_milk (by omega)) (hF _ _ _ rfl) ?_
  refine ar_iload_n (pc := 60) d_Mo_of_60 rfl ?_
  refine ar_iald (pc := 61) d_Mo_of_61 rfl _ (Int.toNat_of_nonneg (by omega)).symm (by omega) (fun r_61 => ?_)
  refine ar_iret (pc := 62) d_Mo_of_62 rfl ?_
  rotate_left
  refine ar_case (q = 1) (fun hs_11_1 => ?_) (fun hn_11_1 => ?_)
  refine ar_tableIn (pc := 11) 63 d_Mo_of_11 ⟨by omega, by omega⟩ (by omega) (by omega) (by rw [hs_11_1]; rfl) (by decide) ?_
  refine ar_aload_n (pc := 63) d_Mo_of_63 rfl ?_
  refine ar_getR (pc := 64) gf_Mo_28 d_Mo_of_64 (by first | rfl | exact sh_wheel (by omega) | exact sh_milk (by omega)) (hF _ _ _ rfl) ?_
  refine ar_iload_n (pc := 67) d_Mo_of_67 rfl ?_
  refine ar_iald (pc := 68) d_Mo_of_68 rfl _ (Int.toNat_of_nonneg (by omega)).symm (by omega) (fun r_68 => ?_)
  refine ar_iret (pc := 69) d_Mo_of_69 rfl ?_
  rotate_left
  refine ar_case (q = 2) (fun hs_11_2 => ?_) (fun hn_11_2 => ?_)
  refine ar_tableIn (pc := 11) 70 d_Mo_of_11 ⟨by omega, by omega⟩ (by omega) (by omega) (by rw [hs_11_2]; rfl) (by decide) ?_
  refine ar_aload_n (pc := 70) d_Mo_of_70 rfl ?_
  refine ar_getR (pc := 71) gf_Mo_31 d_Mo_of_71 (by first | rfl | exact sh_wheel (by omega) | exact sh_milk (by omega)) (hF _ _ _ rfl) ?_
  refine ar_iload_n (pc := 74) d_Mo_of_74 rfl ?_
  refine ar_iald (pc := 75) d_Mo_of_75 rfl _ (Int.toNat_of_nonneg (by omega)).symm (by omega) (fun r_75 => ?_)
  refine ar_iret (pc := 76) d_Mo_of_76 rfl ?_
  rotate_left
  refine ar_case (q = 3) (fun hs_11_3 => ?_) (fun hn_11_3 => ?_)
  refine ar_tableIn (pc := 11) 77 d_Mo_of_11 ⟨by omega, by omega⟩ (by omega) (by omega) (by rw [hs_11_3]; rfl) (by decide) ?_
  refine ar_aload_n (pc := 77) d_Mo_of_77 rfl ?_
  refine ar_getR (pc := 78) gf_Mo_34 d_Mo_of_78 (by first | rfl | exact sh_wheel (by omega) | exact sh_milk (by omega)) (hF _ _ _ rfl) ?_
  refine ar_iload_n (pc := 81) d_Mo_of_81 rfl ?_
  refine ar_iald (pc := 82) d_Mo_of_82 rfl _ (Int.toNat_of_nonneg (by omega)).symm (by omega) (fun r_82 => ?_)
  refine ar_iret (pc := 83) d_Mo_of_83 rfl ?_
  rotate_left
  refine ar_case (q = 4) (fun hs_11_4 => ?_) (fun hn_11_4 => ?_)
  refine ar_tableIn (pc := 11) 84 d_Mo_of_11 ⟨by omega, by omega⟩ (by omega) (by omega) (by rw [hs_11_4]; rfl) (by decide) ?_
  refine ar_aload_n (pc := 84) d_Mo_of_84 rfl ?_
  refine ar_getR (pc := 85) gf_Mo_37 d_Mo_of_85 (by first | rfl | exact sh_wheel (by omega) | exact sh_milk (by omega)) (hF _ _ _ rfl) ?_
  refine ar_iload_n (pc := 88) d_Mo_of_88 rfl ?_
  refine ar_iald (pc := 89) d_Mo_of_89 rfl _ (Int.toNat_of_nonneg (by omega)).symm (by omega) (fun r_89 => ?_)
  refine ar_iret (pc := 90) d_Mo_of_90 rfl ?_
  rotate_left
  refine ar_case (q = 5) (fun hs_11_5 => ?_) (fun hn_11_5 => ?_)
  refine ar_tableIn (pc := 11) 91 d_Mo_of_11 ⟨by omega, by omega⟩ (by omega) (by omega) (by rw [hs_11_5]; rfl) (by decide) ?_
  refine ar_aload_n (pc := 91) d_Mo_of_91 rfl ?_
  refine ar_getI (pc := 92) gf_Mo_171 d_Mo_of_92 (by first | rfl | exact sh_wheel (by omega) | exact sh_milk (by omega)) (fun r_92 => ?_)
  refine ar_aload_n (pc := 95) d_Mo_of_95 rfl ?_
  refine ar_getR (pc := 96) gf_Mo_40 d_Mo_of_96 (by first | rfl | exact sh_wheel (by omega) | exact sh_milk (by omega)) (hF _ _ _ rfl) ?_
  refine ar_iload_n (pc := 99) d_Mo_of_99 rfl ?_
  refine ar_iald (pc := 100) d_Mo_of_100 rfl _ (Int.toNat_of_nonneg (by omega)).symm (by omega) (fun r_100 => ?_)
  refine ar_isub (pc := 101) d_Mo_of_101 ?_
  refine ar_iret (pc := 102) d_Mo_of_102 rfl ?_
  rotate_left
  refine ar_case (q = 6) (fun hs_11_6 => ?_) (fun hn_11_6 => ?_)
  refine ar_tableIn (pc := 11) 103 d_Mo_of_11 ⟨by omega, by omega⟩ (by omega) (by omega) (by rw [hs_11_6]; rfl) (by decide) ?_
  refine ar_aload_n (pc := 103) d_Mo_of_103 rfl ?_
  refine ar_getR (pc := 104) gf_Mo_43 d_Mo_of_104 (by first | rfl | exact sh_wheel (by omega) | exact sh_milk (by omega)) (hF _ _ _ rfl) ?_
  refine ar_iload_n (pc := 107) d_Mo_of_107 rfl ?_
  refine ar_iald (pc := 108) d_Mo_of_108 rfl _ (Int.toNat_of_nonneg (by omega)).symm (by omega) (fun r_108 => ?_)
  refine ar_iret (pc := 109) d_Mo_of_109 rfl ?_
  rotate_left
  refine ar_case (q = 7) (fun hs_11_7 => ?_) (fun hn_11_7 => ?_)
  refine ar_tableIn (pc := 11) 110 d_Mo_of_11 ⟨by omega, by omega⟩ (by omega) (by omega) (by rw [hs_11_7]; rfl) (by decide) ?_
  refine ar_aload_n (pc := 110) d_Mo_of_110 rfl ?_
  refine ar_getR (pc := 111) gf_Mo_28 d_Mo_of_111 (by first | rfl | exact sh_wheel (by omega) | exact sh_milk (by omega)) (hF _ _ _ rfl) ?_
  refine ar_iload_n (pc := 114) d_Mo_of_114 rfl ?_
  refine ar_iald (pc := 115) d_Mo_of_115 rfl _ (Int.toNat_of_nonneg (by omega)).symm (by omega) (fun r_115 => ?_)
  refine ar_if_lt (pc := 116) 137 d_Mo_of_116 (by decide) ⟨by omega, by omega⟩ (fun h_116 => ?_) (fun h_116 => ?_)
  refine ar_iconst (pc := 137) d_Mo_of_137 ?_
  refine ar_iret (pc := 138) d_Mo_of_138 rfl ?_
  rotate_left
  refine ar_aload_n (pc := 119) d_Mo_of_119 rfl ?_
  refine ar_iload_n (pc := 120) d_Mo_of_120 rfl ?_
  refine ar_aload_n (pc := 121) d_Mo_of_121 rfl ?_
  refine ar_getR (pc := 122) gf_Mo_28 d_Mo_of_122 (by first | rfl | exact sh_wheel (by omega) | exact sh_milk (by omega)) (hF _ _ _ rfl) ?_
  refine ar_iload_n (pc := 125) d_Mo_of_125 rfl ?_
  refine ar_iald (pc := 126) d_Mo_of_126 rfl _ (Int.toNat_of_nonneg (by omega)).symm (by omega) (fun r_126 => ?_)
  refine ac_virt (pc := 127) (N := mt_Mo_doesSuit) _ _ mv_Mo_doesSuit ml_Mo_351 ck_12 d_Mo_of_127 (cm_Mo_doesSuit _ _ _ hF (by omega) (by omega) (hk _ (by omega)) (hag _ (by omega)) hc) (by first | rfl | exact sh_wheel (by omega) | exact sh_milk (by omega)) rfl rfl (Nat.le_of_ble_eq_true rfl) (Nat.le_of_eq (Nat.zero_add _)) (Nat.le_of_eq (Nat.zero_add _)) (fun r_127 G_127 h_127 => ?_)
  obtain ⟨rfl, e_127⟩ := h_127
  subst G_127
  refine ar_if_eq (pc := 130) 137 d_Mo_of_130 (by decide) ⟨by omega, by omega⟩ (fun h_130 => ?_) (fun h_130 => ?_)
  refine ar_iconst (pc := 137) d_Mo_of_137 ?_
  refine ar_iret (pc := 138) d_Mo_of_138 rfl ?_
  rotate_left
  refine ar_iconst (pc := 133) d_Mo_of_133 ?_
  refine ar_goto (pc := 134) 138 d_Mo_of_134 (by decide) ?_
  refine ar_iret (pc := 138) d_Mo_of_138 rfl ?_
  rotate_left
  refine ar_tableOut (pc := 11) 139 d_Mo_of_11 ⟨by omega, by omega⟩ (by omega) (by decide) ?_
  refine ar_iconst (pc := 139) d_Mo_of_139 ?_
  refine ar_iret (pc := 140) d_Mo_of_140 rfl ?_
  rotate_left
  refine ar_iconst (pc := 8) d_Mo_of_8 ?_
  refine ar_iret (pc := 9) d_Mo_of_9 rfl ?_
  rotate_left
  -- leaves: ret 62, ret 69, ret 76, ret 83, ret 90, ret 102, ret 109, ret 138, ret 138, ret 138, ret 140, ret 9
  all_goals (refine ⟨congrArg (fun x => some (av_i x)) ?_, rfl⟩)
  all_goals omega
theorem cm_Mo_mark (X : gx_T) (d : Nat) (G : mm_T) {g w v : Int} (hF : fx_R G) (hg : i3_in g) (hw : i3_in w) (hv : i3_in v) {c : Nat} (hc : mm_I G 60 62 = c) (hc2 : c ≤ 100) : aw_M X (d + 2) mt_Mo_mark [av_r (some 60), av_i g, av_i w, av_i v] G 0 0 (fun r G' => (c < 100 ∧ 0 ≤ g ∧ g ≤ 4 ∧ 0 ≤ w ∧ w < mm_I G 60 4 ∧ 0 ≤ v ∧ v ≤ 20) ∧ r = some (av_i c) ∧ G' = ms_I (ms_I (ms_I (ms_I (ms_I (ms_I G 101 c g) 102 c w) 103 c v) 104 c (mm_I G 60 0)) 105 c (-1)) 60 62 (c + 1) ∨ ¬ (c < 100 ∧ 0 ≤ g ∧ g ≤ 4 ∧ 0 ≤ w ∧ w < mm_I G 60 4 ∧ 0 ≤ v ∧ v ≤ 20) ∧ r = some (av_i (-1)) ∧ G' = G) := by
  refine aw_enter pf_Mo_mark (Nat.le_of_ble_eq_true rfl) ?_
  refine ar_aload_n (pc := 0) d_Mo_mark_0 rfl ?_
  refine ar_getIv (pc := 1) gf_Mo_389 d_Mo_mark_1 (by first | rfl | exact sh_wheel (by omega) | exact sh_milk (by omega)) hc (fun r_1 => ?_)
  refine ar_bipush (pc := 4) d_Mo_mark_4 (by decide) ?_
  refine ar_icmp_eq (pc := 6) 36 d_Mo_mark_6 (by decide) ⟨by omega, by omega⟩ ⟨by omega, by omega⟩ (fun h_6 => ?_) (fun h_6 => ?_)
  refine ar_iconst (pc := 36) d_Mo_mark_36 ?_
  refine ar_iret (pc := 37) d_Mo_mark_37 rfl ?_
  rotate_left
  refine ar_iload_n (pc := 9) d_Mo_mark_9 rfl ?_
  refine ar_if_lt (pc := 10) 36 d_Mo_mark_10 (by decide) ⟨by omega, by omega⟩ (fun h_10 => ?_) (fun h_10 => ?_)
  refine ar_iconst (pc := 36) d_Mo_mark_36 ?_
  refine ar_iret (pc := 37) d_Mo_mark_37 rfl ?_
  rotate_left
  refine ar_iload_n (pc := 13) d_Mo_mark_13 rfl ?_
  refine ar_iconst (pc := 14) d_Mo_mark_14 ?_
  refine ar_icmp_ge (pc := 15) 36 d_Mo_mark_15 (by decide) ⟨by omega, by omega⟩ ⟨by omega, by omega⟩ (fun h_15 => ?_) (fun h_15 => ?_)
  refine ar_iconst (pc := 36) d_Mo_mark_36 ?_
  refine ar_iret (pc := 37) d_Mo_mark_37 rfl ?_
  rotate_left
  refine ar_aload_n (pc := 18) d_Mo_mark_18 rfl ?_
  refine ar_iload_n (pc := 19) d_Mo_mark_19 rfl ?_
  refine ac_virt (pc := 20) (N := mt_Mo_isWheel) _ _ mv_Mo_isWheel ml_Mo_190 ck_12 d_Mo_mark_20 (cm_Mo_isWheel _ _ _ hw) (by first | rfl | exact sh_wheel (by omega) | exact sh_milk (by omega)) rfl rfl (Nat.le_of_ble_eq_true rfl) (Nat.le_of_eq (Nat.zero_add _)) (Nat.le_of_eq (Nat.zero_add _)) (fun r_20 G_20 h_20 => ?_)
  obtain ⟨rfl, e_20⟩ := h_20
  subst G_20
  refine ar_if_eq (pc := 23) 36 d_Mo_mark_23 (by decide) ⟨by omega, by omega⟩ (fun h_23 => ?_) (fun h_23 => ?_)
  refine ar_iconst (pc := 36) d_Mo_mark_36 ?_
  refine ar_iret (pc := 37) d_Mo_mark_37 rfl ?_
  rotate_left
  refine ar_iload_n (pc := 26) d_Mo_mark_26 rfl ?_
  refine ar_if_lt (pc := 27) 36 d_Mo_mark_27 (by decide) ⟨by omega, by omega⟩ (fun h_27 => ?_) (fun h_27 => ?_)
  refine ar_iconst (pc := 36) d_Mo_mark_36 ?_
  refine ar_iret (pc := 37) d_Mo_mark_37 rfl ?_
  rotate_left
  refine ar_iload_n (pc := 30) d_Mo_mark_30 rfl ?_
  refine ar_bipush (pc := 31) d_Mo_mark_31 (by decide) ?_
  refine ar_icmp_le (pc := 33) 38 d_Mo_mark_33 (by decide) ⟨by omega, by omega⟩ ⟨by omega, by omega⟩ (fun h_33 => ?_) (fun h_33 => ?_)
  refine ar_aload_n (pc := 38) d_Mo_mark_38 rfl ?_
  refine ar_getR (pc := 39) gf_Mo_136 d_Mo_mark_39 (by first | rfl | exact sh_wheel (by omega) | exact sh_milk (by omega)) (hF _ _ _ rfl) ?_
  refine ar_aload_n (pc := 42) d_Mo_mark_42 rfl ?_
  refine ar_getIv (pc := 43) gf_Mo_389 d_Mo_mark_43 (by first | rfl | exact sh_wheel (by omega) | exact sh_milk (by omega)) hc (fun r_43 => ?_)
  refine ar_iload_n (pc := 46) d_Mo_mark_46 rfl ?_
  refine ar_iast (pc := 47) d_Mo_mark_47 rfl (c) (by omega) (by omega) ⟨by omega, by omega⟩ ?_
  refine ar_aload_n (pc := 48) d_Mo_mark_48 rfl ?_
  refine ar_getR (pc := 49) gf_Mo_139 d_Mo_mark_49 (by first | rfl | exact sh_wheel (by omega) | exact sh_milk (by omega)) (hF _ _ _ rfl) ?_
  refine ar_aload_n (pc := 52) d_Mo_mark_52 rfl ?_
  refine ar_getIv (pc := 53) gf_Mo_389 d_Mo_mark_53 (by first | rfl | exact sh_wheel (by omega) | exact sh_milk (by omega)) hc (fun r_53 => ?_)
  refine ar_iload_n (pc := 56) d_Mo_mark_56 rfl ?_
  refine ar_iast (pc := 57) d_Mo_mark_57 rfl (c) (by omega) (by omega) ⟨by omega, by omega⟩ ?_
  refine ar_aload_n (pc := 58) d_Mo_mark_58 rfl ?_
  refine ar_getR (pc := 59) gf_Mo_142 d_Mo_mark_59 (by first | rfl | exact sh_wheel (by omega) | exact sh_milk (by omega)) (hF _ _ _ rfl) ?_
  refine ar_aload_n (pc := 62) d_Mo_mark_62 rfl ?_
  refine ar_getIv (pc := 63) gf_Mo_389 d_Mo_mark_63 (by first | rfl | exact sh_wheel (by omega) | exact sh_milk (by omega)) hc (fun r_63 => ?_)
  refine ar_iload_n (pc := 66) d_Mo_mark_66 rfl ?_
  refine ar_iast (pc := 67) d_Mo_mark_67 rfl (c) (by omega) (by omega) ⟨by omega, by omega⟩ ?_
  refine ar_aload_n (pc := 68) d_Mo_mark_68 rfl ?_
  refine ar_getR (pc := 69) gf_Mo_145 d_Mo_mark_69 (by first | rfl | exact sh_wheel (by omega) | exact sh_milk (by omega)) (hF _ _ _ rfl) ?_
  refine ar_aload_n (pc := 72) d_Mo_mark_72 rfl ?_
  refine ar_getIv (pc := 73) gf_Mo_389 d_Mo_mark_73 (by first | rfl | exact sh_wheel (by omega) | exact sh_milk (by omega)) hc (fun r_73 => ?_)
  refine ar_aload_n (pc := 76) d_Mo_mark_76 rfl ?_
  refine ar_getIv (pc := 77) gf_Mo_171 d_Mo_mark_77 (by first | rfl | exact sh_wheel (by omega) | exact sh_milk (by omega)) (show _ = mm_I G 60 0 from rfl) (fun r_77 => ?_)
  refine ar_iast (pc := 80) d_Mo_mark_80 rfl (c) (by omega) (by omega) r_77 ?_
  refine ar_aload_n (pc := 81) d_Mo_mark_81 rfl ?_
  refine ar_getR (pc := 82) gf_Mo_148 d_Mo_mark_82 (by first | rfl | exact sh_wheel (by omega) | exact sh_milk (by omega)) (hF _ _ _ rfl) ?_
  refine ar_aload_n (pc := 85) d_Mo_mark_85 rfl ?_
  refine ar_getIv (pc := 86) gf_Mo_389 d_Mo_mark_86 (by first | rfl | exact sh_wheel (by omega) | exact sh_milk (by omega)) hc (fun r_86 => ?_)
  refine ar_iconst (pc := 89) d_Mo_mark_89 ?_
  refine ar_iast (pc := 90) d_Mo_mark_90 rfl (c) (by omega) (by omega) ⟨by omega, by omega⟩ ?_
  refine ar_aload_n (pc := 91) d_Mo_mark_91 rfl ?_
  refine ar_dup (pc := 92) d_Mo_mark_92 rfl ?_
  refine ar_getIv (pc := 93) gf_Mo_389 d_Mo_mark_93 (by first | rfl | exact sh_wheel (by omega) | exact sh_milk (by omega)) hc (fun r_93 => ?_)
  refine ar_iconst (pc := 96) d_Mo_mark_96 ?_
  refine ar_iadd (pc := 97) d_Mo_mark_97 ?_
  refine ar_putI (pc := 98) gf_Mo_389 d_Mo_mark_98 rfl (by first | rfl | exact sh_wheel (by omega) | exact sh_milk (by omega)) ⟨by omega, by omega⟩ ?_
  refine ar_aload_n (pc := 101) d_Mo_mark_101 rfl ?_
  refine ar_getI (pc := 102) gf_Mo_389 d_Mo_mark_102 (by first | rfl | exact sh_wheel (by omega) | exact sh_milk (by omega)) (fun r_102 => ?_)
  refine ar_iconst (pc := 105) d_Mo_mark_105 ?_
  refine ar_isub (pc := 106) d_Mo_mark_106 ?_
  refine ar_iret (pc := 107) d_Mo_mark_107 rfl ?_
  rotate_left
  refine ar_iconst (pc := 36) d_Mo_mark_36 ?_
  refine ar_iret (pc := 37) d_Mo_mark_37 rfl ?_
  rotate_left
  -- leaves: ret 37, ret 37, ret 37, ret 37, ret 37, ret 107, ret 37
  all_goals first | exact Or.inr ⟨by omega, rfl, rfl⟩ | exact Or.inl ⟨by omega, congrArg (fun x => some (av_i x)) (show (c : Int) + 1 - 1 = c by omega), rfl⟩
theorem cm_Mo_untell (X : gx_T) (d : Nat) (G : mm_T) {m : Int} (hF : fx_R G) (hm : i3_in m) (hc : mm_I G 60 62 ≤ 100) : aw_M X (d + 1) mt_Mo_untell [av_r (some 60), av_i m] G 0 0 (fun r G' => (0 ≤ m ∧ m < mm_I G 60 62 ∧ mm_I G 105 m.toNat < 0) ∧ r = some (av_i 1) ∧ G' = ms_I G 105 m.toNat (mm_I G 60 0) ∨ ¬ (0 ≤ m ∧ m < mm_I G 60 62 ∧ mm_I G 105 m.toNat < 0) ∧ r = some (av_i 0) ∧ G' = G) := by
  refine aw_enter pf_Mo_untell (Nat.le_of_ble_eq_true rfl) ?_
  refine ar_iload_n (pc := 0) d_Mo_untell_0 rfl ?_
  refine ar_if_lt (pc := 1) 21 d_Mo_untell_1 (by decide) ⟨by omega, by omega⟩ (fun h_1 => ?_) (fun h_1 => ?_)
  refine ar_iconst (pc := 21) d_Mo_untell_21 ?_
  refine ar_zret (pc := 22) d_Mo_untell_22 rfl (by omega) ?_
  rotate_left
  refine ar_iload_n (pc := 4) d_Mo_untell_4 rfl ?_
  refine ar_aload_n (pc := 5) d_Mo_untell_5 rfl ?_
  refine ar_getI (pc := 6) gf_Mo_389 d_Mo_untell_6 (by first | rfl | exact sh_wheel (by omega) | exact sh_milk (by omega)) (fun r_6 => ?_)
  refine ar_icmp_ge (pc := 9) 21 d_Mo_untell_9 (by decide) ⟨by omega, by omega⟩ ⟨by omega, by omega⟩ (fun h_9 => ?_) (fun h_9 => ?_)
  refine ar_iconst (pc := 21) d_Mo_untell_21 ?_
  refine ar_zret (pc := 22) d_Mo_untell_22 rfl (by omega) ?_
  rotate_left
  refine ar_aload_n (pc := 12) d_Mo_untell_12 rfl ?_
  refine ar_getR (pc := 13) gf_Mo_148 d_Mo_untell_13 (by first | rfl | exact sh_wheel (by omega) | exact sh_milk (by omega)) (hF _ _ _ rfl) ?_
  refine ar_iload_n (pc := 16) d_Mo_untell_16 rfl ?_
  refine ar_iald (pc := 17) d_Mo_untell_17 rfl _ (Int.toNat_of_nonneg (by omega)).symm (by omega) (fun r_17 => ?_)
  refine ar_if_lt (pc := 18) 23 d_Mo_untell_18 (by decide) ⟨by omega, by omega⟩ (fun h_18 => ?_) (fun h_18 => ?_)
  refine ar_aload_n (pc := 23) d_Mo_untell_23 rfl ?_
  refine ar_getR (pc := 24) gf_Mo_148 d_Mo_untell_24 (by first | rfl | exact sh_wheel (by omega) | exact sh_milk (by omega)) (hF _ _ _ rfl) ?_
  refine ar_iload_n (pc := 27) d_Mo_untell_27 rfl ?_
  refine ar_aload_n (pc := 28) d_Mo_untell_28 rfl ?_
  refine ar_getI (pc := 29) gf_Mo_171 d_Mo_untell_29 (by first | rfl | exact sh_wheel (by omega) | exact sh_milk (by omega)) (fun r_29 => ?_)
  refine ar_iast (pc := 32) d_Mo_untell_32 rfl _ (Int.toNat_of_nonneg (by omega)).symm (by omega) r_29 ?_
  refine ar_iconst (pc := 33) d_Mo_untell_33 ?_
  refine ar_zret (pc := 34) d_Mo_untell_34 rfl (by omega) ?_
  rotate_left
  refine ar_iconst (pc := 21) d_Mo_untell_21 ?_
  refine ar_zret (pc := 22) d_Mo_untell_22 rfl (by omega) ?_
  rotate_left
  -- leaves: ret 22, ret 22, ret 34, ret 22
  all_goals first | exact Or.inr ⟨by omega, rfl, rfl⟩ | exact Or.inl ⟨by omega, rfl, rfl⟩
theorem cm_Mo_about (X : gx_T) (d : Nat) (G : mm_T) {q : Int} (hq : i3_in q) : aw_M X (d + 1) mt_Mo_about [av_r (some 60), av_i q] G 0 0 (fun r G' => r = some (av_i (if q = 0 then mm_I G 60 0 else if q = 1 then mm_I G 60 3 else if q = 2 then mm_I G 60 4 else if q = 3 then mm_I G 60 26 else if q = 4 then mm_I G 60 62 else if q = 5 then mm_I G 60 5 else if q = 6 then mm_I G 60 35 else -1)) ∧ G' = G) := by
  refine aw_enter pf_Mo_about (Nat.le_of_ble_eq_true rfl) ?_
  refine ar_iload_n (pc := 0) d_Mo_about_0 rfl ?_
  refine ar_case (q = 0) (fun hs_1_0 => ?_) (fun hn_1_0 => ?_)
  refine ar_tableIn (pc := 1) 44 d_Mo_about_1 ⟨by omega, by omega⟩ (by omega) (by omega) (by rw [hs_1_0]; rfl) (by decide) ?_
  refine ar_aload_n (pc := 44) d_Mo_about_44 rfl ?_
  refine ar_getI (pc := 45) gf_Mo_171 d_Mo_about_45 (by first | rfl | exact sh_wheel (by omega) | exact sh_milk (by omega)) (fun r_45 => ?_)
  refine ar_iret (pc := 48) d_Mo_about_48 rfl ?_
  rotate_left
  refine ar_case (q = 1) (fun hs_1_1 => ?_) (fun hn_1_1 => ?_)
  refine ar_tableIn (pc := 1) 49 d_Mo_about_1 ⟨by omega, by omega⟩ (by omega) (by omega) (by rw [hs_1_1]; rfl) (by decide) ?_
  refine ar_aload_n (pc := 49) d_Mo_about_49 rfl ?_
  refine ar_getI (pc := 50) gf_Mo_162 d_Mo_about_50 (by first | rfl | exact sh_wheel (by omega) | exact sh_milk (by omega)) (fun r_50 => ?_)
  refine ar_iret (pc := 53) d_Mo_about_53 rfl ?_
  rotate_left
  refine ar_case (q = 2) (fun hs_1_2 => ?_) (fun hn_1_2 => ?_)
  refine ar_tableIn (pc := 1) 54 d_Mo_about_1 ⟨by omega, by omega⟩ (by omega) (by omega) (by rw [hs_1_2]; rfl) (by decide) ?_
  refine ar_aload_n (pc := 54) d_Mo_about_54 rfl ?_
  refine ar_getI (pc := 55) gf_Mo_165 d_Mo_about_55 (by first | rfl | exact sh_wheel (by omega) | exact sh_milk (by omega)) (fun r_55 => ?_)
  refine ar_iret (pc := 58) d_Mo_about_58 rfl ?_
  rotate_left
  refine ar_case (q = 3) (fun hs_1_3 => ?_) (fun hn_1_3 => ?_)
  refine ar_tableIn (pc := 1) 59 d_Mo_about_1 ⟨by omega, by omega⟩ (by omega) (by omega) (by rw [hs_1_3]; rfl) (by decide) ?_
  refine ar_aload_n (pc := 59) d_Mo_about_59 rfl ?_
  refine ar_getI (pc := 60) gf_Mo_334 d_Mo_about_60 (by first | rfl | exact sh_wheel (by omega) | exact sh_milk (by omega)) (fun r_60 => ?_)
  refine ar_iret (pc := 63) d_Mo_about_63 rfl ?_
  rotate_left
  refine ar_case (q = 4) (fun hs_1_4 => ?_) (fun hn_1_4 => ?_)
  refine ar_tableIn (pc := 1) 64 d_Mo_about_1 ⟨by omega, by omega⟩ (by omega) (by omega) (by rw [hs_1_4]; rfl) (by decide) ?_
  refine ar_aload_n (pc := 64) d_Mo_about_64 rfl ?_
  refine ar_getI (pc := 65) gf_Mo_389 d_Mo_about_65 (by first | rfl | exact sh_wheel (by omega) | exact sh_milk (by omega)) (fun r_65 => ?_)
  refine ar_iret (pc := 68) d_Mo_about_68 rfl ?_
  rotate_left
  refine ar_case (q = 5) (fun hs_1_5 => ?_) (fun hn_1_5 => ?_)
  refine ar_tableIn (pc := 1) 69 d_Mo_about_1 ⟨by omega, by omega⟩ (by omega) (by omega) (by rw [hs_1_5]; rfl) (by decide) ?_
  refine ar_aload_n (pc := 69) d_Mo_about_69 rfl ?_
  refine ar_getI (pc := 70) gf_Mo_168 d_Mo_about_70 (by first | rfl | exact sh_wheel (by omega) | exact sh_milk (by omega)) (fun r_70 => ?_)
  refine ar_iret (pc := 73) d_Mo_about_73 rfl ?_
  rotate_left
  refine ar_case (q = 6) (fun hs_1_6 => ?_) (fun hn_1_6 => ?_)
  refine ar_tableIn (pc := 1) 74 d_Mo_about_1 ⟨by omega, by omega⟩ (by omega) (by omega) (by rw [hs_1_6]; rfl) (by decide) ?_
  refine ar_aload_n (pc := 74) d_Mo_about_74 rfl ?_
  refine ar_getI (pc := 75) gf_Mo_196 d_Mo_about_75 (by first | rfl | exact sh_wheel (by omega) | exact sh_milk (by omega)) (fun r_75 => ?_)
  refine ar_iret (pc := 78) d_Mo_about_78 rfl ?_
  rotate_left
  refine ar_tableOut (pc := 1) 79 d_Mo_about_1 ⟨by omega, by omega⟩ (by omega) (by decide) ?_
  refine ar_iconst (pc := 79) d_Mo_about_79 ?_
  refine ar_iret (pc := 80) d_Mo_about_80 rfl ?_
  rotate_left
  -- leaves: ret 48, ret 53, ret 58, ret 63, ret 68, ret 73, ret 78, ret 80
  all_goals (refine ⟨congrArg (fun x => some (av_i x)) ?_, rfl⟩)
  all_goals omega
/-- which of the first n planned wheels is this one -/
def pl_look (wh sh : Nat → Int) (w : Int) : Nat → Int
  | 0 => -1
  | n + 1 => if wh 0 = w then sh 0 else pl_look (fun k => wh (k + 1)) (fun k => sh (k + 1)) w n
theorem lp_Mo_planned (X : gx_T) (d : Nat) (G : mm_T) {w : Int} (hF : fx_R G) (hw : i3_in w) {c : Nat} (hc : mm_I G 60 55 = c) (hc2 : c ≤ 10) : ∀ n i, i + n = c → aw_W X mt_Mo_planned (d + 1) 2 [(0, some (av_r (some 60))), (1, some (av_i w)), (2, some (av_i (i : Int)))] [] G 0 0 (fun r G' => r = some (av_i (pl_look (fun k => mm_I G 96 (i + k)) (fun k => mm_I G 97 (i + k)) w n)) ∧ G' = G) := by
  intro n
  induction n with
  | zero =>
    intro i hi
    refine ar_iload_n (pc := 2) d_Mo_planned_2 rfl ?_
    refine ar_aload_n (pc := 3) d_Mo_planned_3 rfl ?_
    refine ar_getIv (pc := 4) gf_Mo_386 d_Mo_planned_4 (by first | rfl | exact sh_wheel (by omega) | exact sh_milk (by omega)) hc (fun r_4 => ?_)
    refine ar_icmp_ge (pc := 7) 33 d_Mo_planned_7 (by decide) ⟨by omega, by omega⟩ ⟨by omega, by omega⟩ (fun h_7 => ?_) (fun h_7 => by exfalso; omega)
    refine ar_iconst (pc := 33) d_Mo_planned_33 ?_
    refine ar_iret (pc := 34) d_Mo_planned_34 rfl ?_
    rotate_left
    -- leaves: ret 34
    · exact ⟨rfl, rfl⟩
  | succ n ih =>
    intro i hi
    have ih1 := ih (i + 1) (by omega)
    have e1 : (fun k => mm_I G 96 (i + 1 + k)) = (fun k => mm_I G 96 (i + (k + 1))) := funext fun k => by congr 1; omega
    have e2 : (fun k => mm_I G 97 (i + 1 + k)) = (fun k => mm_I G 97 (i + (k + 1))) := funext fun k => by congr 1; omega
    rw [e1, e2] at ih1
    refine ar_iload_n (pc := 2) d_Mo_planned_2 rfl ?_
    refine ar_aload_n (pc := 3) d_Mo_planned_3 rfl ?_
    refine ar_getIv (pc := 4) gf_Mo_386 d_Mo_planned_4 (by first | rfl | exact sh_wheel (by omega) | exact sh_milk (by omega)) hc (fun r_4 => ?_)
    refine ar_icmp_ge (pc := 7) 33 d_Mo_planned_7 (by decide) ⟨by omega, by omega⟩ ⟨by omega, by omega⟩ (fun h_7 => by exfalso; omega) (fun h_7 => ?_)
    refine ar_aload_n (pc := 10) d_Mo_planned_10 rfl ?_
    refine ar_getR (pc := 11) gf_Mo_120 d_Mo_planned_11 (by first | rfl | exact sh_wheel (by omega) | exact sh_milk (by omega)) (hF _ _ _ rfl) ?_
    refine ar_iload_n (pc := 14) d_Mo_planned_14 rfl ?_
    refine ar_iald (pc := 15) d_Mo_planned_15 rfl (i) (by omega) (by omega) (fun r_15 => ?_)
    refine ar_iload_n (pc := 16) d_Mo_planned_16 rfl ?_
    refine ar_icmp_ne (pc := 17) 27 d_Mo_planned_17 (by decide) ⟨by omega, by omega⟩ ⟨by omega, by omega⟩ (fun h_17 => ?_) (fun h_17 => ?_)
    refine ar_iinc (pc := 27) d_Mo_planned_27 rfl rfl (by decide) ?_
    refine ar_goto (pc := 30) 2 d_Mo_planned_30 (by decide) ?_
    rotate_left
    refine ar_aload_n (pc := 20) d_Mo_planned_20 rfl ?_
    refine ar_getR (pc := 21) gf_Mo_123 d_Mo_planned_21 (by first | rfl | exact sh_wheel (by omega) | exact sh_milk (by omega)) (hF _ _ _ rfl) ?_
    refine ar_iload_n (pc := 24) d_Mo_planned_24 rfl ?_
    refine ar_iald (pc := 25) d_Mo_planned_25 rfl (i) (by omega) (by omega) (fun r_25 => ?_)
    refine ar_iret (pc := 26) d_Mo_planned_26 rfl ?_
    rotate_left
    -- leaves: stop 2, ret 26
    · refine ar_mono (fun r G2 h => ?_) (ar_loc ih1 ⟨rfl, rfl, li_i rfl (by omega), trivial⟩)
      rw [pl_look, if_neg (by simpa using h_17)]
      exact h
    · rw [pl_look, if_pos (by simpa using h_17)]
      exact ⟨rfl, rfl⟩
theorem cm_Mo_planned (X : gx_T) (d : Nat) (G : mm_T) {w : Int} (hF : fx_R G) (hw : i3_in w) {c : Nat} (hc : mm_I G 60 55 = c) (hc2 : c ≤ 10) : aw_M X (d + 1) mt_Mo_planned [av_r (some 60), av_i w] G 0 0 (fun r G' => r = some (av_i (pl_look (mm_I G 96) (mm_I G 97) w c)) ∧ G' = G) := by
  have h := lp_Mo_planned X d G hF hw hc hc2 c 0 (by omega)
  simp only [Nat.zero_add] at h
  refine aw_enter pf_Mo_planned (Nat.le_of_ble_eq_true rfl) ?_
  refine ar_iconst (pc := 0) d_Mo_planned_0 ?_
  refine ar_istore_n (pc := 1) d_Mo_planned_1 rfl (by decide) ?_
  rotate_left
  -- leaves: stop 2
  · exact ar_loc h ⟨rfl, rfl, rfl, trivial⟩
