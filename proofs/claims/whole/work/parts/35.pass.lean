def xw_G (G : mm_T) (k : Nat) : Prop := (-1 ≤ mm_I G (300 + k) 4 ∧ mm_I G (300 + k) 4 ≤ 23) ∧ (0 ≤ mm_I G (300 + k) 2 ∧ mm_I G (300 + k) 2 ≤ 100000) ∧ (0 ≤ mm_I G (300 + k) 6 ∧ mm_I G (300 + k) 6 ≤ 1000000) ∧ sr_I (mm_I G (300 + k) 7, mm_I G (300 + k) 8, mm_I G (300 + k) 9)
def sh_G (G : mm_T) : Prop := (∀ k, k < 24 → 0 ≤ mm_I G 2 k ∧ mm_I G 2 k ≤ 9) ∧ (∀ k, k < 4 → 0 ≤ mm_I G 3 k ∧ mm_I G 3 k ≤ 99)
theorem lp_K_passDay_a (X : gx_T) (d : Nat) {G : mm_T} {wc L : Nat} {f : Nat → Int} {le : Nat → Nat} {dd : Nat → Int} (hF : fx_R G) (hFW : fx_W G) (hR : mm_R G 0 11 = some 42) (hwc : mm_I G 0 14 = wc) (hwc2 : wc ≤ 40) (ht : 0 ≤ mm_I G 0 15 ∧ mm_I G 0 15 ≤ 99999) (hg : ∀ k, k < wc → xw_G G k) (hsh : sh_G G) (hW : pg_W f le dd L) (hP : xp_R_a G f le dd L) (hL : mm_I G 42 6 = L) : ∀ n j G1, j + n = wc → xd_F_a G G1 f le dd L j → aw_W X mt_K_passDay (d + 5) 2 [(0, some (av_r (some 0))), (1, some (av_i (j : Int)))] [] G1 0 0 (fun r G' => r = none ∧ ∃ G2, xd_F_a G G2 f le dd L wc ∧ G' = ms_I (ms_I G2 0 15 (mm_I G 0 15 + 1)) 24 11 1) := by
  intro n
  induction n with
  | zero =>
    intro j G1 hj hM
    have hj : j = wc := by omega
    subst hj
    have l0 := xd_lo_a hM (b := 0) (by omega) (by omega) (by omega) (by omega)
    have e14 : mm_I G1 0 14 = (j : Int) := by rw [l0]; exact hwc
    have e15 : mm_I G1 0 15 = mm_I G 0 15 := by rw [l0]
    have hF1 : fx_R G1 := fun a k b h => by rw [hM.1.1]; exact hF a k b h
    have hF := hF1
    refine ar_iload_n (pc := 2) d_K_passDay_2 rfl ?_
    refine ar_aload_n (pc := 3) d_K_passDay_3 rfl ?_
    refine ar_getIv (pc := 4) gf_K_115 d_K_passDay_4 (by first | rfl | exact sh_wheel (by omega) | exact sh_milk (by omega)) e14 (fun r_4 => ?_)
    refine ar_icmp_ge (pc := 7) 73 d_K_passDay_7 (by decide) ⟨by omega, by omega⟩ ⟨by omega, by omega⟩ (fun h_7 => ?_) (fun h_7 => by exfalso; omega)
    refine ar_aload_n (pc := 73) d_K_passDay_73 rfl ?_
    refine ar_dup (pc := 74) d_K_passDay_74 rfl ?_
    refine ar_getIv (pc := 75) gf_K_132 d_K_passDay_75 (by first | rfl | exact sh_wheel (by omega) | exact sh_milk (by omega)) e15 (fun r_75 => ?_)
    refine ar_iconst (pc := 78) d_K_passDay_78 ?_
    refine ar_iadd (pc := 79) d_K_passDay_79 ?_
    refine ar_putI (pc := 80) gf_K_132 d_K_passDay_80 rfl (by first | rfl | exact sh_wheel (by omega) | exact sh_milk (by omega)) ⟨by omega, by omega⟩ ?_
    refine ar_aload_n (pc := 83) d_K_passDay_83 rfl ?_
    refine ar_getR (pc := 84) gf_K_52 d_K_passDay_84 (by first | rfl | exact sh_wheel (by omega) | exact sh_milk (by omega)) (hF _ _ _ rfl) ?_
    refine ac_virt (pc := 87) (N := mt_Pl_spoil) _ _ mv_Pl_spoil ml_K_94 ck_4 d_K_passDay_87 (cm_Pl_spoil _ _ _) (by first | rfl | exact sh_wheel (by omega) | exact sh_milk (by omega)) rfl rfl (Nat.le_of_ble_eq_true rfl) (Nat.le_of_eq (Nat.zero_add _)) (Nat.le_of_eq (Nat.zero_add _)) (fun r_87 G_87 h_87 => ?_)
    obtain ⟨rfl, e_87⟩ := h_87
    subst G_87
    refine ar_ret (pc := 90) d_K_passDay_90 rfl ?_
    rotate_left
    -- leaves: ret 90
    · exact ⟨rfl, G1, hM, rfl⟩
  | succ n ih =>
    intro j G1 hj hM
    have l0 := xd_lo_a hM (b := 0) (by omega) (by omega) (by omega) (by omega)
    have l2 := xd_lo_a hM (b := 2) (by omega) (by omega) (by omega) (by omega)
    have l3 := xd_lo_a hM (b := 3) (by omega) (by omega) (by omega) (by omega)
    have rd := xd_rd_a hM
    have e14 : mm_I G1 0 14 = (wc : Int) := by rw [l0]; exact hwc
    have e15 : mm_I G1 0 15 = mm_I G 0 15 := by rw [l0]
    have hF1 : fx_R G1 := fun a k b h => by rw [hM.1.1]; exact hF a k b h
    have hR1 : mm_R G1 0 11 = some 42 := by rw [hM.1.1]; exact hR
    have hW1 : fx_W G1 := by unfold fx_W at hFW ⊢; rw [l0, hM.1.1]; exact hFW
    have hlw := cm_K_lyingWheel X (d + 2) G1 (m := (j : Int)) hF1 hW1 ⟨by omega, by omega⟩
    rw [Int.toNat_natCast] at hlw
    obtain ⟨g4, g2, g6, gs⟩ := hg j (by omega)
    by_cases hl : mm_I G1 (300 + j) 4 ≠ -1
    · have hl0 : mm_I G (300 + j) 4 ≠ -1 := by rw [← rd]; exact hl
      rw [if_pos ⟨by omega, hl⟩] at hlw
      have i1 := fun G2 h => ih (j + 1) G2 (by omega) (xd_yes_a (G2 := G2) hM hl0 h)
      unfold xd4 day4 at i1
      have ha := hsh.1 (mm_I G (300 + j) 4).toNat (by omega)
      have hd := hsh.2 (mm_I G (300 + j) 4 / 6).toNat (by omega)
      have c28 := cm_Sh_airAt X (d + 2) G1 (s := mm_I G1 (300 + j) 4) hF1 (by rw [rd]; exact ⟨by omega, by omega⟩)
      have c40 := cm_Sh_dampAt X (d + 2) G1 (s := mm_I G1 (300 + j) 4) hF1 (by rw [rd]; exact ⟨by omega, by omega⟩)
      rw [if_pos (by rw [rd]; omega)] at c28 c40
      have hP1 : xp_R_a G1 f le dd L := by
        refine ⟨?_, fun k hk => ?_, fun k hk => ?_⟩
        · rw [xd_lo_a hM (b := 43) (by omega) (by omega) (by omega) (by omega)]; exact hP.1
        · rw [xd_lo_a hM (b := 44) (by omega) (by omega) (by omega) (by omega)]; exact hP.2.1 k hk
        · rw [xd_lo_a hM (b := 45) (by omega) (by omega) (by omega) (by omega)]; exact hP.2.2 k hk
      have hL1 : mm_I G1 42 6 = L := by rw [hM.2.1 42 6 (by omega) (by omega) (by omega) (fun ⟨k, k1, k2, _⟩ => by omega)]; exact hL
      have ha1 : 0 ≤ mm_I G1 2 (mm_I G1 (300 + j) 4).toNat ∧ mm_I G1 2 (mm_I G1 (300 + j) 4).toNat ≤ 9 := by rw [rd, l2]; exact ha
      have hd1 : 0 ≤ mm_I G1 3 (mm_I G1 (300 + j) 4 / 6).toNat ∧ mm_I G1 3 (mm_I G1 (300 + j) 4 / 6).toNat ≤ 99 := by rw [rd, l3]; exact hd
      have gs1 : sr_I (mm_I G1 (300 + j) 7, mm_I G1 (300 + j) 8, mm_I G1 (300 + j) 9) := by rw [rd, rd, rd]; exact gs
      have c57 := cm_Or_obeyFor_a X d G1 (w := j) (ai := mm_I G1 2 (mm_I G1 (300 + j) 4).toNat) (da := mm_I G1 3 (mm_I G1 (300 + j) 4 / 6).toNat) (td := mm_I G1 0 15) hF1 (by omega) ⟨by omega, by omega⟩ ⟨by omega, by omega⟩ (by rw [e15]; omega) (by rw [rd]; exact g2) hW hP1 hL1 gs1
      have c64 := fun G2 (u : Int × Int × Int) (hu : sr_I u) h => xr_rip_a X (d + 1) (G := G1) (G1 := G2) (w := j) (s := u) (ai := mm_I G1 2 (mm_I G1 (300 + j) 4).toNat) (da := mm_I G1 3 (mm_I G1 (300 + j) 4 / 6).toNat) (td := mm_I G1 0 15) (by omega) h hu ha1 hd1 (by rw [rd]; exact g6)
      clear ih hg hsh hP hW hM l0 l2 l3 e15 rd
      have hF := hF1
      refine ar_iload_n (pc := 2) d_K_passDay_2 rfl ?_
      refine ar_aload_n (pc := 3) d_K_passDay_3 rfl ?_
      refine ar_getIv (pc := 4) gf_K_115 d_K_passDay_4 (by first | rfl | exact sh_wheel (by omega) | exact sh_milk (by omega)) e14 (fun r_4 => ?_)
      refine ar_icmp_ge (pc := 7) 73 d_K_passDay_7 (by decide) ⟨by omega, by omega⟩ ⟨by omega, by omega⟩ (fun h_7 => by exfalso; omega) (fun h_7 => ?_)
      refine ar_aload_n (pc := 10) d_K_passDay_10 rfl ?_
      refine ar_iload_n (pc := 11) d_K_passDay_11 rfl ?_
      refine ac_virt (pc := 12) (N := mt_K_lyingWheel) _ _ mv_K_lyingWheel ml_K_125 ck_11 d_K_passDay_12 hlw (by first | rfl | exact sh_wheel (by omega) | exact sh_milk (by omega)) rfl rfl (Nat.le_of_ble_eq_true rfl) (Nat.le_of_eq (Nat.zero_add _)) (Nat.le_of_eq (Nat.zero_add _)) (fun r_12 G_12 h_12 => ?_)
      obtain ⟨rfl, e_12⟩ := h_12
      subst G_12
      refine ar_astore_n (pc := 15) d_K_passDay_15 rfl (by decide) ?_
      refine ar_aload_n (pc := 16) d_K_passDay_16 rfl ?_
      refine ar_ifnull (pc := 17) 67 d_K_passDay_17 (by decide) (fun h => by cases h) (fun _ _ => ?_)
      refine ar_aload_n (pc := 20) d_K_passDay_20 rfl ?_
      refine ar_getR (pc := 21) gf_K_10 d_K_passDay_21 (by first | rfl | exact sh_wheel (by omega) | exact sh_milk (by omega)) (hF _ _ _ rfl) ?_
      refine ar_aload_n (pc := 24) d_K_passDay_24 rfl ?_
      refine ar_getI (pc := 25) gf_K_138 d_K_passDay_25 (by first | rfl | exact sh_wheel (by omega) | exact sh_milk (by omega)) (fun r_25 => ?_)
      refine ac_virt (pc := 28) (N := mt_Sh_airAt) _ _ mv_Sh_airAt ml_K_302 ck_6 d_K_passDay_28 c28 (by first | rfl | exact sh_wheel (by omega) | exact sh_milk (by omega)) rfl rfl (Nat.le_of_ble_eq_true rfl) (Nat.le_of_eq (Nat.zero_add _)) (Nat.le_of_eq (Nat.zero_add _)) (fun r_28 G_28 h_28 => ?_)
      obtain ⟨rfl, e_28⟩ := h_28
      subst G_28
      refine ar_istore_n (pc := 31) d_K_passDay_31 rfl (by decide) ?_
      refine ar_aload_n (pc := 32) d_K_passDay_32 rfl ?_
      refine ar_getR (pc := 33) gf_K_10 d_K_passDay_33 (by first | rfl | exact sh_wheel (by omega) | exact sh_milk (by omega)) (hF _ _ _ rfl) ?_
      refine ar_aload_n (pc := 36) d_K_passDay_36 rfl ?_
      refine ar_getI (pc := 37) gf_K_138 d_K_passDay_37 (by first | rfl | exact sh_wheel (by omega) | exact sh_milk (by omega)) (fun r_37 => ?_)
      refine ac_virt (pc := 40) (N := mt_Sh_dampAt) _ _ mv_Sh_dampAt ml_K_305 ck_6 d_K_passDay_40 c40 (by first | rfl | exact sh_wheel (by omega) | exact sh_milk (by omega)) rfl rfl (Nat.le_of_ble_eq_true rfl) (Nat.le_of_eq (Nat.zero_add _)) (Nat.le_of_eq (Nat.zero_add _)) (fun r_40 G_40 h_40 => ?_)
      obtain ⟨rfl, e_40⟩ := h_40
      subst G_40
      refine ar_istore (pc := 43) d_K_passDay_43 rfl (by decide) ?_
      refine ar_aload_n (pc := 45) d_K_passDay_45 rfl ?_
      refine ar_getR (pc := 46) gf_K_80 d_K_passDay_46 (by first | rfl | exact sh_wheel (by omega) | exact sh_milk (by omega)) hR1 ?_
      refine ar_aload_n (pc := 49) d_K_passDay_49 rfl ?_
      refine ar_iload_n (pc := 50) d_K_passDay_50 rfl ?_
      refine ar_iload (pc := 51) d_K_passDay_51 rfl ?_
      refine ar_aload_n (pc := 53) d_K_passDay_53 rfl ?_
      refine ar_getI (pc := 54) gf_K_132 d_K_passDay_54 (by first | rfl | exact sh_wheel (by omega) | exact sh_milk (by omega)) (fun r_54 => ?_)
      refine ac_virt (pc := 57) (N := mt_Or_obeyFor) _ _ mv_Or_obeyFor ml_K_308 ck_3 d_K_passDay_57 c57 (by first | rfl | exact sh_wheel (by omega) | exact sh_milk (by omega)) rfl rfl (Nat.le_of_ble_eq_true rfl) (Nat.le_of_eq (Nat.zero_add _)) (Nat.le_of_eq (Nat.zero_add _)) (fun r_57 G_57 h_57 => ?_)
      obtain ⟨rfl, q57⟩ := h_57
      refine ar_aload_n (pc := 60) d_K_passDay_60 rfl ?_
      refine ar_iload_n (pc := 61) d_K_passDay_61 rfl ?_
      refine ar_iload (pc := 62) d_K_passDay_62 rfl ?_
      refine ac_virt (pc := 64) (N := mt_Wh_ripen) _ _ mv_Wh_ripen ml_K_312 ck_10 d_K_passDay_64 (c64 _ _ (dy_I gs1 L) q57) (by first | rfl | exact sh_wheel (by omega) | exact sh_milk (by omega)) rfl rfl (Nat.le_of_ble_eq_true rfl) (Nat.le_of_eq (Nat.zero_add _)) (Nat.le_of_eq (Nat.zero_add _)) (fun r_64 G_64 h_64 => ?_)
      obtain ⟨rfl, q64⟩ := h_64
      refine ar_iinc (pc := 67) d_K_passDay_67 rfl rfl (by decide) ?_
      refine ar_goto (pc := 70) 2 d_K_passDay_70 (by decide) ?_
      rotate_left
      -- leaves: stop 2
      · exact ar_loc (i1 _ q64) ⟨rfl, li_i rfl (by omega), trivial⟩
    · rw [if_neg (fun z => hl z.2)] at hlw
      have k1 := ih (j + 1) G1 (by omega) (xd_no_a hM (by rw [← rd]; omega))
      clear ih hg
      have hF := hF1
      refine ar_iload_n (pc := 2) d_K_passDay_2 rfl ?_
      refine ar_aload_n (pc := 3) d_K_passDay_3 rfl ?_
      refine ar_getIv (pc := 4) gf_K_115 d_K_passDay_4 (by first | rfl | exact sh_wheel (by omega) | exact sh_milk (by omega)) e14 (fun r_4 => ?_)
      refine ar_icmp_ge (pc := 7) 73 d_K_passDay_7 (by decide) ⟨by omega, by omega⟩ ⟨by omega, by omega⟩ (fun h_7 => by exfalso; omega) (fun h_7 => ?_)
      refine ar_aload_n (pc := 10) d_K_passDay_10 rfl ?_
      refine ar_iload_n (pc := 11) d_K_passDay_11 rfl ?_
      refine ac_virt (pc := 12) (N := mt_K_lyingWheel) _ _ mv_K_lyingWheel ml_K_125 ck_11 d_K_passDay_12 hlw (by first | rfl | exact sh_wheel (by omega) | exact sh_milk (by omega)) rfl rfl (Nat.le_of_ble_eq_true rfl) (Nat.le_of_eq (Nat.zero_add _)) (Nat.le_of_eq (Nat.zero_add _)) (fun r_12 G_12 h_12 => ?_)
      obtain ⟨rfl, e_12⟩ := h_12
      subst G_12
      refine ar_astore_n (pc := 15) d_K_passDay_15 rfl (by decide) ?_
      refine ar_aload_n (pc := 16) d_K_passDay_16 rfl ?_
      refine ar_ifnull (pc := 17) 67 d_K_passDay_17 (by decide) (fun _ => ?_) (fun _ h => by cases h)
      refine ar_iinc (pc := 67) d_K_passDay_67 rfl rfl (by decide) ?_
      refine ar_goto (pc := 70) 2 d_K_passDay_70 (by decide) ?_
      rotate_left
      -- leaves: stop 2
      · exact ar_loc k1 ⟨rfl, li_i rfl (by omega), trivial⟩
theorem cm_K_passDay_a (X : gx_T) (d : Nat) (G : mm_T) {wc L : Nat} {f : Nat → Int} {le : Nat → Nat} {dd : Nat → Int} (hF : fx_R G) (hFW : fx_W G) (hR : mm_R G 0 11 = some 42) (hwc : mm_I G 0 14 = wc) (hwc2 : wc ≤ 40) (ht : 0 ≤ mm_I G 0 15 ∧ mm_I G 0 15 ≤ 99999) (hg : ∀ k, k < wc → xw_G G k) (hsh : sh_G G) (hW : pg_W f le dd L) (hP : xp_R_a G f le dd L) (hL : mm_I G 42 6 = L) : aw_M X (d + 5) mt_K_passDay [av_r (some 0)] G 0 0 (fun r G' => r = none ∧ ∃ G2, xd_F_a G G2 f le dd L wc ∧ G' = ms_I (ms_I G2 0 15 (mm_I G 0 15 + 1)) 24 11 1) := by
  have h := lp_K_passDay_a X d hF hFW hR hwc hwc2 ht hg hsh hW hP hL wc 0 G (by omega) ⟨⟨rfl, rfl, rfl⟩, fun _ _ _ _ _ _ => rfl, fun k hk => by omega⟩
  refine aw_enter pf_K_passDay (Nat.le_of_ble_eq_true rfl) ?_
  refine ar_iconst (pc := 0) d_K_passDay_0 ?_
  refine ar_istore_n (pc := 1) d_K_passDay_1 rfl (by decide) ?_
  rotate_left
  -- leaves: stop 2
  · exact ar_loc h ⟨rfl, rfl, trivial⟩
theorem lp_K_passDay_b (X : gx_T) (d : Nat) {G : mm_T} {wc L : Nat} {f : Nat → Int} {le : Nat → Nat} {dd : Nat → Int} (hF : fx_R G) (hFW : fx_W G) (hR : mm_R G 0 11 = some 48) (hwc : mm_I G 0 14 = wc) (hwc2 : wc ≤ 40) (ht : 0 ≤ mm_I G 0 15 ∧ mm_I G 0 15 ≤ 99999) (hg : ∀ k, k < wc → xw_G G k) (hsh : sh_G G) (hW : pg_W f le dd L) (hP : xp_R_b G f le dd L) (hL : mm_I G 48 6 = L) : ∀ n j G1, j + n = wc → xd_F_b G G1 f le dd L j → aw_W X mt_K_passDay (d + 5) 2 [(0, some (av_r (some 0))), (1, some (av_i (j : Int)))] [] G1 0 0 (fun r G' => r = none ∧ ∃ G2, xd_F_b G G2 f le dd L wc ∧ G' = ms_I (ms_I G2 0 15 (mm_I G 0 15 + 1)) 24 11 1) := by
  intro n
  induction n with
  | zero =>
    intro j G1 hj hM
    have hj : j = wc := by omega
    subst hj
    have l0 := xd_lo_b hM (b := 0) (by omega) (by omega) (by omega) (by omega)
    have e14 : mm_I G1 0 14 = (j : Int) := by rw [l0]; exact hwc
    have e15 : mm_I G1 0 15 = mm_I G 0 15 := by rw [l0]
    have hF1 : fx_R G1 := fun a k b h => by rw [hM.1.1]; exact hF a k b h
    have hF := hF1
    refine ar_iload_n (pc := 2) d_K_passDay_2 rfl ?_
    refine ar_aload_n (pc := 3) d_K_passDay_3 rfl ?_
    refine ar_getIv (pc := 4) gf_K_115 d_K_passDay_4 (by first | rfl | exact sh_wheel (by omega) | exact sh_milk (by omega)) e14 (fun r_4 => ?_)
    refine ar_icmp_ge (pc := 7) 73 d_K_passDay_7 (by decide) ⟨by omega, by omega⟩ ⟨by omega, by omega⟩ (fun h_7 => ?_) (fun h_7 => by exfalso; omega)
    refine ar_aload_n (pc := 73) d_K_passDay_73 rfl ?_
    refine ar_dup (pc := 74) d_K_passDay_74 rfl ?_
    refine ar_getIv (pc := 75) gf_K_132 d_K_passDay_75 (by first | rfl | exact sh_wheel (by omega) | exact sh_milk (by omega)) e15 (fun r_75 => ?_)
    refine ar_iconst (pc := 78) d_K_passDay_78 ?_
    refine ar_iadd (pc := 79) d_K_passDay_79 ?_
    refine ar_putI (pc := 80) gf_K_132 d_K_passDay_80 rfl (by first | rfl | exact sh_wheel (by omega) | exact sh_milk (by omega)) ⟨by omega, by omega⟩ ?_
    refine ar_aload_n (pc := 83) d_K_passDay_83 rfl ?_
    refine ar_getR (pc := 84) gf_K_52 d_K_passDay_84 (by first | rfl | exact sh_wheel (by omega) | exact sh_milk (by omega)) (hF _ _ _ rfl) ?_
    refine ac_virt (pc := 87) (N := mt_Pl_spoil) _ _ mv_Pl_spoil ml_K_94 ck_4 d_K_passDay_87 (cm_Pl_spoil _ _ _) (by first | rfl | exact sh_wheel (by omega) | exact sh_milk (by omega)) rfl rfl (Nat.le_of_ble_eq_true rfl) (Nat.le_of_eq (Nat.zero_add _)) (Nat.le_of_eq (Nat.zero_add _)) (fun r_87 G_87 h_87 => ?_)
    obtain ⟨rfl, e_87⟩ := h_87
    subst G_87
    refine ar_ret (pc := 90) d_K_passDay_90 rfl ?_
    rotate_left
    -- leaves: ret 90
    · exact ⟨rfl, G1, hM, rfl⟩
  | succ n ih =>
    intro j G1 hj hM
    have l0 := xd_lo_b hM (b := 0) (by omega) (by omega) (by omega) (by omega)
    have l2 := xd_lo_b hM (b := 2) (by omega) (by omega) (by omega) (by omega)
    have l3 := xd_lo_b hM (b := 3) (by omega) (by omega) (by omega) (by omega)
    have rd := xd_rd_b hM
    have e14 : mm_I G1 0 14 = (wc : Int) := by rw [l0]; exact hwc
    have e15 : mm_I G1 0 15 = mm_I G 0 15 := by rw [l0]
    have hF1 : fx_R G1 := fun a k b h => by rw [hM.1.1]; exact hF a k b h
    have hR1 : mm_R G1 0 11 = some 48 := by rw [hM.1.1]; exact hR
    have hW1 : fx_W G1 := by unfold fx_W at hFW ⊢; rw [l0, hM.1.1]; exact hFW
    have hlw := cm_K_lyingWheel X (d + 2) G1 (m := (j : Int)) hF1 hW1 ⟨by omega, by omega⟩
    rw [Int.toNat_natCast] at hlw
    obtain ⟨g4, g2, g6, gs⟩ := hg j (by omega)
    by_cases hl : mm_I G1 (300 + j) 4 ≠ -1
    · have hl0 : mm_I G (300 + j) 4 ≠ -1 := by rw [← rd]; exact hl
      rw [if_pos ⟨by omega, hl⟩] at hlw
      have i1 := fun G2 h => ih (j + 1) G2 (by omega) (xd_yes_b (G2 := G2) hM hl0 h)
      unfold xd4 day4 at i1
      have ha := hsh.1 (mm_I G (300 + j) 4).toNat (by omega)
      have hd := hsh.2 (mm_I G (300 + j) 4 / 6).toNat (by omega)
      have c28 := cm_Sh_airAt X (d + 2) G1 (s := mm_I G1 (300 + j) 4) hF1 (by rw [rd]; exact ⟨by omega, by omega⟩)
      have c40 := cm_Sh_dampAt X (d + 2) G1 (s := mm_I G1 (300 + j) 4) hF1 (by rw [rd]; exact ⟨by omega, by omega⟩)
      rw [if_pos (by rw [rd]; omega)] at c28 c40
      have hP1 : xp_R_b G1 f le dd L := by
        refine ⟨?_, fun k hk => ?_, fun k hk => ?_⟩
        · rw [xd_lo_b hM (b := 49) (by omega) (by omega) (by omega) (by omega)]; exact hP.1
        · rw [xd_lo_b hM (b := 50) (by omega) (by omega) (by omega) (by omega)]; exact hP.2.1 k hk
        · rw [xd_lo_b hM (b := 51) (by omega) (by omega) (by omega) (by omega)]; exact hP.2.2 k hk
      have hL1 : mm_I G1 48 6 = L := by rw [hM.2.1 48 6 (by omega) (by omega) (by omega) (fun ⟨k, k1, k2, _⟩ => by omega)]; exact hL
      have ha1 : 0 ≤ mm_I G1 2 (mm_I G1 (300 + j) 4).toNat ∧ mm_I G1 2 (mm_I G1 (300 + j) 4).toNat ≤ 9 := by rw [rd, l2]; exact ha
      have hd1 : 0 ≤ mm_I G1 3 (mm_I G1 (300 + j) 4 / 6).toNat ∧ mm_I G1 3 (mm_I G1 (300 + j) 4 / 6).toNat ≤ 99 := by rw [rd, l3]; exact hd
      have gs1 : sr_I (mm_I G1 (300 + j) 7, mm_I G1 (300 + j) 8, mm_I G1 (300 + j) 9) := by rw [rd, rd, rd]; exact gs
      have c57 := cm_Or_obeyFor_b X d G1 (w := j) (ai := mm_I G1 2 (mm_I G1 (300 + j) 4).toNat) (da := mm_I G1 3 (mm_I G1 (300 + j) 4 / 6).toNat) (td := mm_I G1 0 15) hF1 (by omega) ⟨by omega, by omega⟩ ⟨by omega, by omega⟩ (by rw [e15]; omega) (by rw [rd]; exact g2) hW hP1 hL1 gs1
      have c64 := fun G2 (u : Int × Int × Int) (hu : sr_I u) h => xr_rip_b X (d + 1) (G := G1) (G1 := G2) (w := j) (s := u) (ai := mm_I G1 2 (mm_I G1 (300 + j) 4).toNat) (da := mm_I G1 3 (mm_I G1 (300 + j) 4 / 6).toNat) (td := mm_I G1 0 15) (by omega) h hu ha1 hd1 (by rw [rd]; exact g6)
      clear ih hg hsh hP hW hM l0 l2 l3 e15 rd
      have hF := hF1
      refine ar_iload_n (pc := 2) d_K_passDay_2 rfl ?_
      refine ar_aload_n (pc := 3) d_K_passDay_3 rfl ?_
      refine ar_getIv (pc := 4) gf_K_115 d_K_passDay_4 (by first | rfl | exact sh_wheel (by omega) | exact sh_milk (by omega)) e14 (fun r_4 => ?_)
      refine ar_icmp_ge (pc := 7) 73 d_K_passDay_7 (by decide) ⟨by omega, by omega⟩ ⟨by omega, by omega⟩ (fun h_7 => by exfalso; omega) (fun h_7 => ?_)
      refine ar_aload_n (pc := 10) d_K_passDay_10 rfl ?_
      refine ar_iload_n (pc := 11) d_K_passDay_11 rfl ?_
      refine ac_virt (pc := 12) (N := mt_K_lyingWheel) _ _ mv_K_lyingWheel ml_K_125 ck_11 d_K_passDay_12 hlw (by first | rfl | exact sh_wheel (by omega) | exact sh_milk (by omega)) rfl rfl (Nat.le_of_ble_eq_true rfl) (Nat.le_of_eq (Nat.zero_add _)) (Nat.le_of_eq (Nat.zero_add _)) (fun r_12 G_12 h_12 => ?_)
      obtain ⟨rfl, e_12⟩ := h_12
      subst G_12
      refine ar_astore_n (pc := 15) d_K_passDay_15 rfl (by decide) ?_
      refine ar_aload_n (pc := 16) d_K_passDay_16 rfl ?_
      refine ar_ifnull (pc := 17) 67 d_K_passDay_17 (by decide) (fun h => by cases h) (fun _ _ => ?_)
      refine ar_aload_n (pc := 20) d_K_passDay_20 rfl ?_
      refine ar_getR (pc := 21) gf_K_10 d_K_passDay_21 (by first | rfl | exact sh_wheel (by omega) | exact sh_milk (by omega)) (hF _ _ _ rfl) ?_
      refine ar_aload_n (pc := 24) d_K_passDay_24 rfl ?_
      refine ar_getI (pc := 25) gf_K_138 d_K_passDay_25 (by first | rfl | exact sh_wheel (by omega) | exact sh_milk (by omega)) (fun r_25 => ?_)
      refine ac_virt (pc := 28) (N := mt_Sh_airAt) _ _ mv_Sh_airAt ml_K_302 ck_6 d_K_passDay_28 c28 (by first | rfl | exact sh_wheel (by omega) | exact sh_milk (by omega)) rfl rfl (Nat.le_of_ble_eq_true rfl) (Nat.le_of_eq (Nat.zero_add _)) (Nat.le_of_eq (Nat.zero_add _)) (fun r_28 G_28 h_28 => ?_)
      obtain ⟨rfl, e_28⟩ := h_28
      subst G_28
      refine ar_istore_n (pc := 31) d_K_passDay_31 rfl (by decide) ?_
      refine ar_aload_n (pc := 32) d_K_passDay_32 rfl ?_
      refine ar_getR (pc := 33) gf_K_10 d_K_passDay_33 (by first | rfl | exact sh_wheel (by omega) | exact sh_milk (by omega)) (hF _ _ _ rfl) ?_
      refine ar_aload_n (pc := 36) d_K_passDay_36 rfl ?_
      refine ar_getI (pc := 37) gf_K_138 d_K_passDay_37 (by first | rfl | exact sh_wheel (by omega) | exact sh_milk (by omega)) (fun r_37 => ?_)
      refine ac_virt (pc := 40) (N := mt_Sh_dampAt) _ _ mv_Sh_dampAt ml_K_305 ck_6 d_K_passDay_40 c40 (by first | rfl | exact sh_wheel (by omega) | exact sh_milk (by omega)) rfl rfl (Nat.le_of_ble_eq_true rfl) (Nat.le_of_eq (Nat.zero_add _)) (Nat.le_of_eq (Nat.zero_add _)) (fun r_40 G_40 h_40 => ?_)
      obtain ⟨rfl, e_40⟩ := h_40
      subst G_40
      refine ar_istore (pc := 43) d_K_passDay_43 rfl (by decide) ?_
      refine ar_aload_n (pc := 45) d_K_passDay_45 rfl ?_
      refine ar_getR (pc := 46) gf_K_80 d_K_passDay_46 (by first | rfl | exact sh_wheel (by omega) | exact sh_milk (by omega)) hR1 ?_
      refine ar_aload_n (pc := 49) d_K_passDay_49 rfl ?_
      refine ar_iload_n (pc := 50) d_K_passDay_50 rfl ?_
      refine ar_iload (pc := 51) d_K_passDay_51 rfl ?_
      refine ar_aload_n (pc := 53) d_K_passDay_53 rfl ?_
      refine ar_getI (pc := 54) gf_K_132 d_K_passDay_54 (by first | rfl | exact sh_wheel (by omega) | exact sh_milk (by omega)) (fun r_54 => ?_)
      refine ac_virt (pc := 57) (N := mt_Or_obeyFor) _ _ mv_Or_obeyFor ml_K_308 ck_3 d_K_passDay_57 c57 (by first | rfl | exact sh_wheel (by omega) | exact sh_milk (by omega)) rfl rfl (Nat.le_of_ble_eq_true rfl) (Nat.le_of_eq (Nat.zero_add _)) (Nat.le_of_eq (Nat.zero_add _)) (fun r_57 G_57 h_57 => ?_)
      obtain ⟨rfl, q57⟩ := h_57
      refine ar_aload_n (pc := 60) d_K_passDay_60 rfl ?_
      refine ar_iload_n (pc := 61) d_K_passDay_61 rfl ?_
      refine ar_iload (pc := 62) d_K_passDay_62 rfl ?_
      refine ac_virt (pc := 64) (N := mt_Wh_ripen) _ _ mv_Wh_ripen ml_K_312 ck_10 d_K_passDay_64 (c64 _ _ (dy_I gs1 L) q57) (by first | rfl | exact sh_wheel (by omega) | exact sh_milk (by omega)) rfl rfl (Nat.le_of_ble_eq_true rfl) (Nat.le_of_eq (Nat.zero_add _)) (Nat.le_of_eq (Nat.zero_add _)) (fun r_64 G_64 h_64 => ?_)
      obtain ⟨rfl, q64⟩ := h_64
      refine ar_iinc (pc := 67) d_K_passDay_67 rfl rfl (by decide) ?_
      refine ar_goto (pc := 70) 2 d_K_passDay_70 (by decide) ?_
      rotate_left
      -- leaves: stop 2
      · exact ar_loc (i1 _ q64) ⟨rfl, li_i rfl (by omega), trivial⟩
    · rw [if_neg (fun z => hl z.2)] at hlw
      have k1 := ih (j + 1) G1 (by omega) (xd_no_b hM (by rw [← rd]; omega))
      clear ih hg
      have hF := hF1
      refine ar_iload_n (pc := 2) d_K_passDay_2 rfl ?_
      refine ar_aload_n (pc := 3) d_K_passDay_3 rfl ?_
      refine ar_getIv (pc := 4) gf_K_115 d_K_passDay_4 (by first | rfl | exact sh_wheel (by omega) | exact sh_milk (by omega)) e14 (fun r_4 => ?_)
      refine ar_icmp_ge (pc := 7) 73 d_K_passDay_7 (by decide) ⟨by omega, by omega⟩ ⟨by omega, by omega⟩ (fun h_7 => by exfalso; omega) (fun h_7 => ?_)
      refine ar_aload_n (pc := 10) d_K_passDay_10 rfl ?_
      refine ar_iload_n (pc := 11) d_K_passDay_11 rfl ?_
      refine ac_virt (pc := 12) (N := mt_K_lyingWheel) _ _ mv_K_lyingWheel ml_K_125 ck_11 d_K_passDay_12 hlw (by first | rfl | exact sh_wheel (by omega) | exact sh_milk (by omega)) rfl rfl (Nat.le_of_ble_eq_true rfl) (Nat.le_of_eq (Nat.zero_add _)) (Nat.le_of_eq (Nat.zero_add _)) (fun r_12 G_12 h_12 => ?_)
      obtain ⟨rfl, e_12⟩ := h_12
      subst G_12
      refine ar_astore_n (pc := 15) d_K_passDay_15 rfl (by decide) ?_
      refine ar_aload_n (pc := 16) d_K_passDay_16 rfl ?_
      refine ar_ifnull (pc := 17) 67 d_K_passDay_17 (by decide) (fun _ => ?_) (fun _ h => by cases h)
      refine ar_iinc (pc := 67) d_K_passDay_67 rfl rfl (by decide) ?_
      refine ar_goto (pc := 70) 2 d_K_passDay_70 (by decide) ?_
      rotate_left
      -- leaves: stop 2
      · exact ar_loc k1 ⟨rfl, li_i rfl (by omega), trivial⟩
theorem cm_K_passDay_b (X : gx_T) (d : Nat) (G : mm_T) {wc L : Nat} {f : Nat → Int} {le : Nat → Nat} {dd : Nat → Int} (hF : fx_R G) (hFW : fx_W G) (hR : mm_R G 0 11 = some 48) (hwc : mm_I G 0 14 = wc) (hwc2 : wc ≤ 40) (ht : 0 ≤ mm_I G 0 15 ∧ mm_I G 0 15 ≤ 99999) (hg : ∀ k, k < wc → xw_G G k) (hsh : sh_G G) (hW : pg_W f le dd L) (hP : xp_R_b G f le dd L) (hL : mm_I G 48 6 = L) : aw_M X (d + 5) mt_K_passDay [av_r (some 0)] G 0 0 (fun r G' => r = none ∧ ∃ G2, xd_F_b G G2 f le dd L wc ∧ G' = ms_I (ms_I G2 0 15 (mm_I G 0 15 + 1)) 24 11 1) := by
  have h := lp_K_passDay_b X d hF hFW hR hwc hwc2 ht hg hsh hW hP hL wc 0 G (by omega) ⟨⟨rfl, rfl, rfl⟩, fun _ _ _ _ _ _ => rfl, fun k hk => by omega⟩
  refine aw_enter pf_K_passDay (Nat.le_of_ble_eq_true rfl) ?_
  refine ar_iconst (pc := 0) d_K_passDay_0 ?_
  refine ar_istore_n (pc := 1) d_K_passDay_1 rfl (by decide) ?_
  rotate_left
  -- leaves: stop 2
  · exact ar_loc h ⟨rfl, rfl, trivial⟩
