/-! ===== reading terms, ones, sums: orders at 42 ===== -/
theorem rt_T_a (X : gx_T) (d : Nat) {K P N : Nat → Int} {G : mm_T} {n dep : Nat} (hT : tt_T K P N n G) (hF : fx_R G) (hd : dep < 8) (hE : ct_E_a X (d + 2) K P N n G (dep + 1)) : ct_T_a X (d + 3) K P N n G dep := by
  intro i v o G1 hi hv ho h
  obtain ⟨r1, r2, r3⟩ := hT.2.2.2.1 i hi
  obtain ⟨e1, e2, e3, e4, e5⟩ := h.2.2.1
  have n5 := hT.2.1
  by_cases k40 : K i = 40
  · have hin := tt_n hT hi (by omega)
    have c10 := cm_Re_step_a X (d + 1) hT hF h hin
    have hE1 := fun G2 q => hE (i + 1) v o G2 (by omega) hv (by omega) q
    clear hE
    refine aw_enter pf_Re_readTerm (Nat.le_of_ble_eq_true rfl) ?_
    refine ar_aload_n (pc := 0) d_Re_readTerm_0 rfl ?_
    refine ar_getIv (pc := 1) gf_Re_43 d_Re_readTerm_1 (by first | rfl | exact sh_wheel (by omega) | exact sh_milk (by omega)) e2 (fun r_1 => ?_)
    refine ar_bipush (pc := 4) d_Re_readTerm_4 (by decide) ?_
    refine ar_icmp_ne (pc := 6) 40 d_Re_readTerm_6 (by decide) ⟨by omega, by omega⟩ ⟨by omega, by omega⟩ (fun h_6 => by exfalso; omega) (fun h_6 => ?_)
    refine ar_aload_n (pc := 9) d_Re_readTerm_9 rfl ?_
    refine ac_virt (pc := 10) (N := mt_Re_step) _ _ mv_Re_step ml_Re_32 ck_5 d_Re_readTerm_10 c10 (by first | rfl | exact sh_wheel (by omega) | exact sh_milk (by omega)) rfl rfl (Nat.le_of_ble_eq_true rfl) (Nat.le_of_eq (Nat.zero_add _)) (Nat.le_of_eq (Nat.zero_add _)) (fun r_10 G_10 h_10 => ?_)
    obtain ⟨rfl, q10⟩ := h_10
    refine ar_aload_n (pc := 13) d_Re_readTerm_13 rfl ?_
    refine ar_iconst (pc := 14) d_Re_readTerm_14 ?_
    refine ar_iload_n (pc := 15) d_Re_readTerm_15 rfl ?_
    refine ar_iconst (pc := 16) d_Re_readTerm_16 ?_
    refine ar_iadd (pc := 17) d_Re_readTerm_17 ?_
    refine ar_aload_n (pc := 18) d_Re_readTerm_18 rfl ?_
    rw [show (dep : Int) + 1 = ((dep + 1 : Nat) : Int) by omega]
    refine ac_virt (pc := 19) (N := mt_Re_readJoined) _ _ mv_Re_readJoined ml_Re_76 ck_5 d_Re_readTerm_19 (hE1 G_10 q10) (by first | rfl | exact sh_wheel (by omega) | exact sh_milk (by omega)) rfl rfl (Nat.le_of_ble_eq_true rfl) (Nat.le_of_eq (Nat.zero_add _)) (Nat.le_of_eq (Nat.zero_add _)) (fun r_19 G_19 h_19 => ?_)
    obtain ⟨rfl, i1, v1, o1, ⟨hd1, hs1⟩, hp1⟩ | ⟨rfl, k1, p1, hb1, hq1⟩ := h_19
    rotate_left
    rotate_left
    -- leaves: stop 22, stop 22
    · obtain ⟨a1, a2, a3, a4⟩ := hd1
      have c28 := cm_Re_pass_a X d (e := 41) hT hF hp1 a2 (by omega)
      refine ar_if_eq (pc := 22) 38 d_Re_readTerm_22 (by decide) ⟨by omega, by omega⟩ (fun h_22 => by exfalso; omega) (fun h_22 => ?_)
      refine ar_aload_n (pc := 25) d_Re_readTerm_25 rfl ?_
      refine ar_bipush (pc := 26) d_Re_readTerm_26 (by decide) ?_
      refine ac_virt (pc := 28) (N := mt_Re_pass) _ _ mv_Re_pass ml_Re_73 ck_5 d_Re_readTerm_28 c28 (by first | rfl | exact sh_wheel (by omega) | exact sh_milk (by omega)) rfl rfl (Nat.le_of_ble_eq_true rfl) (Nat.le_of_eq (Nat.zero_add _)) (Nat.le_of_eq (Nat.zero_add _)) (fun r_28 G_28 h_28 => ?_)
      obtain ⟨⟨k41, hin2⟩, rfl, q28⟩ | ⟨k41, rfl, q28⟩ := h_28
      refine ar_if_eq (pc := 31) 38 d_Re_readTerm_31 (by decide) ⟨by omega, by omega⟩ (fun h_31 => ?_) (fun h_31 => ?_)
      refine ar_iconst (pc := 38) d_Re_readTerm_38 ?_
      refine ar_zret (pc := 39) d_Re_readTerm_39 rfl (by omega) ?_
      rotate_left
      refine ar_iconst (pc := 34) d_Re_readTerm_34 ?_
      refine ar_goto (pc := 35) 39 d_Re_readTerm_35 (by decide) ?_
      refine ar_zret (pc := 39) d_Re_readTerm_39 rfl (by omega) ?_
      rotate_left
      refine ar_if_eq (pc := 31) 38 d_Re_readTerm_31 (by decide) ⟨by omega, by omega⟩ (fun h_31 => ?_) (fun h_31 => ?_)
      refine ar_iconst (pc := 38) d_Re_readTerm_38 ?_
      refine ar_zret (pc := 39) d_Re_readTerm_39 rfl (by omega) ?_
      rotate_left
      refine ar_iconst (pc := 34) d_Re_readTerm_34 ?_
      refine ar_goto (pc := 35) 39 d_Re_readTerm_35 (by decide) ?_
      refine ar_zret (pc := 39) d_Re_readTerm_39 rfl (by omega) ?_
      rotate_left
      -- leaves: ret 39, ret 39, ret 39, ret 39
      · exfalso; omega
      · exact Or.inl ⟨rfl, i1 + 1, v1, o1, ⟨⟨by omega, by omega, a3, by omega⟩, t_par hd k40 hs1 k41⟩, q28⟩
      · exact Or.inr ⟨rfl, _, _, t_parb2 hd k40 hs1 k41, q28⟩
      · exfalso; omega
    · skip
      refine ar_if_eq (pc := 22) 38 d_Re_readTerm_22 (by decide) ⟨by omega, by omega⟩ (fun h_22 => ?_) (fun h_22 => by exfalso; omega)
      refine ar_iconst (pc := 38) d_Re_readTerm_38 ?_
      refine ar_zret (pc := 39) d_Re_readTerm_39 rfl (by omega) ?_
      rotate_left
      -- leaves: ret 39
      · exact Or.inr ⟨rfl, k1, p1, t_parb1 hd k40 hb1, hq1⟩
  · by_cases hop : K i = 302 ∨ (8 ≤ K i ∧ K i ≤ 17) ∨ K i = 303
    · by_cases v80 : v = 80
      · have c111 := cm_Re_refuse_a X (d + 1) (k := 2) hT h hi (by omega)
        have fin := t_bad2 (K := K) (P := P) (N := N) (o := o) hd (Or.inl ⟨v80, hop⟩)
        clear hE h
        refine aw_enter pf_Re_readTerm (Nat.le_of_ble_eq_true rfl) ?_
        refine ar_aload_n (pc := 0) d_Re_readTerm_0 rfl ?_
        refine ar_getIv (pc := 1) gf_Re_43 d_Re_readTerm_1 (by first | rfl | exact sh_wheel (by omega) | exact sh_milk (by omega)) e2 (fun r_1 => ?_)
        refine ar_bipush (pc := 4) d_Re_readTerm_4 (by decide) ?_
        refine ar_icmp_ne (pc := 6) 40 d_Re_readTerm_6 (by decide) ⟨by omega, by omega⟩ ⟨by omega, by omega⟩ (fun h_6 => ?_) (fun h_6 => by exfalso; omega)
        refine ar_aload_n (pc := 40) d_Re_readTerm_40 rfl ?_
        refine ar_getIv (pc := 41) gf_Re_43 d_Re_readTerm_41 (by first | rfl | exact sh_wheel (by omega) | exact sh_milk (by omega)) e2 (fun r_41 => ?_)
        refine ar_bipush (pc := 44) d_Re_readTerm_44 (by decide) ?_
        refine ar_icmp_lt (pc := 46) 62 d_Re_readTerm_46 (by decide) ⟨by omega, by omega⟩ ⟨by omega, by omega⟩ (fun h_46 => ?_) (fun h_46 => ?_)
        refine ar_iconst (pc := 62) d_Re_readTerm_62 ?_
        refine ar_istore_n (pc := 63) d_Re_readTerm_63 rfl (by decide) ?_
        refine ar_iload_n (pc := 64) d_Re_readTerm_64 rfl ?_
        refine ar_if_ne (pc := 65) 88 d_Re_readTerm_65 (by decide) ⟨by omega, by omega⟩ (fun h_65 => by exfalso; omega) (fun h_65 => ?_)
        refine ar_aload_n (pc := 68) d_Re_readTerm_68 rfl ?_
        refine ar_getIv (pc := 69) gf_Re_43 d_Re_readTerm_69 (by first | rfl | exact sh_wheel (by omega) | exact sh_milk (by omega)) e2 (fun r_69 => ?_)
        refine ar_sipush (pc := 72) d_Re_readTerm_72 (by decide) ?_
        refine ar_icmp_eq (pc := 75) 88 d_Re_readTerm_75 (by decide) ⟨by omega, by omega⟩ ⟨by omega, by omega⟩ (fun h_75 => ?_) (fun h_75 => ?_)
        refine ar_iconst (pc := 88) d_Re_readTerm_88 ?_
        refine ar_goto (pc := 89) 93 d_Re_readTerm_89 (by decide) ?_
        refine ar_istore (pc := 93) d_Re_readTerm_93 rfl (by decide) ?_
        rotate_left
        refine ar_aload_n (pc := 78) d_Re_readTerm_78 rfl ?_
        refine ar_getIv (pc := 79) gf_Re_43 d_Re_readTerm_79 (by first | rfl | exact sh_wheel (by omega) | exact sh_milk (by omega)) e2 (fun r_79 => ?_)
        refine ar_sipush (pc := 82) d_Re_readTerm_82 (by decide) ?_
        refine ar_icmp_ne (pc := 85) 92 d_Re_readTerm_85 (by decide) ⟨by omega, by omega⟩ ⟨by omega, by omega⟩ (fun h_85 => ?_) (fun h_85 => ?_)
        refine ar_iconst (pc := 92) d_Re_readTerm_92 ?_
        refine ar_istore (pc := 93) d_Re_readTerm_93 rfl (by decide) ?_
        rotate_left
        refine ar_iconst (pc := 88) d_Re_readTerm_88 ?_
        refine ar_goto (pc := 89) 93 d_Re_readTerm_89 (by decide) ?_
        refine ar_istore (pc := 93) d_Re_readTerm_93 rfl (by decide) ?_
        rotate_left
        refine ar_aload_n (pc := 49) d_Re_readTerm_49 rfl ?_
        refine ar_getIv (pc := 50) gf_Re_43 d_Re_readTerm_50 (by first | rfl | exact sh_wheel (by omega) | exact sh_milk (by omega)) e2 (fun r_50 => ?_)
        refine ar_bipush (pc := 53) d_Re_readTerm_53 (by decide) ?_
        refine ar_icmp_gt (pc := 55) 62 d_Re_readTerm_55 (by decide) ⟨by omega, by omega⟩ ⟨by omega, by omega⟩ (fun h_55 => ?_) (fun h_55 => ?_)
        refine ar_iconst (pc := 62) d_Re_readTerm_62 ?_
        refine ar_istore_n (pc := 63) d_Re_readTerm_63 rfl (by decide) ?_
        refine ar_iload_n (pc := 64) d_Re_readTerm_64 rfl ?_
        refine ar_if_ne (pc := 65) 88 d_Re_readTerm_65 (by decide) ⟨by omega, by omega⟩ (fun h_65 => by exfalso; omega) (fun h_65 => ?_)
        refine ar_aload_n (pc := 68) d_Re_readTerm_68 rfl ?_
        refine ar_getIv (pc := 69) gf_Re_43 d_Re_readTerm_69 (by first | rfl | exact sh_wheel (by omega) | exact sh_milk (by omega)) e2 (fun r_69 => ?_)
        refine ar_sipush (pc := 72) d_Re_readTerm_72 (by decide) ?_
        refine ar_icmp_eq (pc := 75) 88 d_Re_readTerm_75 (by decide) ⟨by omega, by omega⟩ ⟨by omega, by omega⟩ (fun h_75 => ?_) (fun h_75 => ?_)
        refine ar_iconst (pc := 88) d_Re_readTerm_88 ?_
        refine ar_goto (pc := 89) 93 d_Re_readTerm_89 (by decide) ?_
        refine ar_istore (pc := 93) d_Re_readTerm_93 rfl (by decide) ?_
        rotate_left
        refine ar_aload_n (pc := 78) d_Re_readTerm_78 rfl ?_
        refine ar_getIv (pc := 79) gf_Re_43 d_Re_readTerm_79 (by first | rfl | exact sh_wheel (by omega) | exact sh_milk (by omega)) e2 (fun r_79 => ?_)
        refine ar_sipush (pc := 82) d_Re_readTerm_82 (by decide) ?_
        refine ar_icmp_ne (pc := 85) 92 d_Re_readTerm_85 (by decide) ⟨by omega, by omega⟩ ⟨by omega, by omega⟩ (fun h_85 => ?_) (fun h_85 => ?_)
        refine ar_iconst (pc := 92) d_Re_readTerm_92 ?_
        refine ar_istore (pc := 93) d_Re_readTerm_93 rfl (by decide) ?_
        rotate_left
        refine ar_iconst (pc := 88) d_Re_readTerm_88 ?_
        refine ar_goto (pc := 89) 93 d_Re_readTerm_89 (by decide) ?_
        refine ar_istore (pc := 93) d_Re_readTerm_93 rfl (by decide) ?_
        rotate_left
        refine ar_iconst (pc := 58) d_Re_readTerm_58 ?_
        refine ar_goto (pc := 59) 63 d_Re_readTerm_59 (by decide) ?_
        refine ar_istore_n (pc := 63) d_Re_readTerm_63 rfl (by decide) ?_
        refine ar_iload_n (pc := 64) d_Re_readTerm_64 rfl ?_
        refine ar_if_ne (pc := 65) 88 d_Re_readTerm_65 (by decide) ⟨by omega, by omega⟩ (fun h_65 => ?_) (fun h_65 => by exfalso; omega)
        refine ar_iconst (pc := 88) d_Re_readTerm_88 ?_
        refine ar_goto (pc := 89) 93 d_Re_readTerm_89 (by decide) ?_
        refine ar_istore (pc := 93) d_Re_readTerm_93 rfl (by decide) ?_
        rotate_left
        -- leaves: stop 95, stop 95, stop 95, stop 95, stop 95, stop 95, stop 95
        all_goals first | (exfalso; omega) | skip
        all_goals skip
        · skip
          refine ar_iload (pc := 95) d_Re_readTerm_95 rfl ?_
          refine ar_if_eq (pc := 97) 109 d_Re_readTerm_97 (by decide) ⟨by omega, by omega⟩ (fun h_97 => by exfalso; omega) (fun h_97 => ?_)
          refine ar_aload_n (pc := 100) d_Re_readTerm_100 rfl ?_
          refine ar_getIv (pc := 101) gf_Re_35 d_Re_readTerm_101 (by first | rfl | exact sh_wheel (by omega) | exact sh_milk (by omega)) e5 (fun r_101 => ?_)
          refine ar_bipush (pc := 104) d_Re_readTerm_104 (by decide) ?_
          refine ar_icmp_lt (pc := 106) 115 d_Re_readTerm_106 (by decide) ⟨by omega, by omega⟩ ⟨by omega, by omega⟩ (fun h_106 => by exfalso; omega) (fun h_106 => ?_)
          refine ar_aload_n (pc := 109) d_Re_readTerm_109 rfl ?_
          refine ar_iconst (pc := 110) d_Re_readTerm_110 ?_
          refine ac_virt (pc := 111) (N := mt_Re_refuse) _ _ mv_Re_refuse ml_Re_50 ck_5 d_Re_readTerm_111 c111 (by first | rfl | exact sh_wheel (by omega) | exact sh_milk (by omega)) rfl rfl (Nat.le_of_ble_eq_true rfl) (Nat.le_of_eq (Nat.zero_add _)) (Nat.le_of_eq (Nat.zero_add _)) (fun r_111 G_111 h_111 => ?_)
          obtain ⟨rfl, q111⟩ := h_111
          refine ar_zret (pc := 114) d_Re_readTerm_114 rfl (by omega) ?_
          rotate_left
          -- leaves: ret 114
          · exact Or.inr ⟨rfl, _, _, fin, q111⟩
        · skip
          refine ar_iload (pc := 95) d_Re_readTerm_95 rfl ?_
          refine ar_if_eq (pc := 97) 109 d_Re_readTerm_97 (by decide) ⟨by omega, by omega⟩ (fun h_97 => by exfalso; omega) (fun h_97 => ?_)
          refine ar_aload_n (pc := 100) d_Re_readTerm_100 rfl ?_
          refine ar_getIv (pc := 101) gf_Re_35 d_Re_readTerm_101 (by first | rfl | exact sh_wheel (by omega) | exact sh_milk (by omega)) e5 (fun r_101 => ?_)
          refine ar_bipush (pc := 104) d_Re_readTerm_104 (by decide) ?_
          refine ar_icmp_lt (pc := 106) 115 d_Re_readTerm_106 (by decide) ⟨by omega, by omega⟩ ⟨by omega, by omega⟩ (fun h_106 => by exfalso; omega) (fun h_106 => ?_)
          refine ar_aload_n (pc := 109) d_Re_readTerm_109 rfl ?_
          refine ar_iconst (pc := 110) d_Re_readTerm_110 ?_
          refine ac_virt (pc := 111) (N := mt_Re_refuse) _ _ mv_Re_refuse ml_Re_50 ck_5 d_Re_readTerm_111 c111 (by first | rfl | exact sh_wheel (by omega) | exact sh_milk (by omega)) rfl rfl (Nat.le_of_ble_eq_true rfl) (Nat.le_of_eq (Nat.zero_add _)) (Nat.le_of_eq (Nat.zero_add _)) (fun r_111 G_111 h_111 => ?_)
          obtain ⟨rfl, q111⟩ := h_111
          refine ar_zret (pc := 114) d_Re_readTerm_114 rfl (by omega) ?_
          rotate_left
          -- leaves: ret 114
          · exact Or.inr ⟨rfl, _, _, fin, q111⟩
        · skip
          refine ar_iload (pc := 95) d_Re_readTerm_95 rfl ?_
          refine ar_if_eq (pc := 97) 109 d_Re_readTerm_97 (by decide) ⟨by omega, by omega⟩ (fun h_97 => by exfalso; omega) (fun h_97 => ?_)
          refine ar_aload_n (pc := 100) d_Re_readTerm_100 rfl ?_
          refine ar_getIv (pc := 101) gf_Re_35 d_Re_readTerm_101 (by first | rfl | exact sh_wheel (by omega) | exact sh_milk (by omega)) e5 (fun r_101 => ?_)
          refine ar_bipush (pc := 104) d_Re_readTerm_104 (by decide) ?_
          refine ar_icmp_lt (pc := 106) 115 d_Re_readTerm_106 (by decide) ⟨by omega, by omega⟩ ⟨by omega, by omega⟩ (fun h_106 => by exfalso; omega) (fun h_106 => ?_)
          refine ar_aload_n (pc := 109) d_Re_readTerm_109 rfl ?_
          refine ar_iconst (pc := 110) d_Re_readTerm_110 ?_
          refine ac_virt (pc := 111) (N := mt_Re_refuse) _ _ mv_Re_refuse ml_Re_50 ck_5 d_Re_readTerm_111 c111 (by first | rfl | exact sh_wheel (by omega) | exact sh_milk (by omega)) rfl rfl (Nat.le_of_ble_eq_true rfl) (Nat.le_of_eq (Nat.zero_add _)) (Nat.le_of_eq (Nat.zero_add _)) (fun r_111 G_111 h_111 => ?_)
          obtain ⟨rfl, q111⟩ := h_111
          refine ar_zret (pc := 114) d_Re_readTerm_114 rfl (by omega) ?_
          rotate_left
          -- leaves: ret 114
          · exact Or.inr ⟨rfl, _, _, fin, q111⟩
      · have hvv : v < 80 := by omega
        by_cases k303 : K i = 303
        · have c127 := cm_Re_refuse_a X (d + 1) (k := 3) hT h hi (by omega)
          have fin := t_bad3 (K := K) (P := P) (N := N) (o := o) hd hvv k303
          clear hE h
          refine aw_enter pf_Re_readTerm (Nat.le_of_ble_eq_true rfl) ?_
          refine ar_aload_n (pc := 0) d_Re_readTerm_0 rfl ?_
          refine ar_getIv (pc := 1) gf_Re_43 d_Re_readTerm_1 (by first | rfl | exact sh_wheel (by omega) | exact sh_milk (by omega)) e2 (fun r_1 => ?_)
          refine ar_bipush (pc := 4) d_Re_readTerm_4 (by decide) ?_
          refine ar_icmp_ne (pc := 6) 40 d_Re_readTerm_6 (by decide) ⟨by omega, by omega⟩ ⟨by omega, by omega⟩ (fun h_6 => ?_) (fun h_6 => by exfalso; omega)
          refine ar_aload_n (pc := 40) d_Re_readTerm_40 rfl ?_
          refine ar_getIv (pc := 41) gf_Re_43 d_Re_readTerm_41 (by first | rfl | exact sh_wheel (by omega) | exact sh_milk (by omega)) e2 (fun r_41 => ?_)
          refine ar_bipush (pc := 44) d_Re_readTerm_44 (by decide) ?_
          refine ar_icmp_lt (pc := 46) 62 d_Re_readTerm_46 (by decide) ⟨by omega, by omega⟩ ⟨by omega, by omega⟩ (fun h_46 => by exfalso; omega) (fun h_46 => ?_)
          refine ar_aload_n (pc := 49) d_Re_readTerm_49 rfl ?_
          refine ar_getIv (pc := 50) gf_Re_43 d_Re_readTerm_50 (by first | rfl | exact sh_wheel (by omega) | exact sh_milk (by omega)) e2 (fun r_50 => ?_)
          refine ar_bipush (pc := 53) d_Re_readTerm_53 (by decide) ?_
          refine ar_icmp_gt (pc := 55) 62 d_Re_readTerm_55 (by decide) ⟨by omega, by omega⟩ ⟨by omega, by omega⟩ (fun h_55 => ?_) (fun h_55 => by exfalso; omega)
          refine ar_iconst (pc := 62) d_Re_readTerm_62 ?_
          refine ar_istore_n (pc := 63) d_Re_readTerm_63 rfl (by decide) ?_
          refine ar_iload_n (pc := 64) d_Re_readTerm_64 rfl ?_
          refine ar_if_ne (pc := 65) 88 d_Re_readTerm_65 (by decide) ⟨by omega, by omega⟩ (fun h_65 => by exfalso; omega) (fun h_65 => ?_)
          refine ar_aload_n (pc := 68) d_Re_readTerm_68 rfl ?_
          refine ar_getIv (pc := 69) gf_Re_43 d_Re_readTerm_69 (by first | rfl | exact sh_wheel (by omega) | exact sh_milk (by omega)) e2 (fun r_69 => ?_)
          refine ar_sipush (pc := 72) d_Re_readTerm_72 (by decide) ?_
          refine ar_icmp_eq (pc := 75) 88 d_Re_readTerm_75 (by decide) ⟨by omega, by omega⟩ ⟨by omega, by omega⟩ (fun h_75 => ?_) (fun h_75 => by exfalso; omega)
          refine ar_iconst (pc := 88) d_Re_readTerm_88 ?_
          refine ar_goto (pc := 89) 93 d_Re_readTerm_89 (by decide) ?_
          refine ar_istore (pc := 93) d_Re_readTerm_93 rfl (by decide) ?_
          refine ar_iload (pc := 95) d_Re_readTerm_95 rfl ?_
          refine ar_if_eq (pc := 97) 109 d_Re_readTerm_97 (by decide) ⟨by omega, by omega⟩ (fun h_97 => by exfalso; omega) (fun h_97 => ?_)
          refine ar_aload_n (pc := 100) d_Re_readTerm_100 rfl ?_
          refine ar_getIv (pc := 101) gf_Re_35 d_Re_readTerm_101 (by first | rfl | exact sh_wheel (by omega) | exact sh_milk (by omega)) e5 (fun r_101 => ?_)
          refine ar_bipush (pc := 104) d_Re_readTerm_104 (by decide) ?_
          refine ar_icmp_lt (pc := 106) 115 d_Re_readTerm_106 (by decide) ⟨by omega, by omega⟩ ⟨by omega, by omega⟩ (fun h_106 => ?_) (fun h_106 => by exfalso; omega)
          refine ar_aload_n (pc := 115) d_Re_readTerm_115 rfl ?_
          refine ar_getIv (pc := 116) gf_Re_43 d_Re_readTerm_116 (by first | rfl | exact sh_wheel (by omega) | exact sh_milk (by omega)) e2 (fun r_116 => ?_)
          refine ar_sipush (pc := 119) d_Re_readTerm_119 (by decide) ?_
          refine ar_icmp_ne (pc := 122) 131 d_Re_readTerm_122 (by decide) ⟨by omega, by omega⟩ ⟨by omega, by omega⟩ (fun h_122 => by exfalso; omega) (fun h_122 => ?_)
          refine ar_aload_n (pc := 125) d_Re_readTerm_125 rfl ?_
          refine ar_iconst (pc := 126) d_Re_readTerm_126 ?_
          refine ac_virt (pc := 127) (N := mt_Re_refuse) _ _ mv_Re_refuse ml_Re_50 ck_5 d_Re_readTerm_127 c127 (by first | rfl | exact sh_wheel (by omega) | exact sh_milk (by omega)) rfl rfl (Nat.le_of_ble_eq_true rfl) (Nat.le_of_eq (Nat.zero_add _)) (Nat.le_of_eq (Nat.zero_add _)) (fun r_127 G_127 h_127 => ?_)
          obtain ⟨rfl, q127⟩ := h_127
          refine ar_zret (pc := 130) d_Re_readTerm_130 rfl (by omega) ?_
          rotate_left
          -- leaves: ret 130
          · exact Or.inr ⟨rfl, _, _, fin, q127⟩
        · have hin := tt_n hT hi (by omega)
          have hval := t_val (K := K) (P := P) (N := N) (o := o) hd hvv (show K i = 302 ∨ (8 ≤ K i ∧ K i ≤ 17) by omega)
          by_cases k302 : K i = 302
          · have c159 := cm_Re_add_a X (d + 1) (z := N i) hF (pr_v_a h) ⟨by omega, by omega⟩ (by omega)
            have c163 := fun G2 q => cm_Re_step_a X (d + 1) (G1 := G2) (i := i) (v := v + 1) (o := o ++ [N i]) hT hF q hin
            rw [if_pos k302] at hval
            clear hE h
            refine aw_enter pf_Re_readTerm (Nat.le_of_ble_eq_true rfl) ?_
            refine ar_aload_n (pc := 0) d_Re_readTerm_0 rfl ?_
            refine ar_getIv (pc := 1) gf_Re_43 d_Re_readTerm_1 (by first | rfl | exact sh_wheel (by omega) | exact sh_milk (by omega)) e2 (fun r_1 => ?_)
            refine ar_bipush (pc := 4) d_Re_readTerm_4 (by decide) ?_
            refine ar_icmp_ne (pc := 6) 40 d_Re_readTerm_6 (by decide) ⟨by omega, by omega⟩ ⟨by omega, by omega⟩ (fun h_6 => ?_) (fun h_6 => by exfalso; omega)
            refine ar_aload_n (pc := 40) d_Re_readTerm_40 rfl ?_
            refine ar_getIv (pc := 41) gf_Re_43 d_Re_readTerm_41 (by first | rfl | exact sh_wheel (by omega) | exact sh_milk (by omega)) e2 (fun r_41 => ?_)
            refine ar_bipush (pc := 44) d_Re_readTerm_44 (by decide) ?_
            refine ar_icmp_lt (pc := 46) 62 d_Re_readTerm_46 (by decide) ⟨by omega, by omega⟩ ⟨by omega, by omega⟩ (fun h_46 => by exfalso; omega) (fun h_46 => ?_)
            refine ar_aload_n (pc := 49) d_Re_readTerm_49 rfl ?_
            refine ar_getIv (pc := 50) gf_Re_43 d_Re_readTerm_50 (by first | rfl | exact sh_wheel (by omega) | exact sh_milk (by omega)) e2 (fun r_50 => ?_)
            refine ar_bipush (pc := 53) d_Re_readTerm_53 (by decide) ?_
            refine ar_icmp_gt (pc := 55) 62 d_Re_readTerm_55 (by decide) ⟨by omega, by omega⟩ ⟨by omega, by omega⟩ (fun h_55 => ?_) (fun h_55 => by exfalso; omega)
            refine ar_iconst (pc := 62) d_Re_readTerm_62 ?_
            refine ar_istore_n (pc := 63) d_Re_readTerm_63 rfl (by decide) ?_
            refine ar_iload_n (pc := 64) d_Re_readTerm_64 rfl ?_
            refine ar_if_ne (pc := 65) 88 d_Re_readTerm_65 (by decide) ⟨by omega, by omega⟩ (fun h_65 => by exfalso; omega) (fun h_65 => ?_)
            refine ar_aload_n (pc := 68) d_Re_readTerm_68 rfl ?_
            refine ar_getIv (pc := 69) gf_Re_43 d_Re_readTerm_69 (by first | rfl | exact sh_wheel (by omega) | exact sh_milk (by omega)) e2 (fun r_69 => ?_)
            refine ar_sipush (pc := 72) d_Re_readTerm_72 (by decide) ?_
            refine ar_icmp_eq (pc := 75) 88 d_Re_readTerm_75 (by decide) ⟨by omega, by omega⟩ ⟨by omega, by omega⟩ (fun h_75 => by exfalso; omega) (fun h_75 => ?_)
            refine ar_aload_n (pc := 78) d_Re_readTerm_78 rfl ?_
            refine ar_getIv (pc := 79) gf_Re_43 d_Re_readTerm_79 (by first | rfl | exact sh_wheel (by omega) | exact sh_milk (by omega)) e2 (fun r_79 => ?_)
            refine ar_sipush (pc := 82) d_Re_readTerm_82 (by decide) ?_
            refine ar_icmp_ne (pc := 85) 92 d_Re_readTerm_85 (by decide) ⟨by omega, by omega⟩ ⟨by omega, by omega⟩ (fun h_85 => by exfalso; omega) (fun h_85 => ?_)
            refine ar_iconst (pc := 88) d_Re_readTerm_88 ?_
            refine ar_goto (pc := 89) 93 d_Re_readTerm_89 (by decide) ?_
            refine ar_istore (pc := 93) d_Re_readTerm_93 rfl (by decide) ?_
            refine ar_iload (pc := 95) d_Re_readTerm_95 rfl ?_
            refine ar_if_eq (pc := 97) 109 d_Re_readTerm_97 (by decide) ⟨by omega, by omega⟩ (fun h_97 => by exfalso; omega) (fun h_97 => ?_)
            refine ar_aload_n (pc := 100) d_Re_readTerm_100 rfl ?_
            refine ar_getIv (pc := 101) gf_Re_35 d_Re_readTerm_101 (by first | rfl | exact sh_wheel (by omega) | exact sh_milk (by omega)) e5 (fun r_101 => ?_)
            refine ar_bipush (pc := 104) d_Re_readTerm_104 (by decide) ?_
            refine ar_icmp_lt (pc := 106) 115 d_Re_readTerm_106 (by decide) ⟨by omega, by omega⟩ ⟨by omega, by omega⟩ (fun h_106 => ?_) (fun h_106 => by exfalso; omega)
            refine ar_aload_n (pc := 115) d_Re_readTerm_115 rfl ?_
            refine ar_getIv (pc := 116) gf_Re_43 d_Re_readTerm_116 (by first | rfl | exact sh_wheel (by omega) | exact sh_milk (by omega)) e2 (fun r_116 => ?_)
            refine ar_sipush (pc := 119) d_Re_readTerm_119 (by decide) ?_
            refine ar_icmp_ne (pc := 122) 131 d_Re_readTerm_122 (by decide) ⟨by omega, by omega⟩ ⟨by omega, by omega⟩ (fun h_122 => ?_) (fun h_122 => by exfalso; omega)
            refine ar_aload_n (pc := 131) d_Re_readTerm_131 rfl ?_
            refine ar_dup (pc := 132) d_Re_readTerm_132 rfl ?_
            refine ar_getIv (pc := 133) gf_Re_35 d_Re_readTerm_133 (by first | rfl | exact sh_wheel (by omega) | exact sh_milk (by omega)) e5 (fun r_133 => ?_)
            refine ar_iconst (pc := 136) d_Re_readTerm_136 ?_
            refine ar_iadd (pc := 137) d_Re_readTerm_137 ?_
            refine ar_putI (pc := 138) gf_Re_35 d_Re_readTerm_138 rfl (by first | rfl | exact sh_wheel (by omega) | exact sh_milk (by omega)) ⟨by omega, by omega⟩ ?_
            refine ar_aload_n (pc := 141) d_Re_readTerm_141 rfl ?_
            refine ar_iload_n (pc := 142) d_Re_readTerm_142 rfl ?_
            refine ar_if_eq (pc := 143) 155 d_Re_readTerm_143 (by decide) ⟨by omega, by omega⟩ (fun h_143 => ?_) (fun h_143 => by exfalso; omega)
            refine ar_aload_n (pc := 155) d_Re_readTerm_155 rfl ?_
            refine ar_getIv (pc := 156) gf_Re_70 d_Re_readTerm_156 (by first | rfl | exact sh_wheel (by omega) | exact sh_milk (by omega)) (show _ = N i from e4) (fun r_156 => ?_)
            refine ac_virt (pc := 159) (N := mt_Or_addItem) _ _ mv_Or_addItem ml_Re_91 ck_3 d_Re_readTerm_159 c159 (by first | rfl | exact sh_wheel (by omega) | exact sh_milk (by omega)) rfl rfl (Nat.le_of_ble_eq_true rfl) (Nat.le_of_eq (Nat.zero_add _)) (Nat.le_of_eq (Nat.zero_add _)) (fun r_159 G_159 h_159 => ?_)
            obtain ⟨rfl, q159⟩ := h_159
            refine ar_aload_n (pc := 162) d_Re_readTerm_162 rfl ?_
            refine ac_virt (pc := 163) (N := mt_Re_step) _ _ mv_Re_step ml_Re_32 ck_5 d_Re_readTerm_163 (c163 _ q159) (by first | rfl | exact sh_wheel (by omega) | exact sh_milk (by omega)) rfl rfl (Nat.le_of_ble_eq_true rfl) (Nat.le_of_eq (Nat.zero_add _)) (Nat.le_of_eq (Nat.zero_add _)) (fun r_163 G_163 h_163 => ?_)
            obtain ⟨rfl, q163⟩ := h_163
            refine ar_iconst (pc := 166) d_Re_readTerm_166 ?_
            refine ar_zret (pc := 167) d_Re_readTerm_167 rfl (by omega) ?_
            rotate_left
            -- leaves: ret 167
            · exact Or.inl ⟨rfl, i + 1, v + 1, o ++ [N i], ⟨⟨by omega, by omega, by omega, by rw [List.length_append]; simp; omega⟩, hval⟩, q163⟩
          · have c159 := cm_Re_add_a X (d + 1) (z := -1 - K i) hF (pr_v_a h) ⟨by omega, by omega⟩ (by omega)
            have c163 := fun G2 q => cm_Re_step_a X (d + 1) (G1 := G2) (i := i) (v := v + 1) (o := o ++ [-1 - K i]) hT hF q hin
            rw [if_neg k302] at hval
            clear hE h
            refine aw_enter pf_Re_readTerm (Nat.le_of_ble_eq_true rfl) ?_
            refine ar_aload_n (pc := 0) d_Re_readTerm_0 rfl ?_
            refine ar_getIv (pc := 1) gf_Re_43 d_Re_readTerm_1 (by first | rfl | exact sh_wheel (by omega) | exact sh_milk (by omega)) e2 (fun r_1 => ?_)
            refine ar_bipush (pc := 4) d_Re_readTerm_4 (by decide) ?_
            refine ar_icmp_ne (pc := 6) 40 d_Re_readTerm_6 (by decide) ⟨by omega, by omega⟩ ⟨by omega, by omega⟩ (fun h_6 => ?_) (fun h_6 => by exfalso; omega)
            refine ar_aload_n (pc := 40) d_Re_readTerm_40 rfl ?_
            refine ar_getIv (pc := 41) gf_Re_43 d_Re_readTerm_41 (by first | rfl | exact sh_wheel (by omega) | exact sh_milk (by omega)) e2 (fun r_41 => ?_)
            refine ar_bipush (pc := 44) d_Re_readTerm_44 (by decide) ?_
            refine ar_icmp_lt (pc := 46) 62 d_Re_readTerm_46 (by decide) ⟨by omega, by omega⟩ ⟨by omega, by omega⟩ (fun h_46 => by exfalso; omega) (fun h_46 => ?_)
            refine ar_aload_n (pc := 49) d_Re_readTerm_49 rfl ?_
            refine ar_getIv (pc := 50) gf_Re_43 d_Re_readTerm_50 (by first | rfl | exact sh_wheel (by omega) | exact sh_milk (by omega)) e2 (fun r_50 => ?_)
            refine ar_bipush (pc := 53) d_Re_readTerm_53 (by decide) ?_
            refine ar_icmp_gt (pc := 55) 62 d_Re_readTerm_55 (by decide) ⟨by omega, by omega⟩ ⟨by omega, by omega⟩ (fun h_55 => by exfalso; omega) (fun h_55 => ?_)
            refine ar_iconst (pc := 58) d_Re_readTerm_58 ?_
            refine ar_goto (pc := 59) 63 d_Re_readTerm_59 (by decide) ?_
            refine ar_istore_n (pc := 63) d_Re_readTerm_63 rfl (by decide) ?_
            refine ar_iload_n (pc := 64) d_Re_readTerm_64 rfl ?_
            refine ar_if_ne (pc := 65) 88 d_Re_readTerm_65 (by decide) ⟨by omega, by omega⟩ (fun h_65 => ?_) (fun h_65 => by exfalso; omega)
            refine ar_iconst (pc := 88) d_Re_readTerm_88 ?_
            refine ar_goto (pc := 89) 93 d_Re_readTerm_89 (by decide) ?_
            refine ar_istore (pc := 93) d_Re_readTerm_93 rfl (by decide) ?_
            refine ar_iload (pc := 95) d_Re_readTerm_95 rfl ?_
            refine ar_if_eq (pc := 97) 109 d_Re_readTerm_97 (by decide) ⟨by omega, by omega⟩ (fun h_97 => by exfalso; omega) (fun h_97 => ?_)
            refine ar_aload_n (pc := 100) d_Re_readTerm_100 rfl ?_
            refine ar_getIv (pc := 101) gf_Re_35 d_Re_readTerm_101 (by first | rfl | exact sh_wheel (by omega) | exact sh_milk (by omega)) e5 (fun r_101 => ?_)
            refine ar_bipush (pc := 104) d_Re_readTerm_104 (by decide) ?_
            refine ar_icmp_lt (pc := 106) 115 d_Re_readTerm_106 (by decide) ⟨by omega, by omega⟩ ⟨by omega, by omega⟩ (fun h_106 => ?_) (fun h_106 => by exfalso; omega)
            refine ar_aload_n (pc := 115) d_Re_readTerm_115 rfl ?_
            refine ar_getIv (pc := 116) gf_Re_43 d_Re_readTerm_116 (by first | rfl | exact sh_wheel (by omega) | exact sh_milk (by omega)) e2 (fun r_116 => ?_)
            refine ar_sipush (pc := 119) d_Re_readTerm_119 (by decide) ?_
            refine ar_icmp_ne (pc := 122) 131 d_Re_readTerm_122 (by decide) ⟨by omega, by omega⟩ ⟨by omega, by omega⟩ (fun h_122 => ?_) (fun h_122 => by exfalso; omega)
            refine ar_aload_n (pc := 131) d_Re_readTerm_131 rfl ?_
            refine ar_dup (pc := 132) d_Re_readTerm_132 rfl ?_
            refine ar_getIv (pc := 133) gf_Re_35 d_Re_readTerm_133 (by first | rfl | exact sh_wheel (by omega) | exact sh_milk (by omega)) e5 (fun r_133 => ?_)
            refine ar_iconst (pc := 136) d_Re_readTerm_136 ?_
            refine ar_iadd (pc := 137) d_Re_readTerm_137 ?_
            refine ar_putI (pc := 138) gf_Re_35 d_Re_readTerm_138 rfl (by first | rfl | exact sh_wheel (by omega) | exact sh_milk (by omega)) ⟨by omega, by omega⟩ ?_
            refine ar_aload_n (pc := 141) d_Re_readTerm_141 rfl ?_
            refine ar_iload_n (pc := 142) d_Re_readTerm_142 rfl ?_
            refine ar_if_eq (pc := 143) 155 d_Re_readTerm_143 (by decide) ⟨by omega, by omega⟩ (fun h_143 => by exfalso; omega) (fun h_143 => ?_)
            refine ar_aload_n (pc := 146) d_Re_readTerm_146 rfl ?_
            refine ar_getIv (pc := 147) gf_Re_43 d_Re_readTerm_147 (by first | rfl | exact sh_wheel (by omega) | exact sh_milk (by omega)) (show _ = K i from e2) (fun r_147 => ?_)
            refine ar_iconst (pc := 150) d_Re_readTerm_150 ?_
            refine ar_ixor (pc := 151) d_Re_readTerm_151 ?_
            refine ar_goto (pc := 152) 159 d_Re_readTerm_152 (by decide) ?_
            refine ar_mod (ixor_m1 ⟨by omega, by omega⟩) ?_
            refine ac_virt (pc := 159) (N := mt_Or_addItem) _ _ mv_Or_addItem ml_Re_91 ck_3 d_Re_readTerm_159 c159 (by first | rfl | exact sh_wheel (by omega) | exact sh_milk (by omega)) rfl rfl (Nat.le_of_ble_eq_true rfl) (Nat.le_of_eq (Nat.zero_add _)) (Nat.le_of_eq (Nat.zero_add _)) (fun r_159 G_159 h_159 => ?_)
            obtain ⟨rfl, q159⟩ := h_159
            refine ar_aload_n (pc := 162) d_Re_readTerm_162 rfl ?_
            refine ac_virt (pc := 163) (N := mt_Re_step) _ _ mv_Re_step ml_Re_32 ck_5 d_Re_readTerm_163 (c163 _ q159) (by first | rfl | exact sh_wheel (by omega) | exact sh_milk (by omega)) rfl rfl (Nat.le_of_ble_eq_true rfl) (Nat.le_of_eq (Nat.zero_add _)) (Nat.le_of_eq (Nat.zero_add _)) (fun r_163 G_163 h_163 => ?_)
            obtain ⟨rfl, q163⟩ := h_163
            refine ar_iconst (pc := 166) d_Re_readTerm_166 ?_
            refine ar_zret (pc := 167) d_Re_readTerm_167 rfl (by omega) ?_
            rotate_left
            -- leaves: ret 167
            · exact Or.inl ⟨rfl, i + 1, v + 1, o ++ [-1 - K i], ⟨⟨by omega, by omega, by omega, by rw [List.length_append]; simp; omega⟩, hval⟩, q163⟩
    · have c111 := cm_Re_refuse_a X (d + 1) (k := 2) hT h hi (by omega)
      have fin := t_bad2 (K := K) (P := P) (N := N) (v := v) (o := o) hd (Or.inr ⟨hop, k40⟩)
      clear hE h
      refine aw_enter pf_Re_readTerm (Nat.le_of_ble_eq_true rfl) ?_
      refine ar_aload_n (pc := 0) d_Re_readTerm_0 rfl ?_
      refine ar_getIv (pc := 1) gf_Re_43 d_Re_readTerm_1 (by first | rfl | exact sh_wheel (by omega) | exact sh_milk (by omega)) e2 (fun r_1 => ?_)
      refine ar_bipush (pc := 4) d_Re_readTerm_4 (by decide) ?_
      refine ar_icmp_ne (pc := 6) 40 d_Re_readTerm_6 (by decide) ⟨by omega, by omega⟩ ⟨by omega, by omega⟩ (fun h_6 => ?_) (fun h_6 => by exfalso; omega)
      refine ar_aload_n (pc := 40) d_Re_readTerm_40 rfl ?_
      refine ar_getIv (pc := 41) gf_Re_43 d_Re_readTerm_41 (by first | rfl | exact sh_wheel (by omega) | exact sh_milk (by omega)) e2 (fun r_41 => ?_)
      refine ar_bipush (pc := 44) d_Re_readTerm_44 (by decide) ?_
      refine ar_icmp_lt (pc := 46) 62 d_Re_readTerm_46 (by decide) ⟨by omega, by omega⟩ ⟨by omega, by omega⟩ (fun h_46 => ?_) (fun h_46 => ?_)
      refine ar_iconst (pc := 62) d_Re_readTerm_62 ?_
      refine ar_istore_n (pc := 63) d_Re_readTerm_63 rfl (by decide) ?_
      refine ar_iload_n (pc := 64) d_Re_readTerm_64 rfl ?_
      refine ar_if_ne (pc := 65) 88 d_Re_readTerm_65 (by decide) ⟨by omega, by omega⟩ (fun h_65 => by exfalso; omega) (fun h_65 => ?_)
      refine ar_aload_n (pc := 68) d_Re_readTerm_68 rfl ?_
      refine ar_getIv (pc := 69) gf_Re_43 d_Re_readTerm_69 (by first | rfl | exact sh_wheel (by omega) | exact sh_milk (by omega)) e2 (fun r_69 => ?_)
      refine ar_sipush (pc := 72) d_Re_readTerm_72 (by decide) ?_
      refine ar_icmp_eq (pc := 75) 88 d_Re_readTerm_75 (by decide) ⟨by omega, by omega⟩ ⟨by omega, by omega⟩ (fun h_75 => by exfalso; omega) (fun h_75 => ?_)
      refine ar_aload_n (pc := 78) d_Re_readTerm_78 rfl ?_
      refine ar_getIv (pc := 79) gf_Re_43 d_Re_readTerm_79 (by first | rfl | exact sh_wheel (by omega) | exact sh_milk (by omega)) e2 (fun r_79 => ?_)
      refine ar_sipush (pc := 82) d_Re_readTerm_82 (by decide) ?_
      refine ar_icmp_ne (pc := 85) 92 d_Re_readTerm_85 (by decide) ⟨by omega, by omega⟩ ⟨by omega, by omega⟩ (fun h_85 => ?_) (fun h_85 => by exfalso; omega)
      refine ar_iconst (pc := 92) d_Re_readTerm_92 ?_
      refine ar_istore (pc := 93) d_Re_readTerm_93 rfl (by decide) ?_
      refine ar_iload (pc := 95) d_Re_readTerm_95 rfl ?_
      refine ar_if_eq (pc := 97) 109 d_Re_readTerm_97 (by decide) ⟨by omega, by omega⟩ (fun h_97 => ?_) (fun h_97 => by exfalso; omega)
      refine ar_aload_n (pc := 109) d_Re_readTerm_109 rfl ?_
      refine ar_iconst (pc := 110) d_Re_readTerm_110 ?_
      refine ac_virt (pc := 111) (N := mt_Re_refuse) _ _ mv_Re_refuse ml_Re_50 ck_5 d_Re_readTerm_111 c111 (by first | rfl | exact sh_wheel (by omega) | exact sh_milk (by omega)) rfl rfl (Nat.le_of_ble_eq_true rfl) (Nat.le_of_eq (Nat.zero_add _)) (Nat.le_of_eq (Nat.zero_add _)) (fun r_111 G_111 h_111 => ?_)
      obtain ⟨rfl, q111⟩ := h_111
      refine ar_zret (pc := 114) d_Re_readTerm_114 rfl (by omega) ?_
      rotate_left
      refine ar_aload_n (pc := 49) d_Re_readTerm_49 rfl ?_
      refine ar_getIv (pc := 50) gf_Re_43 d_Re_readTerm_50 (by first | rfl | exact sh_wheel (by omega) | exact sh_milk (by omega)) e2 (fun r_50 => ?_)
      refine ar_bipush (pc := 53) d_Re_readTerm_53 (by decide) ?_
      refine ar_icmp_gt (pc := 55) 62 d_Re_readTerm_55 (by decide) ⟨by omega, by omega⟩ ⟨by omega, by omega⟩ (fun h_55 => ?_) (fun h_55 => by exfalso; omega)
      refine ar_iconst (pc := 62) d_Re_readTerm_62 ?_
      refine ar_istore_n (pc := 63) d_Re_readTerm_63 rfl (by decide) ?_
      refine ar_iload_n (pc := 64) d_Re_readTerm_64 rfl ?_
      refine ar_if_ne (pc := 65) 88 d_Re_readTerm_65 (by decide) ⟨by omega, by omega⟩ (fun h_65 => by exfalso; omega) (fun h_65 => ?_)
      refine ar_aload_n (pc := 68) d_Re_readTerm_68 rfl ?_
      refine ar_getIv (pc := 69) gf_Re_43 d_Re_readTerm_69 (by first | rfl | exact sh_wheel (by omega) | exact sh_milk (by omega)) e2 (fun r_69 => ?_)
      refine ar_sipush (pc := 72) d_Re_readTerm_72 (by decide) ?_
      refine ar_icmp_eq (pc := 75) 88 d_Re_readTerm_75 (by decide) ⟨by omega, by omega⟩ ⟨by omega, by omega⟩ (fun h_75 => by exfalso; omega) (fun h_75 => ?_)
      refine ar_aload_n (pc := 78) d_Re_readTerm_78 rfl ?_
      refine ar_getIv (pc := 79) gf_Re_43 d_Re_readTerm_79 (by first | rfl | exact sh_wheel (by omega) | exact sh_milk (by omega)) e2 (fun r_79 => ?_)
      refine ar_sipush (pc := 82) d_Re_readTerm_82 (by decide) ?_
      refine ar_icmp_ne (pc := 85) 92 d_Re_readTerm_85 (by decide) ⟨by omega, by omega⟩ ⟨by omega, by omega⟩ (fun h_85 => ?_) (fun h_85 => by exfalso; omega)
      refine ar_iconst (pc := 92) d_Re_readTerm_92 ?_
      refine ar_istore (pc := 93) d_Re_readTerm_93 rfl (by decide) ?_
      refine ar_iload (pc := 95) d_Re_readTerm_95 rfl ?_
      refine ar_if_eq (pc := 97) 109 d_Re_readTerm_97 (by decide) ⟨by omega, by omega⟩ (fun h_97 => ?_) (fun h_97 => by exfalso; omega)
      refine ar_aload_n (pc := 109) d_Re_readTerm_109 rfl ?_
      refine ar_iconst (pc := 110) d_Re_readTerm_110 ?_
      refine ac_virt (pc := 111) (N := mt_Re_refuse) _ _ mv_Re_refuse ml_Re_50 ck_5 d_Re_readTerm_111 c111 (by first | rfl | exact sh_wheel (by omega) | exact sh_milk (by omega)) rfl rfl (Nat.le_of_ble_eq_true rfl) (Nat.le_of_eq (Nat.zero_add _)) (Nat.le_of_eq (Nat.zero_add _)) (fun r_111 G_111 h_111 => ?_)
      obtain ⟨rfl, q111⟩ := h_111
      refine ar_zret (pc := 114) d_Re_readTerm_114 rfl (by omega) ?_
      rotate_left
      -- leaves: ret 114, ret 114
      · exact Or.inr ⟨rfl, _, _, fin, q111⟩
      · exact Or.inr ⟨rfl, _, _, fin, q111⟩
theorem rt_C_a (X : gx_T) (d : Nat) {K P N : Nat → Int} {G : mm_T} {n dep : Nat} (hT : tt_T K P N n G) (hF : fx_R G) (hS : ct_S_a X (d + 2) K P N n G dep) {i v : Nat} {o : List Int} {G1 : mm_T} (hi : i ≤ n) (hv : v ≤ 80) (ho : o.length ≤ i) (h : pr_F_a K P N G G1 i v o) : aw_M X (d + 3) mt_Re_readComparison [av_r (some 35), av_i (dep : Int), av_r (some 42)] G1 0 0 (fun r G' => (¬ cmp_t (K i) ∧ r = some (av_i 1) ∧ pr_F_a K P N G G' i v o) ∨ (cmp_t (K i) ∧ r = some (av_i 1) ∧ ∃ i2 v2 o2, dn_B n (i + 1) v o i2 v2 o2 ∧ s_sum K P N dep (i + 1) v o i2 v2 o2 ∧ pr_F_a K P N G G' i2 v2 (o2 ++ [-1 - K i])) ∨ (cmp_t (K i) ∧ r = some (av_i 0) ∧ ∃ k p, b_sum K P N dep (i + 1) v o k p ∧ pb_F_a G G' k p)) := by
  obtain ⟨r1, r2, r3⟩ := hT.2.2.2.1 i hi
  obtain ⟨e1, e2, e3, e4, e5⟩ := h.2.2.1
  have n5 := hT.2.1
  by_cases hc : cmp_t (K i)
  · have hc' := hc
    unfold cmp_t at hc'
    have hin := tt_n hT hi (by omega)
    have c26 := cm_Re_step_a X (d + 1) hT hF h hin
    have hS1 := fun G2 q => hS (i + 1) v o G2 (by omega) hv (by omega) q
    clear hS h
    refine aw_enter pf_Re_readComparison (Nat.le_of_ble_eq_true rfl) ?_
    refine ar_aload_n (pc := 0) d_Re_readComparison_0 rfl ?_
    refine ar_getIv (pc := 1) gf_Re_43 d_Re_readComparison_1 (by first | rfl | exact sh_wheel (by omega) | exact sh_milk (by omega)) e2 (fun r_1 => ?_)
    refine ar_istore_n (pc := 4) d_Re_readComparison_4 rfl (by decide) ?_
    refine ar_iload_n (pc := 5) d_Re_readComparison_5 rfl ?_
    refine ar_bipush (pc := 6) d_Re_readComparison_6 (by decide) ?_
    refine ar_icmp_eq (pc := 8) 25 d_Re_readComparison_8 (by decide) ⟨by omega, by omega⟩ ⟨by omega, by omega⟩ (fun h_8 => ?_) (fun h_8 => ?_)
    rotate_left
    refine ar_iload_n (pc := 11) d_Re_readComparison_11 rfl ?_
    refine ar_bipush (pc := 12) d_Re_readComparison_12 (by decide) ?_
    refine ar_icmp_eq (pc := 14) 25 d_Re_readComparison_14 (by decide) ⟨by omega, by omega⟩ ⟨by omega, by omega⟩ (fun h_14 => ?_) (fun h_14 => ?_)
    rotate_left
    refine ar_iload_n (pc := 17) d_Re_readComparison_17 rfl ?_
    refine ar_bipush (pc := 18) d_Re_readComparison_18 (by decide) ?_
    refine ar_icmp_eq (pc := 20) 25 d_Re_readComparison_20 (by decide) ⟨by omega, by omega⟩ ⟨by omega, by omega⟩ (fun h_20 => ?_) (fun h_20 => ?_)
    rotate_left
    refine ar_iconst (pc := 23) d_Re_readComparison_23 ?_
    refine ar_zret (pc := 24) d_Re_readComparison_24 rfl (by omega) ?_
    rotate_left
    -- leaves: stop 25, stop 25, stop 25, ret 24
    all_goals first | (exfalso; omega) | skip
    all_goals skip
    · skip
      refine ar_aload_n (pc := 25) d_Re_readComparison_25 rfl ?_
      refine ac_virt (pc := 26) (N := mt_Re_step) _ _ mv_Re_step ml_Re_32 ck_5 d_Re_readComparison_26 c26 (by first | rfl | exact sh_wheel (by omega) | exact sh_milk (by omega)) rfl rfl (Nat.le_of_ble_eq_true rfl) (Nat.le_of_eq (Nat.zero_add _)) (Nat.le_of_eq (Nat.zero_add _)) (fun r_26 G_26 h_26 => ?_)
      obtain ⟨rfl, q26⟩ := h_26
      refine ar_aload_n (pc := 29) d_Re_readComparison_29 rfl ?_
      refine ar_iconst (pc := 30) d_Re_readComparison_30 ?_
      refine ar_iload_n (pc := 31) d_Re_readComparison_31 rfl ?_
      refine ar_aload_n (pc := 32) d_Re_readComparison_32 rfl ?_
      refine ac_virt (pc := 33) (N := mt_Re_readJoined) _ _ mv_Re_readJoined ml_Re_76 ck_5 d_Re_readComparison_33 (hS1 G_26 q26) (by first | rfl | exact sh_wheel (by omega) | exact sh_milk (by omega)) rfl rfl (Nat.le_of_ble_eq_true rfl) (Nat.le_of_eq (Nat.zero_add _)) (Nat.le_of_eq (Nat.zero_add _)) (fun r_33 G_33 h_33 => ?_)
      obtain ⟨rfl, i1, v1, o1, ⟨hd1, hs1⟩, hp1⟩ | ⟨rfl, k1, p1, hb1, hq1⟩ := h_33
      rotate_left
      rotate_left
      -- leaves: stop 36, stop 36
      · obtain ⟨a1, a2, a3, a4⟩ := hd1
        have c45 := cm_Re_add_a X (d + 1) (z := -1 - K i) hF hp1 ⟨by omega, by omega⟩ (by omega)
        refine ar_if_ne (pc := 36) 41 d_Re_readComparison_36 (by decide) ⟨by omega, by omega⟩ (fun h_36 => ?_) (fun h_36 => by exfalso; omega)
        refine ar_aload_n (pc := 41) d_Re_readComparison_41 rfl ?_
        refine ar_iload_n (pc := 42) d_Re_readComparison_42 rfl ?_
        refine ar_iconst (pc := 43) d_Re_readComparison_43 ?_
        refine ar_ixor (pc := 44) d_Re_readComparison_44 ?_
        refine ar_mod (ixor_m1 ⟨by omega, by omega⟩) ?_
        refine ac_virt (pc := 45) (N := mt_Or_addItem) _ _ mv_Or_addItem ml_Re_91 ck_3 d_Re_readComparison_45 c45 (by first | rfl | exact sh_wheel (by omega) | exact sh_milk (by omega)) rfl rfl (Nat.le_of_ble_eq_true rfl) (Nat.le_of_eq (Nat.zero_add _)) (Nat.le_of_eq (Nat.zero_add _)) (fun r_45 G_45 h_45 => ?_)
        obtain ⟨rfl, q45⟩ := h_45
        refine ar_iconst (pc := 48) d_Re_readComparison_48 ?_
        refine ar_zret (pc := 49) d_Re_readComparison_49 rfl (by omega) ?_
        rotate_left
        -- leaves: ret 49
        · exact Or.inr (Or.inl ⟨hc, rfl, i1, v1, o1, ⟨a1, a2, a3, a4⟩, hs1, q45⟩)
      · skip
        refine ar_if_ne (pc := 36) 41 d_Re_readComparison_36 (by decide) ⟨by omega, by omega⟩ (fun h_36 => by exfalso; omega) (fun h_36 => ?_)
        refine ar_iconst (pc := 39) d_Re_readComparison_39 ?_
        refine ar_zret (pc := 40) d_Re_readComparison_40 rfl (by omega) ?_
        rotate_left
        -- leaves: ret 40
        · exact Or.inr (Or.inr ⟨hc, rfl, k1, p1, hb1, hq1⟩)
    · skip
      refine ar_aload_n (pc := 25) d_Re_readComparison_25 rfl ?_
      refine ac_virt (pc := 26) (N := mt_Re_step) _ _ mv_Re_step ml_Re_32 ck_5 d_Re_readComparison_26 c26 (by first | rfl | exact sh_wheel (by omega) | exact sh_milk (by omega)) rfl rfl (Nat.le_of_ble_eq_true rfl) (Nat.le_of_eq (Nat.zero_add _)) (Nat.le_of_eq (Nat.zero_add _)) (fun r_26 G_26 h_26 => ?_)
      obtain ⟨rfl, q26⟩ := h_26
      refine ar_aload_n (pc := 29) d_Re_readComparison_29 rfl ?_
      refine ar_iconst (pc := 30) d_Re_readComparison_30 ?_
      refine ar_iload_n (pc := 31) d_Re_readComparison_31 rfl ?_
      refine ar_aload_n (pc := 32) d_Re_readComparison_32 rfl ?_
      refine ac_virt (pc := 33) (N := mt_Re_readJoined) _ _ mv_Re_readJoined ml_Re_76 ck_5 d_Re_readComparison_33 (hS1 G_26 q26) (by first | rfl | exact sh_wheel (by omega) | exact sh_milk (by omega)) rfl rfl (Nat.le_of_ble_eq_true rfl) (Nat.le_of_eq (Nat.zero_add _)) (Nat.le_of_eq (Nat.zero_add _)) (fun r_33 G_33 h_33 => ?_)
      obtain ⟨rfl, i1, v1, o1, ⟨hd1, hs1⟩, hp1⟩ | ⟨rfl, k1, p1, hb1, hq1⟩ := h_33
      rotate_left
      rotate_left
      -- leaves: stop 36, stop 36
      · obtain ⟨a1, a2, a3, a4⟩ := hd1
        have c45 := cm_Re_add_a X (d + 1) (z := -1 - K i) hF hp1 ⟨by omega, by omega⟩ (by omega)
        refine ar_if_ne (pc := 36) 41 d_Re_readComparison_36 (by decide) ⟨by omega, by omega⟩ (fun h_36 => ?_) (fun h_36 => by exfalso; omega)
        refine ar_aload_n (pc := 41) d_Re_readComparison_41 rfl ?_
        refine ar_iload_n (pc := 42) d_Re_readComparison_42 rfl ?_
        refine ar_iconst (pc := 43) d_Re_readComparison_43 ?_
        refine ar_ixor (pc := 44) d_Re_readComparison_44 ?_
        refine ar_mod (ixor_m1 ⟨by omega, by omega⟩) ?_
        refine ac_virt (pc := 45) (N := mt_Or_addItem) _ _ mv_Or_addItem ml_Re_91 ck_3 d_Re_readComparison_45 c45 (by first | rfl | exact sh_wheel (by omega) | exact sh_milk (by omega)) rfl rfl (Nat.le_of_ble_eq_true rfl) (Nat.le_of_eq (Nat.zero_add _)) (Nat.le_of_eq (Nat.zero_add _)) (fun r_45 G_45 h_45 => ?_)
        obtain ⟨rfl, q45⟩ := h_45
        refine ar_iconst (pc := 48) d_Re_readComparison_48 ?_
        refine ar_zret (pc := 49) d_Re_readComparison_49 rfl (by omega) ?_
        rotate_left
        -- leaves: ret 49
        · exact Or.inr (Or.inl ⟨hc, rfl, i1, v1, o1, ⟨a1, a2, a3, a4⟩, hs1, q45⟩)
      · skip
        refine ar_if_ne (pc := 36) 41 d_Re_readComparison_36 (by decide) ⟨by omega, by omega⟩ (fun h_36 => by exfalso; omega) (fun h_36 => ?_)
        refine ar_iconst (pc := 39) d_Re_readComparison_39 ?_
        refine ar_zret (pc := 40) d_Re_readComparison_40 rfl (by omega) ?_
        rotate_left
        -- leaves: ret 40
        · exact Or.inr (Or.inr ⟨hc, rfl, k1, p1, hb1, hq1⟩)
    · skip
      refine ar_aload_n (pc := 25) d_Re_readComparison_25 rfl ?_
      refine ac_virt (pc := 26) (N := mt_Re_step) _ _ mv_Re_step ml_Re_32 ck_5 d_Re_readComparison_26 c26 (by first | rfl | exact sh_wheel (by omega) | exact sh_milk (by omega)) rfl rfl (Nat.le_of_ble_eq_true rfl) (Nat.le_of_eq (Nat.zero_add _)) (Nat.le_of_eq (Nat.zero_add _)) (fun r_26 G_26 h_26 => ?_)
      obtain ⟨rfl, q26⟩ := h_26
      refine ar_aload_n (pc := 29) d_Re_readComparison_29 rfl ?_
      refine ar_iconst (pc := 30) d_Re_readComparison_30 ?_
      refine ar_iload_n (pc := 31) d_Re_readComparison_31 rfl ?_
      refine ar_aload_n (pc := 32) d_Re_readComparison_32 rfl ?_
      refine ac_virt (pc := 33) (N := mt_Re_readJoined) _ _ mv_Re_readJoined ml_Re_76 ck_5 d_Re_readComparison_33 (hS1 G_26 q26) (by first | rfl | exact sh_wheel (by omega) | exact sh_milk (by omega)) rfl rfl (Nat.le_of_ble_eq_true rfl) (Nat.le_of_eq (Nat.zero_add _)) (Nat.le_of_eq (Nat.zero_add _)) (fun r_33 G_33 h_33 => ?_)
      obtain ⟨rfl, i1, v1, o1, ⟨hd1, hs1⟩, hp1⟩ | ⟨rfl, k1, p1, hb1, hq1⟩ := h_33
      rotate_left
      rotate_left
      -- leaves: stop 36, stop 36
      · obtain ⟨a1, a2, a3, a4⟩ := hd1
        have c45 := cm_Re_add_a X (d + 1) (z := -1 - K i) hF hp1 ⟨by omega, by omega⟩ (by omega)
        refine ar_if_ne (pc := 36) 41 d_Re_readComparison_36 (by decide) ⟨by omega, by omega⟩ (fun h_36 => ?_) (fun h_36 => by exfalso; omega)
        refine ar_aload_n (pc := 41) d_Re_readComparison_41 rfl ?_
        refine ar_iload_n (pc := 42) d_Re_readComparison_42 rfl ?_
        refine ar_iconst (pc := 43) d_Re_readComparison_43 ?_
        refine ar_ixor (pc := 44) d_Re_readComparison_44 ?_
        refine ar_mod (ixor_m1 ⟨by omega, by omega⟩) ?_
        refine ac_virt (pc := 45) (N := mt_Or_addItem) _ _ mv_Or_addItem ml_Re_91 ck_3 d_Re_readComparison_45 c45 (by first | rfl | exact sh_wheel (by omega) | exact sh_milk (by omega)) rfl rfl (Nat.le_of_ble_eq_true rfl) (Nat.le_of_eq (Nat.zero_add _)) (Nat.le_of_eq (Nat.zero_add _)) (fun r_45 G_45 h_45 => ?_)
        obtain ⟨rfl, q45⟩ := h_45
        refine ar_iconst (pc := 48) d_Re_readComparison_48 ?_
        refine ar_zret (pc := 49) d_Re_readComparison_49 rfl (by omega) ?_
        rotate_left
        -- leaves: ret 49
        · exact Or.inr (Or.inl ⟨hc, rfl, i1, v1, o1, ⟨a1, a2, a3, a4⟩, hs1, q45⟩)
      · skip
        refine ar_if_ne (pc := 36) 41 d_Re_readComparison_36 (by decide) ⟨by omega, by omega⟩ (fun h_36 => by exfalso; omega) (fun h_36 => ?_)
        refine ar_iconst (pc := 39) d_Re_readComparison_39 ?_
        refine ar_zret (pc := 40) d_Re_readComparison_40 rfl (by omega) ?_
        rotate_left
        -- leaves: ret 40
        · exact Or.inr (Or.inr ⟨hc, rfl, k1, p1, hb1, hq1⟩)
  · have hc' := hc
    unfold cmp_t at hc'
    refine aw_enter pf_Re_readComparison (Nat.le_of_ble_eq_true rfl) ?_
    refine ar_aload_n (pc := 0) d_Re_readComparison_0 rfl ?_
    refine ar_getIv (pc := 1) gf_Re_43 d_Re_readComparison_1 (by first | rfl | exact sh_wheel (by omega) | exact sh_milk (by omega)) e2 (fun r_1 => ?_)
    refine ar_istore_n (pc := 4) d_Re_readComparison_4 rfl (by decide) ?_
    refine ar_iload_n (pc := 5) d_Re_readComparison_5 rfl ?_
    refine ar_bipush (pc := 6) d_Re_readComparison_6 (by decide) ?_
    refine ar_icmp_eq (pc := 8) 25 d_Re_readComparison_8 (by decide) ⟨by omega, by omega⟩ ⟨by omega, by omega⟩ (fun h_8 => by exfalso; omega) (fun h_8 => ?_)
    refine ar_iload_n (pc := 11) d_Re_readComparison_11 rfl ?_
    refine ar_bipush (pc := 12) d_Re_readComparison_12 (by decide) ?_
    refine ar_icmp_eq (pc := 14) 25 d_Re_readComparison_14 (by decide) ⟨by omega, by omega⟩ ⟨by omega, by omega⟩ (fun h_14 => by exfalso; omega) (fun h_14 => ?_)
    refine ar_iload_n (pc := 17) d_Re_readComparison_17 rfl ?_
    refine ar_bipush (pc := 18) d_Re_readComparison_18 (by decide) ?_
    refine ar_icmp_eq (pc := 20) 25 d_Re_readComparison_20 (by decide) ⟨by omega, by omega⟩ ⟨by omega, by omega⟩ (fun h_20 => by exfalso; omega) (fun h_20 => ?_)
    refine ar_iconst (pc := 23) d_Re_readComparison_23 ?_
    refine ar_zret (pc := 24) d_Re_readComparison_24 rfl (by omega) ?_
    rotate_left
    -- leaves: ret 24
    · exact Or.inl ⟨hc, rfl, h⟩
theorem rt_O_a (X : gx_T) (d : Nat) {K P N : Nat → Int} {G : mm_T} {n dep : Nat} (hT : tt_T K P N n G) (hF : fx_R G) (hd : dep < 8) (hS : ct_S_a X (d + 2) K P N n G dep) (hS2 : ct_S_a X (d + 3) K P N n G dep) (hO : ct_O_a X (d + 3) K P N n G (dep + 1)) : ct_O_a X (d + 4) K P N n G dep := by
  intro i v o G1 hi hv ho h
  obtain ⟨r1, r2, r3⟩ := hT.2.2.2.1 i hi
  obtain ⟨e1, e2, e3, e4, e5⟩ := h.2.2.1
  have n5 := hT.2.1
  by_cases k7 : K i = 7
  · have hin := tt_n hT hi (by omega)
    have c22 := cm_Re_step_a X (d + 2) hT hF h hin
    have hO1 := fun G2 q => hO (i + 1) v o G2 (by omega) hv (by omega) q
    clear hO hS hS2 h
    refine aw_enter pf_Re_readOne (Nat.le_of_ble_eq_true rfl) ?_
    refine ar_iload_n (pc := 0) d_Re_readOne_0 rfl ?_
    refine ar_bipush (pc := 1) d_Re_readOne_1 (by decide) ?_
    refine ar_icmp_lt (pc := 3) 12 d_Re_readOne_3 (by decide) ⟨by omega, by omega⟩ ⟨by omega, by omega⟩ (fun h_3 => ?_) (fun h_3 => by exfalso; omega)
    refine ar_aload_n (pc := 12) d_Re_readOne_12 rfl ?_
    refine ar_getIv (pc := 13) gf_Re_43 d_Re_readOne_13 (by first | rfl | exact sh_wheel (by omega) | exact sh_milk (by omega)) e2 (fun r_13 => ?_)
    refine ar_bipush (pc := 16) d_Re_readOne_16 (by decide) ?_
    refine ar_icmp_ne (pc := 18) 46 d_Re_readOne_18 (by decide) ⟨by omega, by omega⟩ ⟨by omega, by omega⟩ (fun h_18 => by exfalso; omega) (fun h_18 => ?_)
    refine ar_aload_n (pc := 21) d_Re_readOne_21 rfl ?_
    refine ac_virt (pc := 22) (N := mt_Re_step) _ _ mv_Re_step ml_Re_32 ck_5 d_Re_readOne_22 c22 (by first | rfl | exact sh_wheel (by omega) | exact sh_milk (by omega)) rfl rfl (Nat.le_of_ble_eq_true rfl) (Nat.le_of_eq (Nat.zero_add _)) (Nat.le_of_eq (Nat.zero_add _)) (fun r_22 G_22 h_22 => ?_)
    obtain ⟨rfl, q22⟩ := h_22
    refine ar_aload_n (pc := 25) d_Re_readOne_25 rfl ?_
    refine ar_iload_n (pc := 26) d_Re_readOne_26 rfl ?_
    refine ar_iconst (pc := 27) d_Re_readOne_27 ?_
    refine ar_iadd (pc := 28) d_Re_readOne_28 ?_
    refine ar_aload_n (pc := 29) d_Re_readOne_29 rfl ?_
    rw [show (dep : Int) + 1 = ((dep + 1 : Nat) : Int) by omega]
    refine ac_virt (pc := 30) (N := mt_Re_readOne) _ _ mv_Re_readOne ml_Re_84 ck_5 d_Re_readOne_30 (hO1 G_22 q22) (by first | rfl | exact sh_wheel (by omega) | exact sh_milk (by omega)) rfl rfl (Nat.le_of_ble_eq_true rfl) (Nat.le_of_eq (Nat.zero_add _)) (Nat.le_of_eq (Nat.zero_add _)) (fun r_30 G_30 h_30 => ?_)
    obtain ⟨rfl, i1, v1, o1, ⟨hd1, hs1⟩, hp1⟩ | ⟨rfl, k1, p1, hb1, hq1⟩ := h_30
    rotate_left
    rotate_left
    -- leaves: stop 33, stop 33
    · obtain ⟨a1, a2, a3, a4⟩ := hd1
      have c41 := cm_Re_add_a X (d + 2) (z := -8) hF hp1 ⟨by omega, by omega⟩ (by omega)
      refine ar_if_ne (pc := 33) 38 d_Re_readOne_33 (by decide) ⟨by omega, by omega⟩ (fun h_33 => ?_) (fun h_33 => by exfalso; omega)
      refine ar_aload_n (pc := 38) d_Re_readOne_38 rfl ?_
      refine ar_bipush (pc := 39) d_Re_readOne_39 (by decide) ?_
      refine ac_virt (pc := 41) (N := mt_Or_addItem) _ _ mv_Or_addItem ml_Re_91 ck_3 d_Re_readOne_41 c41 (by first | rfl | exact sh_wheel (by omega) | exact sh_milk (by omega)) rfl rfl (Nat.le_of_ble_eq_true rfl) (Nat.le_of_eq (Nat.zero_add _)) (Nat.le_of_eq (Nat.zero_add _)) (fun r_41 G_41 h_41 => ?_)
      obtain ⟨rfl, q41⟩ := h_41
      refine ar_iconst (pc := 44) d_Re_readOne_44 ?_
      refine ar_zret (pc := 45) d_Re_readOne_45 rfl (by omega) ?_
      rotate_left
      -- leaves: ret 45
      · exact Or.inl ⟨rfl, i1, v1, o1 ++ [-8], ⟨⟨by omega, a2, a3, by rw [List.length_append]; simp; omega⟩, on_not hd k7 hs1⟩, q41⟩
    · skip
      refine ar_if_ne (pc := 33) 38 d_Re_readOne_33 (by decide) ⟨by omega, by omega⟩ (fun h_33 => by exfalso; omega) (fun h_33 => ?_)
      refine ar_iconst (pc := 36) d_Re_readOne_36 ?_
      refine ar_zret (pc := 37) d_Re_readOne_37 rfl (by omega) ?_
      rotate_left
      -- leaves: ret 37
      · exact Or.inr ⟨rfl, k1, p1, on_notb hd k7 hb1, hq1⟩
  · have c50 := hS2 i v o G1 hi hv ho h
    clear hO hS2 h
    refine aw_enter pf_Re_readOne (Nat.le_of_ble_eq_true rfl) ?_
    refine ar_iload_n (pc := 0) d_Re_readOne_0 rfl ?_
    refine ar_bipush (pc := 1) d_Re_readOne_1 (by decide) ?_
    refine ar_icmp_lt (pc := 3) 12 d_Re_readOne_3 (by decide) ⟨by omega, by omega⟩ ⟨by omega, by omega⟩ (fun h_3 => ?_) (fun h_3 => by exfalso; omega)
    refine ar_aload_n (pc := 12) d_Re_readOne_12 rfl ?_
    refine ar_getIv (pc := 13) gf_Re_43 d_Re_readOne_13 (by first | rfl | exact sh_wheel (by omega) | exact sh_milk (by omega)) e2 (fun r_13 => ?_)
    refine ar_bipush (pc := 16) d_Re_readOne_16 (by decide) ?_
    refine ar_icmp_ne (pc := 18) 46 d_Re_readOne_18 (by decide) ⟨by omega, by omega⟩ ⟨by omega, by omega⟩ (fun h_18 => ?_) (fun h_18 => by exfalso; omega)
    refine ar_aload_n (pc := 46) d_Re_readOne_46 rfl ?_
    refine ar_iconst (pc := 47) d_Re_readOne_47 ?_
    refine ar_iload_n (pc := 48) d_Re_readOne_48 rfl ?_
    refine ar_aload_n (pc := 49) d_Re_readOne_49 rfl ?_
    refine ac_virt (pc := 50) (N := mt_Re_readJoined) _ _ mv_Re_readJoined ml_Re_76 ck_5 d_Re_readOne_50 c50 (by first | rfl | exact sh_wheel (by omega) | exact sh_milk (by omega)) rfl rfl (Nat.le_of_ble_eq_true rfl) (Nat.le_of_eq (Nat.zero_add _)) (Nat.le_of_eq (Nat.zero_add _)) (fun r_50 G_50 h_50 => ?_)
    obtain ⟨rfl, i1, v1, o1, ⟨hd1, hs1⟩, hp1⟩ | ⟨rfl, k1, p1, hb1, hq1⟩ := h_50
    rotate_left
    rotate_left
    -- leaves: stop 53, stop 53
    · obtain ⟨a1, a2, a3, a4⟩ := hd1
      have c59 := rt_C_a X d hT hF hS a2 a3 (by omega) hp1
      clear hS
      refine ar_if_eq (pc := 53) 69 d_Re_readOne_53 (by decide) ⟨by omega, by omega⟩ (fun h_53 => by exfalso; omega) (fun h_53 => ?_)
      refine ar_aload_n (pc := 56) d_Re_readOne_56 rfl ?_
      refine ar_iload_n (pc := 57) d_Re_readOne_57 rfl ?_
      refine ar_aload_n (pc := 58) d_Re_readOne_58 rfl ?_
      refine ac_virt (pc := 59) (N := mt_Re_readComparison) _ _ mv_Re_readComparison ml_Re_97 ck_5 d_Re_readOne_59 c59 (by first | rfl | exact sh_wheel (by omega) | exact sh_milk (by omega)) rfl rfl (Nat.le_of_ble_eq_true rfl) (Nat.le_of_eq (Nat.zero_add _)) (Nat.le_of_eq (Nat.zero_add _)) (fun r_59 G_59 h_59 => ?_)
      obtain ⟨hc, rfl, q59⟩ | ⟨hc, rfl, i2, v2, o2, ⟨b1, b2, b3, b4⟩, hs2, q59⟩ | ⟨hc, rfl, k2, p2, hb2, q59⟩ := h_59
      refine ar_if_eq (pc := 62) 69 d_Re_readOne_62 (by decide) ⟨by omega, by omega⟩ (fun h_62 => ?_) (fun h_62 => ?_)
      refine ar_iconst (pc := 69) d_Re_readOne_69 ?_
      refine ar_zret (pc := 70) d_Re_readOne_70 rfl (by omega) ?_
      rotate_left
      refine ar_iconst (pc := 65) d_Re_readOne_65 ?_
      refine ar_goto (pc := 66) 70 d_Re_readOne_66 (by decide) ?_
      refine ar_zret (pc := 70) d_Re_readOne_70 rfl (by omega) ?_
      rotate_left
      refine ar_if_eq (pc := 62) 69 d_Re_readOne_62 (by decide) ⟨by omega, by omega⟩ (fun h_62 => ?_) (fun h_62 => ?_)
      refine ar_iconst (pc := 69) d_Re_readOne_69 ?_
      refine ar_zret (pc := 70) d_Re_readOne_70 rfl (by omega) ?_
      rotate_left
      refine ar_iconst (pc := 65) d_Re_readOne_65 ?_
      refine ar_goto (pc := 66) 70 d_Re_readOne_66 (by decide) ?_
      refine ar_zret (pc := 70) d_Re_readOne_70 rfl (by omega) ?_
      rotate_left
      refine ar_if_eq (pc := 62) 69 d_Re_readOne_62 (by decide) ⟨by omega, by omega⟩ (fun h_62 => ?_) (fun h_62 => ?_)
      refine ar_iconst (pc := 69) d_Re_readOne_69 ?_
      refine ar_zret (pc := 70) d_Re_readOne_70 rfl (by omega) ?_
      rotate_left
      refine ar_iconst (pc := 65) d_Re_readOne_65 ?_
      refine ar_goto (pc := 66) 70 d_Re_readOne_66 (by decide) ?_
      refine ar_zret (pc := 70) d_Re_readOne_70 rfl (by omega) ?_
      rotate_left
      -- leaves: ret 70, ret 70, ret 70, ret 70, ret 70, ret 70
      · exfalso; omega
      · exact Or.inl ⟨rfl, i1, v1, o1, ⟨⟨a1, a2, a3, a4⟩, on_sum hs1 hc⟩, q59⟩
      · exfalso; omega
      · exact Or.inl ⟨rfl, i2, v2, o2 ++ [-1 - K i1], ⟨⟨by omega, b2, b3, by rw [List.length_append]; simp; omega⟩, on_cmp hs1 hc hs2⟩, q59⟩
      · exact Or.inr ⟨rfl, k2, p2, on_b2 hs1 hc hb2, q59⟩
      · exfalso; omega
    · skip
      refine ar_if_eq (pc := 53) 69 d_Re_readOne_53 (by decide) ⟨by omega, by omega⟩ (fun h_53 => ?_) (fun h_53 => by exfalso; omega)
      refine ar_iconst (pc := 69) d_Re_readOne_69 ?_
      refine ar_zret (pc := 70) d_Re_readOne_70 rfl (by omega) ?_
      rotate_left
      -- leaves: ret 70
      · exact Or.inr ⟨rfl, k1, p1, on_b1 k7 hb1, hq1⟩
theorem rt_8_a (X : gx_T) (d : Nat) {K P N : Nat → Int} {G : mm_T} {n dep : Nat} (hT : tt_T K P N n G) (hd : 8 ≤ dep) (hd9 : dep ≤ 9) : ct_O_a X (d + 2) K P N n G dep := by
  intro i v o G1 hi hv ho h
  have c8 := cm_Re_refuse_a X d (k := 2) hT h hi (by omega)
  have fin := on_deep (K := K) (P := P) (N := N) (i := i) (v := v) (o := o) hd
  refine aw_enter pf_Re_readOne (Nat.le_of_ble_eq_true rfl) ?_
  refine ar_iload_n (pc := 0) d_Re_readOne_0 rfl ?_
  refine ar_bipush (pc := 1) d_Re_readOne_1 (by decide) ?_
  refine ar_icmp_lt (pc := 3) 12 d_Re_readOne_3 (by decide) ⟨by omega, by omega⟩ ⟨by omega, by omega⟩ (fun h_3 => by exfalso; omega) (fun h_3 => ?_)
  refine ar_aload_n (pc := 6) d_Re_readOne_6 rfl ?_
  refine ar_iconst (pc := 7) d_Re_readOne_7 ?_
  refine ac_virt (pc := 8) (N := mt_Re_refuse) _ _ mv_Re_refuse ml_Re_50 ck_5 d_Re_readOne_8 c8 (by first | rfl | exact sh_wheel (by omega) | exact sh_milk (by omega)) rfl rfl (Nat.le_of_ble_eq_true rfl) (Nat.le_of_eq (Nat.zero_add _)) (Nat.le_of_eq (Nat.zero_add _)) (fun r_8 G_8 h_8 => ?_)
  obtain ⟨rfl, q8⟩ := h_8
  refine ar_zret (pc := 11) d_Re_readOne_11 rfl (by omega) ?_
  rotate_left
  -- leaves: ret 11
  · exact Or.inr ⟨rfl, _, _, fin, q8⟩
theorem lj_2_a (X : gx_T) (d : Nat) {K P N : Nat → Int} {G : mm_T} {n dep : Nat} (hT : tt_T K P N n G) (hF : fx_R G) (hP : ct_T_a X (d + 1) K P N n G dep) {i v : Nat} {o : List Int} (hi : i ≤ n) (ho : o.length ≤ i) : ∀ m t j i1 v1 o1 G1, i1 + m = n + 1 → i1 ≤ n → i + 2 * t ≤ i1 → v1 ≤ 80 → o1.length + (aj_v j).length + i ≤ o.length + i1 → m_sum K P N dep i v o j i1 v1 o1 → pr_F_a K P N G G1 i1 v1 o1 → aw_W X mt_Re_readJoined (d + 2) 6 [(0, some (av_r (some 35))), (1, some (av_i 2)), (2, some (av_i (dep : Int))), (3, some (av_r (some 42))), (4, some (av_i j)), (5, some (av_i (t : Int)))] [] G1 0 0 (po_P_a K P N G (fun i' v' o' => dn_B n i v o i' v' o' ∧ s_sum K P N dep i v o i' v' o') (b_sum K P N dep i v o)) := by
  have n5 := hT.2.1
  intro m
  induction m using Nat.strongRecOn with
  | _ m ih =>
    intro t j i1 v1 o1 G1 hm h1 h2 h3 h4 hM h
    have hj1 := aj_l j
    have hP1 := hP i1 v1 o1 G1 h1 h3 (by omega) h
    have hjr : j = -1 ∨ j = 5 ∨ j = 6 ∨ j = 43 ∨ j = 45 := by rcases hM with q | q; exact Or.inl q.1; have := q.1; omega
    refine ar_iload (pc := 6) d_Re_readJoined_6 rfl ?_
    refine ar_sipush (pc := 8) d_Re_readJoined_8 (by decide) ?_
    refine ar_icmp_ge (pc := 11) 97 d_Re_readJoined_11 (by decide) ⟨by omega, by omega⟩ ⟨by omega, by omega⟩ (fun h_11 => by exfalso; omega) (fun h_11 => ?_)
    refine ar_iload_n (pc := 14) d_Re_readJoined_14 rfl ?_
    refine ar_if_ne (pc := 15) 28 d_Re_readJoined_15 (by decide) ⟨by omega, by omega⟩ (fun h_15 => ?_) (fun h_15 => by exfalso; omega)
    refine ar_iload_n (pc := 28) d_Re_readJoined_28 rfl ?_
    refine ar_iconst (pc := 29) d_Re_readJoined_29 ?_
    refine ar_icmp_ne (pc := 30) 42 d_Re_readJoined_30 (by decide) ⟨by omega, by omega⟩ ⟨by omega, by omega⟩ (fun h_30 => ?_) (fun h_30 => by exfalso; omega)
    refine ar_aload_n (pc := 42) d_Re_readJoined_42 rfl ?_
    refine ar_iload_n (pc := 43) d_Re_readJoined_43 rfl ?_
    refine ar_aload_n (pc := 44) d_Re_readJoined_44 rfl ?_
    refine ac_virt (pc := 45) (N := mt_Re_readTerm) _ _ mv_Re_readTerm ml_Re_88 ck_5 d_Re_readJoined_45 hP1 (by first | rfl | exact sh_wheel (by omega) | exact sh_milk (by omega)) rfl rfl (Nat.le_of_ble_eq_true rfl) (Nat.le_of_eq (Nat.zero_add _)) (Nat.le_of_eq (Nat.zero_add _)) (fun r_45 G_45 h_45 => ?_)
    obtain ⟨rfl, i2, v2, o2, ⟨hd2, hs2⟩, hp2⟩ | ⟨rfl, k2, p2, hb2, hq2⟩ := h_45
    rotate_left
    rotate_left
    -- leaves: stop 48, stop 48
    · obtain ⟨a1, a2, a3, a4⟩ := hd2
      obtain ⟨r1, r2, r3⟩ := hT.2.2.2.1 i2 a2
      have go := fun hk => su_go hM hs2 hk
      have en := fun hk => su_end hM hs2 hk
      have key : ∀ G3, pr_F_a K P N G G3 i2 v2 (o2 ++ aj_v j) → aw_W X mt_Re_readJoined (d + 2) 71 [(0, some (av_r (some 35))), (1, some (av_i 2)), (2, some (av_i (dep : Int))), (3, some (av_r (some 42))), (5, some (av_i (t : Int)))] [] G3 0 0 (po_P_a K P N G (fun i' v' o' => dn_B n i v o i' v' o' ∧ s_sum K P N dep i v o i' v' o') (b_sum K P N dep i v o)) := by
        intro G3 hp3
        have e2 := hp3.2.2.1.2.1
        have lj := List.length_append (as := o2) (bs := aj_v j)
        have c73 := cm_Re_isJoint_a X d (l := 2) hT hp3 a2 (by omega)
        by_cases hk : (K i2 = 43 ∨ K i2 = 45)
        · rw [if_pos (by omega)] at c73
          have hin := tt_n hT a2 (by omega)
          have c88 := cm_Re_step_a X d hT hF hp3 hin
          have hl1 := aj_l (K i2)
          have i1' := fun G4 q => ih (n + 1 - (i2 + 1)) (by omega) (t + 1) (K i2) (i2 + 1) v2 (o2 ++ aj_v j) G4 (by omega) (by omega) (by omega) a3 (by omega) (go hk) q
          clear ih go en hP hP1 hM hs2
          refine ar_aload_n (pc := 71) d_Re_readJoined_71 rfl ?_
          refine ar_iload_n (pc := 72) d_Re_readJoined_72 rfl ?_
          refine ac_virt (pc := 73) (N := mt_Re_isJoint) _ _ mv_Re_isJoint ml_Re_94 ck_5 d_Re_readJoined_73 c73 (by first | rfl | exact sh_wheel (by omega) | exact sh_milk (by omega)) rfl rfl (Nat.le_of_ble_eq_true rfl) (Nat.le_of_eq (Nat.zero_add _)) (Nat.le_of_eq (Nat.zero_add _)) (fun r_73 G_73 h_73 => ?_)
          obtain ⟨rfl, e_73⟩ := h_73
          subst G_73
          refine ar_if_ne (pc := 76) 81 d_Re_readJoined_76 (by decide) ⟨by omega, by omega⟩ (fun h_76 => ?_) (fun h_76 => by exfalso; omega)
          refine ar_aload_n (pc := 81) d_Re_readJoined_81 rfl ?_
          refine ar_getIv (pc := 82) gf_Re_43 d_Re_readJoined_82 (by first | rfl | exact sh_wheel (by omega) | exact sh_milk (by omega)) e2 (fun r_82 => ?_)
          refine ar_istore (pc := 85) d_Re_readJoined_85 rfl (by decide) ?_
          refine ar_aload_n (pc := 87) d_Re_readJoined_87 rfl ?_
          refine ac_virt (pc := 88) (N := mt_Re_step) _ _ mv_Re_step ml_Re_32 ck_5 d_Re_readJoined_88 c88 (by first | rfl | exact sh_wheel (by omega) | exact sh_milk (by omega)) rfl rfl (Nat.le_of_ble_eq_true rfl) (Nat.le_of_eq (Nat.zero_add _)) (Nat.le_of_eq (Nat.zero_add _)) (fun r_88 G_88 h_88 => ?_)
          obtain ⟨rfl, q88⟩ := h_88
          refine ar_iinc (pc := 91) d_Re_readJoined_91 rfl rfl (by decide) ?_
          refine ar_goto (pc := 94) 6 d_Re_readJoined_94 (by decide) ?_
          rotate_left
          -- leaves: stop 6
          · exact ar_loc (i1' _ q88) ⟨rfl, rfl, rfl, rfl, rfl, li_i rfl (by omega), trivial⟩
        · rw [if_neg (by omega)] at c73
          have fin := en hk
          clear ih go en hP hP1 hM hs2
          refine ar_aload_n (pc := 71) d_Re_readJoined_71 rfl ?_
          refine ar_iload_n (pc := 72) d_Re_readJoined_72 rfl ?_
          refine ac_virt (pc := 73) (N := mt_Re_isJoint) _ _ mv_Re_isJoint ml_Re_94 ck_5 d_Re_readJoined_73 c73 (by first | rfl | exact sh_wheel (by omega) | exact sh_milk (by omega)) rfl rfl (Nat.le_of_ble_eq_true rfl) (Nat.le_of_eq (Nat.zero_add _)) (Nat.le_of_eq (Nat.zero_add _)) (fun r_73 G_73 h_73 => ?_)
          obtain ⟨rfl, e_73⟩ := h_73
          subst G_73
          refine ar_if_ne (pc := 76) 81 d_Re_readJoined_76 (by decide) ⟨by omega, by omega⟩ (fun h_76 => by exfalso; omega) (fun h_76 => ?_)
          refine ar_iconst (pc := 79) d_Re_readJoined_79 ?_
          refine ar_zret (pc := 80) d_Re_readJoined_80 rfl (by omega) ?_
          rotate_left
          -- leaves: ret 80
          · exact Or.inl ⟨rfl, i2, v2, o2 ++ aj_v j, ⟨⟨by omega, a2, a3, by omega⟩, fin⟩, hp3⟩
      clear ih hP hP1 go en
      by_cases hj : j = -1
      · have k1 := key G_45 (by rw [hj, show aj_v (-1) = [] from rfl, List.append_nil]; exact hp2)
        refine ar_istore (pc := 48) d_Re_readJoined_48 rfl (by decide) ?_
        refine ar_iload (pc := 50) d_Re_readJoined_50 rfl ?_
        refine ar_if_ne (pc := 52) 57 d_Re_readJoined_52 (by decide) ⟨by omega, by omega⟩ (fun h_52 => ?_) (fun h_52 => by exfalso; omega)
        refine ar_iload (pc := 57) d_Re_readJoined_57 rfl ?_
        refine ar_iconst (pc := 59) d_Re_readJoined_59 ?_
        refine ar_icmp_eq (pc := 60) 71 d_Re_readJoined_60 (by decide) ⟨by omega, by omega⟩ ⟨by omega, by omega⟩ (fun h_60 => ?_) (fun h_60 => by exfalso; omega)
        rotate_left
        -- leaves: stop 71
        · exact ar_loc k1 ⟨rfl, rfl, rfl, rfl, rfl, trivial⟩
      · have hl1 : (aj_v j).length = 1 := by unfold aj_v; rw [if_neg hj]; rfl
        have c68 := cm_Re_add_a X d (z := -1 - j) hF hp2 ⟨by omega, by omega⟩ (by omega)
        have k1 := fun G4 q => key G4 (by rw [show aj_v j = [-1 - j] by unfold aj_v; rw [if_neg hj]]; exact q)
        refine ar_istore (pc := 48) d_Re_readJoined_48 rfl (by decide) ?_
        refine ar_iload (pc := 50) d_Re_readJoined_50 rfl ?_
        refine ar_if_ne (pc := 52) 57 d_Re_readJoined_52 (by decide) ⟨by omega, by omega⟩ (fun h_52 => ?_) (fun h_52 => by exfalso; omega)
        refine ar_iload (pc := 57) d_Re_readJoined_57 rfl ?_
        refine ar_iconst (pc := 59) d_Re_readJoined_59 ?_
        refine ar_icmp_eq (pc := 60) 71 d_Re_readJoined_60 (by decide) ⟨by omega, by omega⟩ ⟨by omega, by omega⟩ (fun h_60 => by exfalso; omega) (fun h_60 => ?_)
        refine ar_aload_n (pc := 63) d_Re_readJoined_63 rfl ?_
        refine ar_iload (pc := 64) d_Re_readJoined_64 rfl ?_
        refine ar_iconst (pc := 66) d_Re_readJoined_66 ?_
        refine ar_ixor (pc := 67) d_Re_readJoined_67 ?_
        refine ar_mod (ixor_m1 ⟨by omega, by omega⟩) ?_
        refine ac_virt (pc := 68) (N := mt_Or_addItem) _ _ mv_Or_addItem ml_Re_91 ck_3 d_Re_readJoined_68 c68 (by first | rfl | exact sh_wheel (by omega) | exact sh_milk (by omega)) rfl rfl (Nat.le_of_ble_eq_true rfl) (Nat.le_of_eq (Nat.zero_add _)) (Nat.le_of_eq (Nat.zero_add _)) (fun r_68 G_68 h_68 => ?_)
        obtain ⟨rfl, q68⟩ := h_68
        rotate_left
        -- leaves: stop 71
        · exact ar_loc (k1 _ q68) ⟨rfl, rfl, rfl, rfl, rfl, trivial⟩
    · have fin := su_bad hM hb2
      clear ih hP hP1
      refine ar_istore (pc := 48) d_Re_readJoined_48 rfl (by decide) ?_
      refine ar_iload (pc := 50) d_Re_readJoined_50 rfl ?_
      refine ar_if_ne (pc := 52) 57 d_Re_readJoined_52 (by decide) ⟨by omega, by omega⟩ (fun h_52 => by exfalso; omega) (fun h_52 => ?_)
      refine ar_iconst (pc := 55) d_Re_readJoined_55 ?_
      refine ar_zret (pc := 56) d_Re_readJoined_56 rfl (by omega) ?_
      rotate_left
      -- leaves: ret 56
      · exact Or.inr ⟨rfl, k2, p2, fin, hq2⟩
theorem rt_S_a (X : gx_T) (d : Nat) {K P N : Nat → Int} {G : mm_T} {n dep : Nat} (hT : tt_T K P N n G) (hF : fx_R G) (hP : ct_T_a X (d + 1) K P N n G dep) : ct_S_a X (d + 2) K P N n G dep := by
  intro i v o G1 hi hv ho h
  have hl := lj_2_a X d hT hF hP (i := i) (v := v) (o := o) hi ho (n + 1 - i) 0 (-1) i v o G1 (by omega) hi (by omega) hv (by rw [show aj_v (-1) = [] from rfl]; simp) (Or.inl ⟨rfl, rfl, rfl, rfl⟩) h
  refine aw_enter pf_Re_readJoined (Nat.le_of_ble_eq_true rfl) ?_
  refine ar_iconst (pc := 0) d_Re_readJoined_0 ?_
  refine ar_istore (pc := 1) d_Re_readJoined_1 rfl (by decide) ?_
  refine ar_iconst (pc := 3) d_Re_readJoined_3 ?_
  refine ar_istore (pc := 4) d_Re_readJoined_4 rfl (by decide) ?_
  rotate_left
  -- leaves: stop 6
  · exact ar_loc hl ⟨rfl, rfl, rfl, rfl, rfl, rfl, trivial⟩
theorem lj_1_a (X : gx_T) (d : Nat) {K P N : Nat → Int} {G : mm_T} {n dep : Nat} (hT : tt_T K P N n G) (hF : fx_R G) (hP : ct_O_a X (d + 1) K P N n G dep) {i v : Nat} {o : List Int} (hi : i ≤ n) (ho : o.length ≤ i) : ∀ m t j i1 v1 o1 G1, i1 + m = n + 1 → i1 ≤ n → i + 2 * t ≤ i1 → v1 ≤ 80 → o1.length + (aj_v j).length + i ≤ o.length + i1 → m_and K P N dep i v o j i1 v1 o1 → pr_F_a K P N G G1 i1 v1 o1 → aw_W X mt_Re_readJoined (d + 2) 6 [(0, some (av_r (some 35))), (1, some (av_i 1)), (2, some (av_i (dep : Int))), (3, some (av_r (some 42))), (4, some (av_i j)), (5, some (av_i (t : Int)))] [] G1 0 0 (po_P_a K P N G (fun i' v' o' => dn_B n i v o i' v' o' ∧ s_and K P N dep i v o i' v' o') (b_and K P N dep i v o)) := by
  have n5 := hT.2.1
  intro m
  induction m using Nat.strongRecOn with
  | _ m ih =>
    intro t j i1 v1 o1 G1 hm h1 h2 h3 h4 hM h
    have hj1 := aj_l j
    have hP1 := hP i1 v1 o1 G1 h1 h3 (by omega) h
    have hjr : j = -1 ∨ j = 5 ∨ j = 6 ∨ j = 43 ∨ j = 45 := by rcases hM with q | q; exact Or.inl q.1; have := q.1; omega
    refine ar_iload (pc := 6) d_Re_readJoined_6 rfl ?_
    refine ar_sipush (pc := 8) d_Re_readJoined_8 (by decide) ?_
    refine ar_icmp_ge (pc := 11) 97 d_Re_readJoined_11 (by decide) ⟨by omega, by omega⟩ ⟨by omega, by omega⟩ (fun h_11 => by exfalso; omega) (fun h_11 => ?_)
    refine ar_iload_n (pc := 14) d_Re_readJoined_14 rfl ?_
    refine ar_if_ne (pc := 15) 28 d_Re_readJoined_15 (by decide) ⟨by omega, by omega⟩ (fun h_15 => ?_) (fun h_15 => by exfalso; omega)
    refine ar_iload_n (pc := 28) d_Re_readJoined_28 rfl ?_
    refine ar_iconst (pc := 29) d_Re_readJoined_29 ?_
    refine ar_icmp_ne (pc := 30) 42 d_Re_readJoined_30 (by decide) ⟨by omega, by omega⟩ ⟨by omega, by omega⟩ (fun h_30 => by exfalso; omega) (fun h_30 => ?_)
    refine ar_aload_n (pc := 33) d_Re_readJoined_33 rfl ?_
    refine ar_iload_n (pc := 34) d_Re_readJoined_34 rfl ?_
    refine ar_aload_n (pc := 35) d_Re_readJoined_35 rfl ?_
    refine ac_virt (pc := 36) (N := mt_Re_readOne) _ _ mv_Re_readOne ml_Re_84 ck_5 d_Re_readJoined_36 hP1 (by first | rfl | exact sh_wheel (by omega) | exact sh_milk (by omega)) rfl rfl (Nat.le_of_ble_eq_true rfl) (Nat.le_of_eq (Nat.zero_add _)) (Nat.le_of_eq (Nat.zero_add _)) (fun r_36 G_36 h_36 => ?_)
    obtain ⟨rfl, i2, v2, o2, ⟨hd2, hs2⟩, hp2⟩ | ⟨rfl, k2, p2, hb2, hq2⟩ := h_36
    refine ar_goto (pc := 39) 48 d_Re_readJoined_39 (by decide) ?_
    rotate_left
    refine ar_goto (pc := 39) 48 d_Re_readJoined_39 (by decide) ?_
    rotate_left
    -- leaves: stop 48, stop 48
    · obtain ⟨a1, a2, a3, a4⟩ := hd2
      obtain ⟨r1, r2, r3⟩ := hT.2.2.2.1 i2 a2
      have go := fun hk => an_go hM hs2 hk
      have en := fun hk => an_end hM hs2 hk
      have key : ∀ G3, pr_F_a K P N G G3 i2 v2 (o2 ++ aj_v j) → aw_W X mt_Re_readJoined (d + 2) 71 [(0, some (av_r (some 35))), (1, some (av_i 1)), (2, some (av_i (dep : Int))), (3, some (av_r (some 42))), (5, some (av_i (t : Int)))] [] G3 0 0 (po_P_a K P N G (fun i' v' o' => dn_B n i v o i' v' o' ∧ s_and K P N dep i v o i' v' o') (b_and K P N dep i v o)) := by
        intro G3 hp3
        have e2 := hp3.2.2.1.2.1
        have lj := List.length_append (as := o2) (bs := aj_v j)
        have c73 := cm_Re_isJoint_a X d (l := 1) hT hp3 a2 (by omega)
        by_cases hk : (K i2 = 6)
        · rw [if_pos (by omega)] at c73
          have hin := tt_n hT a2 (by omega)
          have c88 := cm_Re_step_a X d hT hF hp3 hin
          have hl1 := aj_l (K i2)
          have i1' := fun G4 q => ih (n + 1 - (i2 + 1)) (by omega) (t + 1) (K i2) (i2 + 1) v2 (o2 ++ aj_v j) G4 (by omega) (by omega) (by omega) a3 (by omega) (go hk) q
          clear ih go en hP hP1 hM hs2
          refine ar_aload_n (pc := 71) d_Re_readJoined_71 rfl ?_
          refine ar_iload_n (pc := 72) d_Re_readJoined_72 rfl ?_
          refine ac_virt (pc := 73) (N := mt_Re_isJoint) _ _ mv_Re_isJoint ml_Re_94 ck_5 d_Re_readJoined_73 c73 (by first | rfl | exact sh_wheel (by omega) | exact sh_milk (by omega)) rfl rfl (Nat.le_of_ble_eq_true rfl) (Nat.le_of_eq (Nat.zero_add _)) (Nat.le_of_eq (Nat.zero_add _)) (fun r_73 G_73 h_73 => ?_)
          obtain ⟨rfl, e_73⟩ := h_73
          subst G_73
          refine ar_if_ne (pc := 76) 81 d_Re_readJoined_76 (by decide) ⟨by omega, by omega⟩ (fun h_76 => ?_) (fun h_76 => by exfalso; omega)
          refine ar_aload_n (pc := 81) d_Re_readJoined_81 rfl ?_
          refine ar_getIv (pc := 82) gf_Re_43 d_Re_readJoined_82 (by first | rfl | exact sh_wheel (by omega) | exact sh_milk (by omega)) e2 (fun r_82 => ?_)
          refine ar_istore (pc := 85) d_Re_readJoined_85 rfl (by decide) ?_
          refine ar_aload_n (pc := 87) d_Re_readJoined_87 rfl ?_
          refine ac_virt (pc := 88) (N := mt_Re_step) _ _ mv_Re_step ml_Re_32 ck_5 d_Re_readJoined_88 c88 (by first | rfl | exact sh_wheel (by omega) | exact sh_milk (by omega)) rfl rfl (Nat.le_of_ble_eq_true rfl) (Nat.le_of_eq (Nat.zero_add _)) (Nat.le_of_eq (Nat.zero_add _)) (fun r_88 G_88 h_88 => ?_)
          obtain ⟨rfl, q88⟩ := h_88
          refine ar_iinc (pc := 91) d_Re_readJoined_91 rfl rfl (by decide) ?_
          refine ar_goto (pc := 94) 6 d_Re_readJoined_94 (by decide) ?_
          rotate_left
          -- leaves: stop 6
          · exact ar_loc (i1' _ q88) ⟨rfl, rfl, rfl, rfl, rfl, li_i rfl (by omega), trivial⟩
        · rw [if_neg (by omega)] at c73
          have fin := en hk
          clear ih go en hP hP1 hM hs2
          refine ar_aload_n (pc := 71) d_Re_readJoined_71 rfl ?_
          refine ar_iload_n (pc := 72) d_Re_readJoined_72 rfl ?_
          refine ac_virt (pc := 73) (N := mt_Re_isJoint) _ _ mv_Re_isJoint ml_Re_94 ck_5 d_Re_readJoined_73 c73 (by first | rfl | exact sh_wheel (by omega) | exact sh_milk (by omega)) rfl rfl (Nat.le_of_ble_eq_true rfl) (Nat.le_of_eq (Nat.zero_add _)) (Nat.le_of_eq (Nat.zero_add _)) (fun r_73 G_73 h_73 => ?_)
          obtain ⟨rfl, e_73⟩ := h_73
          subst G_73
          refine ar_if_ne (pc := 76) 81 d_Re_readJoined_76 (by decide) ⟨by omega, by omega⟩ (fun h_76 => by exfalso; omega) (fun h_76 => ?_)
          refine ar_iconst (pc := 79) d_Re_readJoined_79 ?_
          refine ar_zret (pc := 80) d_Re_readJoined_80 rfl (by omega) ?_
          rotate_left
          -- leaves: ret 80
          · exact Or.inl ⟨rfl, i2, v2, o2 ++ aj_v j, ⟨⟨by omega, a2, a3, by omega⟩, fin⟩, hp3⟩
      clear ih hP hP1 go en
      by_cases hj : j = -1
      · have k1 := key G_36 (by rw [hj, show aj_v (-1) = [] from rfl, List.append_nil]; exact hp2)
        refine ar_istore (pc := 48) d_Re_readJoined_48 rfl (by decide) ?_
        refine ar_iload (pc := 50) d_Re_readJoined_50 rfl ?_
        refine ar_if_ne (pc := 52) 57 d_Re_readJoined_52 (by decide) ⟨by omega, by omega⟩ (fun h_52 => ?_) (fun h_52 => by exfalso; omega)
        refine ar_iload (pc := 57) d_Re_readJoined_57 rfl ?_
        refine ar_iconst (pc := 59) d_Re_readJoined_59 ?_
        refine ar_icmp_eq (pc := 60) 71 d_Re_readJoined_60 (by decide) ⟨by omega, by omega⟩ ⟨by omega, by omega⟩ (fun h_60 => ?_) (fun h_60 => by exfalso; omega)
        rotate_left
        -- leaves: stop 71
        · exact ar_loc k1 ⟨rfl, rfl, rfl, rfl, rfl, trivial⟩
      · have hl1 : (aj_v j).length = 1 := by unfold aj_v; rw [if_neg hj]; rfl
        have c68 := cm_Re_add_a X d (z := -1 - j) hF hp2 ⟨by omega, by omega⟩ (by omega)
        have k1 := fun G4 q => key G4 (by rw [show aj_v j = [-1 - j] by unfold aj_v; rw [if_neg hj]]; exact q)
        refine ar_istore (pc := 48) d_Re_readJoined_48 rfl (by decide) ?_
        refine ar_iload (pc := 50) d_Re_readJoined_50 rfl ?_
        refine ar_if_ne (pc := 52) 57 d_Re_readJoined_52 (by decide) ⟨by omega, by omega⟩ (fun h_52 => ?_) (fun h_52 => by exfalso; omega)
        refine ar_iload (pc := 57) d_Re_readJoined_57 rfl ?_
        refine ar_iconst (pc := 59) d_Re_readJoined_59 ?_
        refine ar_icmp_eq (pc := 60) 71 d_Re_readJoined_60 (by decide) ⟨by omega, by omega⟩ ⟨by omega, by omega⟩ (fun h_60 => by exfalso; omega) (fun h_60 => ?_)
        refine ar_aload_n (pc := 63) d_Re_readJoined_63 rfl ?_
        refine ar_iload (pc := 64) d_Re_readJoined_64 rfl ?_
        refine ar_iconst (pc := 66) d_Re_readJoined_66 ?_
        refine ar_ixor (pc := 67) d_Re_readJoined_67 ?_
        refine ar_mod (ixor_m1 ⟨by omega, by omega⟩) ?_
        refine ac_virt (pc := 68) (N := mt_Or_addItem) _ _ mv_Or_addItem ml_Re_91 ck_3 d_Re_readJoined_68 c68 (by first | rfl | exact sh_wheel (by omega) | exact sh_milk (by omega)) rfl rfl (Nat.le_of_ble_eq_true rfl) (Nat.le_of_eq (Nat.zero_add _)) (Nat.le_of_eq (Nat.zero_add _)) (fun r_68 G_68 h_68 => ?_)
        obtain ⟨rfl, q68⟩ := h_68
        rotate_left
        -- leaves: stop 71
        · exact ar_loc (k1 _ q68) ⟨rfl, rfl, rfl, rfl, rfl, trivial⟩
    · have fin := an_bad hM hb2
      clear ih hP hP1
      refine ar_istore (pc := 48) d_Re_readJoined_48 rfl (by decide) ?_
      refine ar_iload (pc := 50) d_Re_readJoined_50 rfl ?_
      refine ar_if_ne (pc := 52) 57 d_Re_readJoined_52 (by decide) ⟨by omega, by omega⟩ (fun h_52 => by exfalso; omega) (fun h_52 => ?_)
      refine ar_iconst (pc := 55) d_Re_readJoined_55 ?_
      refine ar_zret (pc := 56) d_Re_readJoined_56 rfl (by omega) ?_
      rotate_left
      -- leaves: ret 56
      · exact Or.inr ⟨rfl, k2, p2, fin, hq2⟩
theorem rt_A_a (X : gx_T) (d : Nat) {K P N : Nat → Int} {G : mm_T} {n dep : Nat} (hT : tt_T K P N n G) (hF : fx_R G) (hP : ct_O_a X (d + 1) K P N n G dep) : ct_A_a X (d + 2) K P N n G dep := by
  intro i v o G1 hi hv ho h
  have hl := lj_1_a X d hT hF hP (i := i) (v := v) (o := o) hi ho (n + 1 - i) 0 (-1) i v o G1 (by omega) hi (by omega) hv (by rw [show aj_v (-1) = [] from rfl]; simp) (Or.inl ⟨rfl, rfl, rfl, rfl⟩) h
  refine aw_enter pf_Re_readJoined (Nat.le_of_ble_eq_true rfl) ?_
  refine ar_iconst (pc := 0) d_Re_readJoined_0 ?_
  refine ar_istore (pc := 1) d_Re_readJoined_1 rfl (by decide) ?_
  refine ar_iconst (pc := 3) d_Re_readJoined_3 ?_
  refine ar_istore (pc := 4) d_Re_readJoined_4 rfl (by decide) ?_
  rotate_left
  -- leaves: stop 6
  · exact ar_loc hl ⟨rfl, rfl, rfl, rfl, rfl, rfl, trivial⟩
theorem lj_0_a (X : gx_T) (d : Nat) {K P N : Nat → Int} {G : mm_T} {n dep : Nat} (hT : tt_T K P N n G) (hF : fx_R G) (hP : ct_A_a X (d + 1) K P N n G dep) {i v : Nat} {o : List Int} (hi : i ≤ n) (ho : o.length ≤ i) : ∀ m t j i1 v1 o1 G1, i1 + m = n + 1 → i1 ≤ n → i + 2 * t ≤ i1 → v1 ≤ 80 → o1.length + (aj_v j).length + i ≤ o.length + i1 → m_or K P N dep i v o j i1 v1 o1 → pr_F_a K P N G G1 i1 v1 o1 → aw_W X mt_Re_readJoined (d + 2) 6 [(0, some (av_r (some 35))), (1, some (av_i 0)), (2, some (av_i (dep : Int))), (3, some (av_r (some 42))), (4, some (av_i j)), (5, some (av_i (t : Int)))] [] G1 0 0 (po_P_a K P N G (fun i' v' o' => dn_B n i v o i' v' o' ∧ s_or K P N dep i v o i' v' o') (b_or K P N dep i v o)) := by
  have n5 := hT.2.1
  intro m
  induction m using Nat.strongRecOn with
  | _ m ih =>
    intro t j i1 v1 o1 G1 hm h1 h2 h3 h4 hM h
    have hj1 := aj_l j
    have hP1 := hP i1 v1 o1 G1 h1 h3 (by omega) h
    have hjr : j = -1 ∨ j = 5 ∨ j = 6 ∨ j = 43 ∨ j = 45 := by rcases hM with q | q; exact Or.inl q.1; have := q.1; omega
    refine ar_iload (pc := 6) d_Re_readJoined_6 rfl ?_
    refine ar_sipush (pc := 8) d_Re_readJoined_8 (by decide) ?_
    refine ar_icmp_ge (pc := 11) 97 d_Re_readJoined_11 (by decide) ⟨by omega, by omega⟩ ⟨by omega, by omega⟩ (fun h_11 => by exfalso; omega) (fun h_11 => ?_)
    refine ar_iload_n (pc := 14) d_Re_readJoined_14 rfl ?_
    refine ar_if_ne (pc := 15) 28 d_Re_readJoined_15 (by decide) ⟨by omega, by omega⟩ (fun h_15 => by exfalso; omega) (fun h_15 => ?_)
    refine ar_aload_n (pc := 18) d_Re_readJoined_18 rfl ?_
    refine ar_iconst (pc := 19) d_Re_readJoined_19 ?_
    refine ar_iload_n (pc := 20) d_Re_readJoined_20 rfl ?_
    refine ar_aload_n (pc := 21) d_Re_readJoined_21 rfl ?_
    refine ac_virt (pc := 22) (N := mt_Re_readJoined) _ _ mv_Re_readJoined ml_Re_76 ck_5 d_Re_readJoined_22 hP1 (by first | rfl | exact sh_wheel (by omega) | exact sh_milk (by omega)) rfl rfl (Nat.le_of_ble_eq_true rfl) (Nat.le_of_eq (Nat.zero_add _)) (Nat.le_of_eq (Nat.zero_add _)) (fun r_22 G_22 h_22 => ?_)
    obtain ⟨rfl, i2, v2, o2, ⟨hd2, hs2⟩, hp2⟩ | ⟨rfl, k2, p2, hb2, hq2⟩ := h_22
    refine ar_goto (pc := 25) 48 d_Re_readJoined_25 (by decide) ?_
    rotate_left
    refine ar_goto (pc := 25) 48 d_Re_readJoined_25 (by decide) ?_
    rotate_left
    -- leaves: stop 48, stop 48
    · obtain ⟨a1, a2, a3, a4⟩ := hd2
      obtain ⟨r1, r2, r3⟩ := hT.2.2.2.1 i2 a2
      have go := fun hk => or_go hM hs2 hk
      have en := fun hk => or_end hM hs2 hk
      have key : ∀ G3, pr_F_a K P N G G3 i2 v2 (o2 ++ aj_v j) → aw_W X mt_Re_readJoined (d + 2) 71 [(0, some (av_r (some 35))), (1, some (av_i 0)), (2, some (av_i (dep : Int))), (3, some (av_r (some 42))), (5, some (av_i (t : Int)))] [] G3 0 0 (po_P_a K P N G (fun i' v' o' => dn_B n i v o i' v' o' ∧ s_or K P N dep i v o i' v' o') (b_or K P N dep i v o)) := by
        intro G3 hp3
        have e2 := hp3.2.2.1.2.1
        have lj := List.length_append (as := o2) (bs := aj_v j)
        have c73 := cm_Re_isJoint_a X d (l := 0) hT hp3 a2 (by omega)
        by_cases hk : (K i2 = 5)
        · rw [if_pos (by omega)] at c73
          have hin := tt_n hT a2 (by omega)
          have c88 := cm_Re_step_a X d hT hF hp3 hin
          have hl1 := aj_l (K i2)
          have i1' := fun G4 q => ih (n + 1 - (i2 + 1)) (by omega) (t + 1) (K i2) (i2 + 1) v2 (o2 ++ aj_v j) G4 (by omega) (by omega) (by omega) a3 (by omega) (go hk) q
          clear ih go en hP hP1 hM hs2
          refine ar_aload_n (pc := 71) d_Re_readJoined_71 rfl ?_
          refine ar_iload_n (pc := 72) d_Re_readJoined_72 rfl ?_
          refine ac_virt (pc := 73) (N := mt_Re_isJoint) _ _ mv_Re_isJoint ml_Re_94 ck_5 d_Re_readJoined_73 c73 (by first | rfl | exact sh_wheel (by omega) | exact sh_milk (by omega)) rfl rfl (Nat.le_of_ble_eq_true rfl) (Nat.le_of_eq (Nat.zero_add _)) (Nat.le_of_eq (Nat.zero_add _)) (fun r_73 G_73 h_73 => ?_)
          obtain ⟨rfl, e_73⟩ := h_73
          subst G_73
          refine ar_if_ne (pc := 76) 81 d_Re_readJoined_76 (by decide) ⟨by omega, by omega⟩ (fun h_76 => ?_) (fun h_76 => by exfalso; omega)
          refine ar_aload_n (pc := 81) d_Re_readJoined_81 rfl ?_
          refine ar_getIv (pc := 82) gf_Re_43 d_Re_readJoined_82 (by first | rfl | exact sh_wheel (by omega) | exact sh_milk (by omega)) e2 (fun r_82 => ?_)
          refine ar_istore (pc := 85) d_Re_readJoined_85 rfl (by decide) ?_
          refine ar_aload_n (pc := 87) d_Re_readJoined_87 rfl ?_
          refine ac_virt (pc := 88) (N := mt_Re_step) _ _ mv_Re_step ml_Re_32 ck_5 d_Re_readJoined_88 c88 (by first | rfl | exact sh_wheel (by omega) | exact sh_milk (by omega)) rfl rfl (Nat.le_of_ble_eq_true rfl) (Nat.le_of_eq (Nat.zero_add _)) (Nat.le_of_eq (Nat.zero_add _)) (fun r_88 G_88 h_88 => ?_)
          obtain ⟨rfl, q88⟩ := h_88
          refine ar_iinc (pc := 91) d_Re_readJoined_91 rfl rfl (by decide) ?_
          refine ar_goto (pc := 94) 6 d_Re_readJoined_94 (by decide) ?_
          rotate_left
          -- leaves: stop 6
          · exact ar_loc (i1' _ q88) ⟨rfl, rfl, rfl, rfl, rfl, li_i rfl (by omega), trivial⟩
        · rw [if_neg (by omega)] at c73
          have fin := en hk
          clear ih go en hP hP1 hM hs2
          refine ar_aload_n (pc := 71) d_Re_readJoined_71 rfl ?_
          refine ar_iload_n (pc := 72) d_Re_readJoined_72 rfl ?_
          refine ac_virt (pc := 73) (N := mt_Re_isJoint) _ _ mv_Re_isJoint ml_Re_94 ck_5 d_Re_readJoined_73 c73 (by first | rfl | exact sh_wheel (by omega) | exact sh_milk (by omega)) rfl rfl (Nat.le_of_ble_eq_true rfl) (Nat.le_of_eq (Nat.zero_add _)) (Nat.le_of_eq (Nat.zero_add _)) (fun r_73 G_73 h_73 => ?_)
          obtain ⟨rfl, e_73⟩ := h_73
          subst G_73
          refine ar_if_ne (pc := 76) 81 d_Re_readJoined_76 (by decide) ⟨by omega, by omega⟩ (fun h_76 => by exfalso; omega) (fun h_76 => ?_)
          refine ar_iconst (pc := 79) d_Re_readJoined_79 ?_
          refine ar_zret (pc := 80) d_Re_readJoined_80 rfl (by omega) ?_
          rotate_left
          -- leaves: ret 80
          · exact Or.inl ⟨rfl, i2, v2, o2 ++ aj_v j, ⟨⟨by omega, a2, a3, by omega⟩, fin⟩, hp3⟩
      clear ih hP hP1 go en
      by_cases hj : j = -1
      · have k1 := key G_22 (by rw [hj, show aj_v (-1) = [] from rfl, List.append_nil]; exact hp2)
        refine ar_istore (pc := 48) d_Re_readJoined_48 rfl (by decide) ?_
        refine ar_iload (pc := 50) d_Re_readJoined_50 rfl ?_
        refine ar_if_ne (pc := 52) 57 d_Re_readJoined_52 (by decide) ⟨by omega, by omega⟩ (fun h_52 => ?_) (fun h_52 => by exfalso; omega)
        refine ar_iload (pc := 57) d_Re_readJoined_57 rfl ?_
        refine ar_iconst (pc := 59) d_Re_readJoined_59 ?_
        refine ar_icmp_eq (pc := 60) 71 d_Re_readJoined_60 (by decide) ⟨by omega, by omega⟩ ⟨by omega, by omega⟩ (fun h_60 => ?_) (fun h_60 => by exfalso; omega)
        rotate_left
        -- leaves: stop 71
        · exact ar_loc k1 ⟨rfl, rfl, rfl, rfl, rfl, trivial⟩
      · have hl1 : (aj_v j).length = 1 := by unfold aj_v; rw [if_neg hj]; rfl
        have c68 := cm_Re_add_a X d (z := -1 - j) hF hp2 ⟨by omega, by omega⟩ (by omega)
        have k1 := fun G4 q => key G4 (by rw [show aj_v j = [-1 - j] by unfold aj_v; rw [if_neg hj]]; exact q)
        refine ar_istore (pc := 48) d_Re_readJoined_48 rfl (by decide) ?_
        refine ar_iload (pc := 50) d_Re_readJoined_50 rfl ?_
        refine ar_if_ne (pc := 52) 57 d_Re_readJoined_52 (by decide) ⟨by omega, by omega⟩ (fun h_52 => ?_) (fun h_52 => by exfalso; omega)
        refine ar_iload (pc := 57) d_Re_readJoined_57 rfl ?_
        refine ar_iconst (pc := 59) d_Re_readJoined_59 ?_
        refine ar_icmp_eq (pc := 60) 71 d_Re_readJoined_60 (by decide) ⟨by omega, by omega⟩ ⟨by omega, by omega⟩ (fun h_60 => by exfalso; omega) (fun h_60 => ?_)
        refine ar_aload_n (pc := 63) d_Re_readJoined_63 rfl ?_
        refine ar_iload (pc := 64) d_Re_readJoined_64 rfl ?_
        refine ar_iconst (pc := 66) d_Re_readJoined_66 ?_
        refine ar_ixor (pc := 67) d_Re_readJoined_67 ?_
        refine ar_mod (ixor_m1 ⟨by omega, by omega⟩) ?_
        refine ac_virt (pc := 68) (N := mt_Or_addItem) _ _ mv_Or_addItem ml_Re_91 ck_3 d_Re_readJoined_68 c68 (by first | rfl | exact sh_wheel (by omega) | exact sh_milk (by omega)) rfl rfl (Nat.le_of_ble_eq_true rfl) (Nat.le_of_eq (Nat.zero_add _)) (Nat.le_of_eq (Nat.zero_add _)) (fun r_68 G_68 h_68 => ?_)
        obtain ⟨rfl, q68⟩ := h_68
        rotate_left
        -- leaves: stop 71
        · exact ar_loc (k1 _ q68) ⟨rfl, rfl, rfl, rfl, rfl, trivial⟩
    · have fin := or_bad hM hb2
      clear ih hP hP1
      refine ar_istore (pc := 48) d_Re_readJoined_48 rfl (by decide) ?_
      refine ar_iload (pc := 50) d_Re_readJoined_50 rfl ?_
      refine ar_if_ne (pc := 52) 57 d_Re_readJoined_52 (by decide) ⟨by omega, by omega⟩ (fun h_52 => by exfalso; omega) (fun h_52 => ?_)
      refine ar_iconst (pc := 55) d_Re_readJoined_55 ?_
      refine ar_zret (pc := 56) d_Re_readJoined_56 rfl (by omega) ?_
      rotate_left
      -- leaves: ret 56
      · exact Or.inr ⟨rfl, k2, p2, fin, hq2⟩
theorem rt_E_a (X : gx_T) (d : Nat) {K P N : Nat → Int} {G : mm_T} {n dep : Nat} (hT : tt_T K P N n G) (hF : fx_R G) (hP : ct_A_a X (d + 1) K P N n G dep) : ct_E_a X (d + 2) K P N n G dep := by
  intro i v o G1 hi hv ho h
  have hl := lj_0_a X d hT hF hP (i := i) (v := v) (o := o) hi ho (n + 1 - i) 0 (-1) i v o G1 (by omega) hi (by omega) hv (by rw [show aj_v (-1) = [] from rfl]; simp) (Or.inl ⟨rfl, rfl, rfl, rfl⟩) h
  refine aw_enter pf_Re_readJoined (Nat.le_of_ble_eq_true rfl) ?_
  refine ar_iconst (pc := 0) d_Re_readJoined_0 ?_
  refine ar_istore (pc := 1) d_Re_readJoined_1 rfl (by decide) ?_
  refine ar_iconst (pc := 3) d_Re_readJoined_3 ?_
  refine ar_istore (pc := 4) d_Re_readJoined_4 rfl (by decide) ?_
  rotate_left
  -- leaves: stop 6
  · exact ar_loc hl ⟨rfl, rfl, rfl, rfl, rfl, rfl, trivial⟩
/-! ===== reading terms, ones, sums: orders at 48 ===== -/
theorem rt_T_b (X : gx_T) (d : Nat) {K P N : Nat → Int} {G : mm_T} {n dep : Nat} (hT : tt_T K P N n G) (hF : fx_R G) (hd : dep < 8) (hE : ct_E_b X (d + 2) K P N n G (dep + 1)) : ct_T_b X (d + 3) K P N n G dep := by
  intro i v o G1 hi hv ho h
  obtain ⟨r1, r2, r3⟩ := hT.2.2.2.1 i hi
  obtain ⟨e1, e2, e3, e4, e5⟩ := h.2.2.1
  have n5 := hT.2.1
  by_cases k40 : K i = 40
  · have hin := tt_n hT hi (by omega)
    have c10 := cm_Re_step_b X (d + 1) hT hF h hin
    have hE1 := fun G2 q => hE (i + 1) v o G2 (by omega) hv (by omega) q
    clear hE
    refine aw_enter pf_Re_readTerm (Nat.le_of_ble_eq_true rfl) ?_
    refine ar_aload_n (pc := 0) d_Re_readTerm_0 rfl ?_
    refine ar_getIv (pc := 1) gf_Re_43 d_Re_readTerm_1 (by first | rfl | exact sh_wheel (by omega) | exact sh_milk (by omega)) e2 (fun r_1 => ?_)
    refine ar_bipush (pc := 4) d_Re_readTerm_4 (by decide) ?_
    refine ar_icmp_ne (pc := 6) 40 d_Re_readTerm_6 (by decide) ⟨by omega, by omega⟩ ⟨by omega, by omega⟩ (fun h_6 => by exfalso; omega) (fun h_6 => ?_)
    refine ar_aload_n (pc := 9) d_Re_readTerm_9 rfl ?_
    refine ac_virt (pc := 10) (N := mt_Re_step) _ _ mv_Re_step ml_Re_32 ck_5 d_Re_readTerm_10 c10 (by first | rfl | exact sh_wheel (by omega) | exact sh_milk (by omega)) rfl rfl (Nat.le_of_ble_eq_true rfl) (Nat.le_of_eq (Nat.zero_add _)) (Nat.le_of_eq (Nat.zero_add _)) (fun r_10 G_10 h_10 => ?_)
    obtain ⟨rfl, q10⟩ := h_10
    refine ar_aload_n (pc := 13) d_Re_readTerm_13 rfl ?_
    refine ar_iconst (pc := 14) d_Re_readTerm_14 ?_
    refine ar_iload_n (pc := 15) d_Re_readTerm_15 rfl ?_
    refine ar_iconst (pc := 16) d_Re_readTerm_16 ?_
    refine ar_iadd (pc := 17) d_Re_readTerm_17 ?_
    refine ar_aload_n (pc := 18) d_Re_readTerm_18 rfl ?_
    rw [show (dep : Int) + 1 = ((dep + 1 : Nat) : Int) by omega]
    refine ac_virt (pc := 19) (N := mt_Re_readJoined) _ _ mv_Re_readJoined ml_Re_76 ck_5 d_Re_readTerm_19 (hE1 G_10 q10) (by first | rfl | exact sh_wheel (by omega) | exact sh_milk (by omega)) rfl rfl (Nat.le_of_ble_eq_true rfl) (Nat.le_of_eq (Nat.zero_add _)) (Nat.le_of_eq (Nat.zero_add _)) (fun r_19 G_19 h_19 => ?_)
    obtain ⟨rfl, i1, v1, o1, ⟨hd1, hs1⟩, hp1⟩ | ⟨rfl, k1, p1, hb1, hq1⟩ := h_19
    rotate_left
    rotate_left
    -- leaves: stop 22, stop 22
    · obtain ⟨a1, a2, a3, a4⟩ := hd1
      have c28 := cm_Re_pass_b X d (e := 41) hT hF hp1 a2 (by omega)
      refine ar_if_eq (pc := 22) 38 d_Re_readTerm_22 (by decide) ⟨by omega, by omega⟩ (fun h_22 => by exfalso; omega) (fun h_22 => ?_)
      refine ar_aload_n (pc := 25) d_Re_readTerm_25 rfl ?_
      refine ar_bipush (pc := 26) d_Re_readTerm_26 (by decide) ?_
      refine ac_virt (pc := 28) (N := mt_Re_pass) _ _ mv_Re_pass ml_Re_73 ck_5 d_Re_readTerm_28 c28 (by first | rfl | exact sh_wheel (by omega) | exact sh_milk (by omega)) rfl rfl (Nat.le_of_ble_eq_true rfl) (Nat.le_of_eq (Nat.zero_add _)) (Nat.le_of_eq (Nat.zero_add _)) (fun r_28 G_28 h_28 => ?_)
      obtain ⟨⟨k41, hin2⟩, rfl, q28⟩ | ⟨k41, rfl, q28⟩ := h_28
      refine ar_if_eq (pc := 31) 38 d_Re_readTerm_31 (by decide) ⟨by omega, by omega⟩ (fun h_31 => ?_) (fun h_31 => ?_)
      refine ar_iconst (pc := 38) d_Re_readTerm_38 ?_
      refine ar_zret (pc := 39) d_Re_readTerm_39 rfl (by omega) ?_
      rotate_left
      refine ar_iconst (pc := 34) d_Re_readTerm_34 ?_
      refine ar_goto (pc := 35) 39 d_Re_readTerm_35 (by decide) ?_
      refine ar_zret (pc := 39) d_Re_readTerm_39 rfl (by omega) ?_
      rotate_left
      refine ar_if_eq (pc := 31) 38 d_Re_readTerm_31 (by decide) ⟨by omega, by omega⟩ (fun h_31 => ?_) (fun h_31 => ?_)
      refine ar_iconst (pc := 38) d_Re_readTerm_38 ?_
      refine ar_zret (pc := 39) d_Re_readTerm_39 rfl (by omega) ?_
      rotate_left
      refine ar_iconst (pc := 34) d_Re_readTerm_34 ?_
      refine ar_goto (pc := 35) 39 d_Re_readTerm_35 (by decide) ?_
      refine ar_zret (pc := 39) d_Re_readTerm_39 rfl (by omega) ?_
      rotate_left
      -- leaves: ret 39, ret 39, ret 39, ret 39
      · exfalso; omega
      · exact Or.inl ⟨rfl, i1 + 1, v1, o1, ⟨⟨by omega, by omega, a3, by omega⟩, t_par hd k40 hs1 k41⟩, q28⟩
      · exact Or.inr ⟨rfl, _, _, t_parb2 hd k40 hs1 k41, q28⟩
      · exfalso; omega
    · skip
      refine ar_if_eq (pc := 22) 38 d_Re_readTerm_22 (by decide) ⟨by omega, by omega⟩ (fun h_22 => ?_) (fun h_22 => by exfalso; omega)
      refine ar_iconst (pc := 38) d_Re_readTerm_38 ?_
      refine ar_zret (pc := 39) d_Re_readTerm_39 rfl (by omega) ?_
      rotate_left
      -- leaves: ret 39
      · exact Or.inr ⟨rfl, k1, p1, t_parb1 hd k40 hb1, hq1⟩
  · by_cases hop : K i = 302 ∨ (8 ≤ K i ∧ K i ≤ 17) ∨ K i = 303
    · by_cases v80 : v = 80
      · have c111 := cm_Re_refuse_b X (d + 1) (k := 2) hT h hi (by omega)
        have fin := t_bad2 (K := K) (P := P) (N := N) (o := o) hd (Or.inl ⟨v80, hop⟩)
        clear hE h
        refine aw_enter pf_Re_readTerm (Nat.le_of_ble_eq_true rfl) ?_
        refine ar_aload_n (pc := 0) d_Re_readTerm_0 rfl ?_
        refine ar_getIv (pc := 1) gf_Re_43 d_Re_readTerm_1 (by first | rfl | exact sh_wheel (by omega) | exact sh_milk (by omega)) e2 (fun r_1 => ?_)
        refine ar_bipush (pc := 4) d_Re_readTerm_4 (by decide) ?_
        refine ar_icmp_ne (pc := 6) 40 d_Re_readTerm_6 (by decide) ⟨by omega, by omega⟩ ⟨by omega, by omega⟩ (fun h_6 => ?_) (fun h_6 => by exfalso; omega)
        refine ar_aload_n (pc := 40) d_Re_readTerm_40 rfl ?_
        refine ar_getIv (pc := 41) gf_Re_43 d_Re_readTerm_41 (by first | rfl | exact sh_wheel (by omega) | exact sh_milk (by omega)) e2 (fun r_41 => ?_)
        refine ar_bipush (pc := 44) d_Re_readTerm_44 (by decide) ?_
        refine ar_icmp_lt (pc := 46) 62 d_Re_readTerm_46 (by decide) ⟨by omega, by omega⟩ ⟨by omega, by omega⟩ (fun h_46 => ?_) (fun h_46 => ?_)
        refine ar_iconst (pc := 62) d_Re_readTerm_62 ?_
        refine ar_istore_n (pc := 63) d_Re_readTerm_63 rfl (by decide) ?_
        refine ar_iload_n (pc := 64) d_Re_readTerm_64 rfl ?_
        refine ar_if_ne (pc := 65) 88 d_Re_readTerm_65 (by decide) ⟨by omega, by omega⟩ (fun h_65 => by exfalso; omega) (fun h_65 => ?_)
        refine ar_aload_n (pc := 68) d_Re_readTerm_68 rfl ?_
        refine ar_getIv (pc := 69) gf_Re_43 d_Re_readTerm_69 (by first | rfl | exact sh_wheel (by omega) | exact sh_milk (by omega)) e2 (fun r_69 => ?_)
        refine ar_sipush (pc := 72) d_Re_readTerm_72 (by decide) ?_
        refine ar_icmp_eq (pc := 75) 88 d_Re_readTerm_75 (by decide) ⟨by omega, by omega⟩ ⟨by omega, by omega⟩ (fun h_75 => ?_) (fun h_75 => ?_)
        refine ar_iconst (pc := 88) d_Re_readTerm_88 ?_
        refine ar_goto (pc := 89) 93 d_Re_readTerm_89 (by decide) ?_
        refine ar_istore (pc := 93) d_Re_readTerm_93 rfl (by decide) ?_
        rotate_left
        refine ar_aload_n (pc := 78) d_Re_readTerm_78 rfl ?_
        refine ar_getIv (pc := 79) gf_Re_43 d_Re_readTerm_79 (by first | rfl | exact sh_wheel (by omega) | exact sh_milk (by omega)) e2 (fun r_79 => ?_)
        refine ar_sipush (pc := 82) d_Re_readTerm_82 (by decide) ?_
        refine ar_icmp_ne (pc := 85) 92 d_Re_readTerm_85 (by decide) ⟨by omega, by omega⟩ ⟨by omega, by omega⟩ (fun h_85 => ?_) (fun h_85 => ?_)
        refine ar_iconst (pc := 92) d_Re_readTerm_92 ?_
        refine ar_istore (pc := 93) d_Re_readTerm_93 rfl (by decide) ?_
        rotate_left
        refine ar_iconst (pc := 88) d_Re_readTerm_88 ?_
        refine ar_goto (pc := 89) 93 d_Re_readTerm_89 (by decide) ?_
        refine ar_istore (pc := 93) d_Re_readTerm_93 rfl (by decide) ?_
        rotate_left
        refine ar_aload_n (pc := 49) d_Re_readTerm_49 rfl ?_
        refine ar_getIv (pc := 50) gf_Re_43 d_Re_readTerm_50 (by first | rfl | exact sh_wheel (by omega) | exact sh_milk (by omega)) e2 (fun r_50 => ?_)
        refine ar_bipush (pc := 53) d_Re_readTerm_53 (by decide) ?_
        refine ar_icmp_gt (pc := 55) 62 d_Re_readTerm_55 (by decide) ⟨by omega, by omega⟩ ⟨by omega, by omega⟩ (fun h_55 => ?_) (fun h_55 => ?_)
        refine ar_iconst (pc := 62) d_Re_readTerm_62 ?_
        refine ar_istore_n (pc := 63) d_Re_readTerm_63 rfl (by decide) ?_
        refine ar_iload_n (pc := 64) d_Re_readTerm_64 rfl ?_
        refine ar_if_ne (pc := 65) 88 d_Re_readTerm_65 (by decide) ⟨by omega, by omega⟩ (fun h_65 => by exfalso; omega) (fun h_65 => ?_)
        refine ar_aload_n (pc := 68) d_Re_readTerm_68 rfl ?_
        refine ar_getIv (pc := 69) gf_Re_43 d_Re_readTerm_69 (by first | rfl | exact sh_wheel (by omega) | exact sh_milk (by omega)) e2 (fun r_69 => ?_)
        refine ar_sipush (pc := 72) d_Re_readTerm_72 (by decide) ?_
        refine ar_icmp_eq (pc := 75) 88 d_Re_readTerm_75 (by decide) ⟨by omega, by omega⟩ ⟨by omega, by omega⟩ (fun h_75 => ?_) (fun h_75 => ?_)
        refine ar_iconst (pc := 88) d_Re_readTerm_88 ?_
        refine ar_goto (pc := 89) 93 d_Re_readTerm_89 (by decide) ?_
        refine ar_istore (pc := 93) d_Re_readTerm_93 rfl (by decide) ?_
        rotate_left
        refine ar_aload_n (pc := 78) d_Re_readTerm_78 rfl ?_
        refine ar_getIv (pc := 79) gf_Re_43 d_Re_readTerm_79 (by first | rfl | exact sh_wheel (by omega) | exact sh_milk (by omega)) e2 (fun r_79 => ?_)
        refine ar_sipush (pc := 82) d_Re_readTerm_82 (by decide) ?_
        refine ar_icmp_ne (pc := 85) 92 d_Re_readTerm_85 (by decide) ⟨by omega, by omega⟩ ⟨by omega, by omega⟩ (fun h_85 => ?_) (fun h_85 => ?_)
        refine ar_iconst (pc := 92) d_Re_readTerm_92 ?_
        refine ar_istore (pc := 93) d_Re_readTerm_93 rfl (by decide) ?_
        rotate_left
        refine ar_iconst (pc := 88) d_Re_readTerm_88 ?_
        refine ar_goto (pc := 89) 93 d_Re_readTerm_89 (by decide) ?_
        refine ar_istore (pc := 93) d_Re_readTerm_93 rfl (by decide) ?_
        rotate_left
        refine ar_iconst (pc := 58) d_Re_readTerm_58 ?_
        refine ar_goto (pc := 59) 63 d_Re_readTerm_59 (by decide) ?_
        refine ar_istore_n (pc := 63) d_Re_readTerm_63 rfl (by decide) ?_
        refine ar_iload_n (pc := 64) d_Re_readTerm_64 rfl ?_
        refine ar_if_ne (pc := 65) 88 d_Re_readTerm_65 (by decide) ⟨by omega, by omega⟩ (fun h_65 => ?_) (fun h_65 => by exfalso; omega)
        refine ar_iconst (pc := 88) d_Re_readTerm_88 ?_
        refine ar_goto (pc := 89) 93 d_Re_readTerm_89 (by decide) ?_
        refine ar_istore (pc := 93) d_Re_readTerm_93 rfl (by decide) ?_
        rotate_left
        -- leaves: stop 95, stop 95, stop 95, stop 95, stop 95, stop 95, stop 95
        all_goals first | (exfalso; omega) | skip
        all_goals skip
        · skip
          refine ar_iload (pc := 95) d_Re_readTerm_95 rfl ?_
          refine ar_if_eq (pc := 97) 109 d_Re_readTerm_97 (by decide) ⟨by omega, by omega⟩ (fun h_97 => by exfalso; omega) (fun h_97 => ?_)
          refine ar_aload_n (pc := 100) d_Re_readTerm_100 rfl ?_
          refine ar_getIv (pc := 101) gf_Re_35 d_Re_readTerm_101 (by first | rfl | exact sh_wheel (by omega) | exact sh_milk (by omega)) e5 (fun r_101 => ?_)
          refine ar_bipush (pc := 104) d_Re_readTerm_104 (by decide) ?_
          refine ar_icmp_lt (pc := 106) 115 d_Re_readTerm_106 (by decide) ⟨by omega, by omega⟩ ⟨by omega, by omega⟩ (fun h_106 => by exfalso; omega) (fun h_106 => ?_)
          refine ar_aload_n (pc := 109) d_Re_readTerm_109 rfl ?_
          refine ar_iconst (pc := 110) d_Re_readTerm_110 ?_
          refine ac_virt (pc := 111) (N := mt_Re_refuse) _ _ mv_Re_refuse ml_Re_50 ck_5 d_Re_readTerm_111 c111 (by first | rfl | exact sh_wheel (by omega) | exact sh_milk (by omega)) rfl rfl (Nat.le_of_ble_eq_true rfl) (Nat.le_of_eq (Nat.zero_add _)) (Nat.le_of_eq (Nat.zero_add _)) (fun r_111 G_111 h_111 => ?_)
          obtain ⟨rfl, q111⟩ := h_111
          refine ar_zret (pc := 114) d_Re_readTerm_114 rfl (by omega) ?_
          rotate_left
          -- leaves: ret 114
          · exact Or.inr ⟨rfl, _, _, fin, q111⟩
        · skip
          refine ar_iload (pc := 95) d_Re_readTerm_95 rfl ?_
          refine ar_if_eq (pc := 97) 109 d_Re_readTerm_97 (by decide) ⟨by omega, by omega⟩ (fun h_97 => by exfalso; omega) (fun h_97 => ?_)
          refine ar_aload_n (pc := 100) d_Re_readTerm_100 rfl ?_
          refine ar_getIv (pc := 101) gf_Re_35 d_Re_readTerm_101 (by first | rfl | exact sh_wheel (by omega) | exact sh_milk (by omega)) e5 (fun r_101 => ?_)
          refine ar_bipush (pc := 104) d_Re_readTerm_104 (by decide) ?_
          refine ar_icmp_lt (pc := 106) 115 d_Re_readTerm_106 (by decide) ⟨by omega, by omega⟩ ⟨by omega, by omega⟩ (fun h_106 => by exfalso; omega) (fun h_106 => ?_)
          refine ar_aload_n (pc := 109) d_Re_readTerm_109 rfl ?_
          refine ar_iconst (pc := 110) d_Re_readTerm_110 ?_
          refine ac_virt (pc := 111) (N := mt_Re_refuse) _ _ mv_Re_refuse ml_Re_50 ck_5 d_Re_readTerm_111 c111 (by first | rfl | exact sh_wheel (by omega) | exact sh_milk (by omega)) rfl rfl (Nat.le_of_ble_eq_true rfl) (Nat.le_of_eq (Nat.zero_add _)) (Nat.le_of_eq (Nat.zero_add _)) (fun r_111 G_111 h_111 => ?_)
          obtain ⟨rfl, q111⟩ := h_111
          refine ar_zret (pc := 114) d_Re_readTerm_114 rfl (by omega) ?_
          rotate_left
          -- leaves: ret 114
          · exact Or.inr ⟨rfl, _, _, fin, q111⟩
        · skip
          refine ar_iload (pc := 95) d_Re_readTerm_95 rfl ?_
          refine ar_if_eq (pc := 97) 109 d_Re_readTerm_97 (by decide) ⟨by omega, by omega⟩ (fun h_97 => by exfalso; omega) (fun h_97 => ?_)
          refine ar_aload_n (pc := 100) d_Re_readTerm_100 rfl ?_
          refine ar_getIv (pc := 101) gf_Re_35 d_Re_readTerm_101 (by first | rfl | exact sh_wheel (by omega) | exact sh_milk (by omega)) e5 (fun r_101 => ?_)
          refine ar_bipush (pc := 104) d_Re_readTerm_104 (by decide) ?_
          refine ar_icmp_lt (pc := 106) 115 d_Re_readTerm_106 (by decide) ⟨by omega, by omega⟩ ⟨by omega, by omega⟩ (fun h_106 => by exfalso; omega) (fun h_106 => ?_)
          refine ar_aload_n (pc := 109) d_Re_readTerm_109 rfl ?_
          refine ar_iconst (pc := 110) d_Re_readTerm_110 ?_
          refine ac_virt (pc := 111) (N := mt_Re_refuse) _ _ mv_Re_refuse ml_Re_50 ck_5 d_Re_readTerm_111 c111 (by first | rfl | exact sh_wheel (by omega) | exact sh_milk (by omega)) rfl rfl (Nat.le_of_ble_eq_true rfl) (Nat.le_of_eq (Nat.zero_add _)) (Nat.le_of_eq (Nat.zero_add _)) (fun r_111 G_111 h_111 => ?_)
          obtain ⟨rfl, q111⟩ := h_111
          refine ar_zret (pc := 114) d_Re_readTerm_114 rfl (by omega) ?_
          rotate_left
          -- leaves: ret 114
          · exact Or.inr ⟨rfl, _, _, fin, q111⟩
      · have hvv : v < 80 := by omega
        by_cases k303 : K i = 303
        · have c127 := cm_Re_refuse_b X (d + 1) (k := 3) hT h hi (by omega)
          have fin := t_bad3 (K := K) (P := P) (N := N) (o := o) hd hvv k303
          clear hE h
          refine aw_enter pf_Re_readTerm (Nat.le_of_ble_eq_true rfl) ?_
          refine ar_aload_n (pc := 0) d_Re_readTerm_0 rfl ?_
          refine ar_getIv (pc := 1) gf_Re_43 d_Re_readTerm_1 (by first | rfl | exact sh_wheel (by omega) | exact sh_milk (by omega)) e2 (fun r_1 => ?_)
          refine ar_bipush (pc := 4) d_Re_readTerm_4 (by decide) ?_
          refine ar_icmp_ne (pc := 6) 40 d_Re_readTerm_6 (by decide) ⟨by omega, by omega⟩ ⟨by omega, by omega⟩ (fun h_6 => ?_) (fun h_6 => by exfalso; omega)
          refine ar_aload_n (pc := 40) d_Re_readTerm_40 rfl ?_
          refine ar_getIv (pc := 41) gf_Re_43 d_Re_readTerm_41 (by first | rfl | exact sh_wheel (by omega) | exact sh_milk (by omega)) e2 (fun r_41 => ?_)
          refine ar_bipush (pc := 44) d_Re_readTerm_44 (by decide) ?_
          refine ar_icmp_lt (pc := 46) 62 d_Re_readTerm_46 (by decide) ⟨by omega, by omega⟩ ⟨by omega, by omega⟩ (fun h_46 => by exfalso; omega) (fun h_46 => ?_)
          refine ar_aload_n (pc := 49) d_Re_readTerm_49 rfl ?_
          refine ar_getIv (pc := 50) gf_Re_43 d_Re_readTerm_50 (by first | rfl | exact sh_wheel (by omega) | exact sh_milk (by omega)) e2 (fun r_50 => ?_)
          refine ar_bipush (pc := 53) d_Re_readTerm_53 (by decide) ?_
          refine ar_icmp_gt (pc := 55) 62 d_Re_readTerm_55 (by decide) ⟨by omega, by omega⟩ ⟨by omega, by omega⟩ (fun h_55 => ?_) (fun h_55 => by exfalso; omega)
          refine ar_iconst (pc := 62) d_Re_readTerm_62 ?_
          refine ar_istore_n (pc := 63) d_Re_readTerm_63 rfl (by decide) ?_
          refine ar_iload_n (pc := 64) d_Re_readTerm_64 rfl ?_
          refine ar_if_ne (pc := 65) 88 d_Re_readTerm_65 (by decide) ⟨by omega, by omega⟩ (fun h_65 => by exfalso; omega) (fun h_65 => ?_)
          refine ar_aload_n (pc := 68) d_Re_readTerm_68 rfl ?_
          refine ar_getIv (pc := 69) gf_Re_43 d_Re_readTerm_69 (by first | rfl | exact sh_wheel (by omega) | exact sh_milk (by omega)) e2 (fun r_69 => ?_)
          refine ar_sipush (pc := 72) d_Re_readTerm_72 (by decide) ?_
          refine ar_icmp_eq (pc := 75) 88 d_Re_readTerm_75 (by decide) ⟨by omega, by omega⟩ ⟨by omega, by omega⟩ (fun h_75 => ?_) (fun h_75 => by exfalso; omega)
          refine ar_iconst (pc := 88) d_Re_readTerm_88 ?_
          refine ar_goto (pc := 89) 93 d_Re_readTerm_89 (by decide) ?_
          refine ar_istore (pc := 93) d_Re_readTerm_93 rfl (by decide) ?_
          refine ar_iload (pc := 95) d_Re_readTerm_95 rfl ?_
          refine ar_if_eq (pc := 97) 109 d_Re_readTerm_97 (by decide) ⟨by omega, by omega⟩ (fun h_97 => by exfalso; omega) (fun h_97 => ?_)
          refine ar_aload_n (pc := 100) d_Re_readTerm_100 rfl ?_
          refine ar_getIv (pc := 101) gf_Re_35 d_Re_readTerm_101 (by first | rfl | exact sh_wheel (by omega) | exact sh_milk (by omega)) e5 (fun r_101 => ?_)
          refine ar_bipush (pc := 104) d_Re_readTerm_104 (by decide) ?_
          refine ar_icmp_lt (pc := 106) 115 d_Re_readTerm_106 (by decide) ⟨by omega, by omega⟩ ⟨by omega, by omega⟩ (fun h_106 => ?_) (fun h_106 => by exfalso; omega)
          refine ar_aload_n (pc := 115) d_Re_readTerm_115 rfl ?_
          refine ar_getIv (pc := 116) gf_Re_43 d_Re_readTerm_116 (by first | rfl | exact sh_wheel (by omega) | exact sh_milk (by omega)) e2 (fun r_116 => ?_)
          refine ar_sipush (pc := 119) d_Re_readTerm_119 (by decide) ?_
          refine ar_icmp_ne (pc := 122) 131 d_Re_readTerm_122 (by decide) ⟨by omega, by omega⟩ ⟨by omega, by omega⟩ (fun h_122 => by exfalso; omega) (fun h_122 => ?_)
          refine ar_aload_n (pc := 125) d_Re_readTerm_125 rfl ?_
          refine ar_iconst (pc := 126) d_Re_readTerm_126 ?_
          refine ac_virt (pc := 127) (N := mt_Re_refuse) _ _ mv_Re_refuse ml_Re_50 ck_5 d_Re_readTerm_127 c127 (by first | rfl | exact sh_wheel (by omega) | exact sh_milk (by omega)) rfl rfl (Nat.le_of_ble_eq_true rfl) (Nat.le_of_eq (Nat.zero_add _)) (Nat.le_of_eq (Nat.zero_add _)) (fun r_127 G_127 h_127 => ?_)
          obtain ⟨rfl, q127⟩ := h_127
          refine ar_zret (pc := 130) d_Re_readTerm_130 rfl (by omega) ?_
          rotate_left
          -- leaves: ret 130
          · exact Or.inr ⟨rfl, _, _, fin, q127⟩
        · have hin := tt_n hT hi (by omega)
          have hval := t_val (K := K) (P := P) (N := N) (o := o) hd hvv (show K i = 302 ∨ (8 ≤ K i ∧ K i ≤ 17) by omega)
          by_cases k302 : K i = 302
          · have c159 := cm_Re_add_b X (d + 1) (z := N i) hF (pr_v_b h) ⟨by omega, by omega⟩ (by omega)
            have c163 := fun G2 q => cm_Re_step_b X (d + 1) (G1 := G2) (i := i) (v := v + 1) (o := o ++ [N i]) hT hF q hin
            rw [if_pos k302] at hval
            clear hE h
            refine aw_enter pf_Re_readTerm (Nat.le_of_ble_eq_true rfl) ?_
            refine ar_aload_n (pc := 0) d_Re_readTerm_0 rfl ?_
            refine ar_getIv (pc := 1) gf_Re_43 d_Re_readTerm_1 (by first | rfl | exact sh_wheel (by omega) | exact sh_milk (by omega)) e2 (fun r_1 => ?_)
            refine ar_bipush (pc := 4) d_Re_readTerm_4 (by decide) ?_
            refine ar_icmp_ne (pc := 6) 40 d_Re_readTerm_6 (by decide) ⟨by omega, by omega⟩ ⟨by omega, by omega⟩ (fun h_6 => ?_) (fun h_6 => by exfalso; omega)
            refine ar_aload_n (pc := 40) d_Re_readTerm_40 rfl ?_
            refine ar_getIv (pc := 41) gf_Re_43 d_Re_readTerm_41 (by first | rfl | exact sh_wheel (by omega) | exact sh_milk (by omega)) e2 (fun r_41 => ?_)
            refine ar_bipush (pc := 44) d_Re_readTerm_44 (by decide) ?_
            refine ar_icmp_lt (pc := 46) 62 d_Re_readTerm_46 (by decide) ⟨by omega, by omega⟩ ⟨by omega, by omega⟩ (fun h_46 => by exfalso; omega) (fun h_46 => ?_)
            refine ar_aload_n (pc := 49) d_Re_readTerm_49 rfl ?_
            refine ar_getIv (pc := 50) gf_Re_43 d_Re_readTerm_50 (by first | rfl | exact sh_wheel (by omega) | exact sh_milk (by omega)) e2 (fun r_50 => ?_)
            refine ar_bipush (pc := 53) d_Re_readTerm_53 (by decide) ?_
            refine ar_icmp_gt (pc := 55) 62 d_Re_readTerm_55 (by decide) ⟨by omega, by omega⟩ ⟨by omega, by omega⟩ (fun h_55 => ?_) (fun h_55 => by exfalso; omega)
            refine ar_iconst (pc := 62) d_Re_readTerm_62 ?_
            refine ar_istore_n (pc := 63) d_Re_readTerm_63 rfl (by decide) ?_
            refine ar_iload_n (pc := 64) d_Re_readTerm_64 rfl ?_
            refine ar_if_ne (pc := 65) 88 d_Re_readTerm_65 (by decide) ⟨by omega, by omega⟩ (fun h_65 => by exfalso; omega) (fun h_65 => ?_)
            refine ar_aload_n (pc := 68) d_Re_readTerm_68 rfl ?_
            refine ar_getIv (pc := 69) gf_Re_43 d_Re_readTerm_69 (by first | rfl | exact sh_wheel (by omega) | exact sh_milk (by omega)) e2 (fun r_69 => ?_)
            refine ar_sipush (pc := 72) d_Re_readTerm_72 (by decide) ?_
            refine ar_icmp_eq (pc := 75) 88 d_Re_readTerm_75 (by decide) ⟨by omega, by omega⟩ ⟨by omega, by omega⟩ (fun h_75 => by exfalso; omega) (fun h_75 => ?_)
            refine ar_aload_n (pc := 78) d_Re_readTerm_78 rfl ?_
            refine ar_getIv (pc := 79) gf_Re_43 d_Re_readTerm_79 (by first | rfl | exact sh_wheel (by omega) | exact sh_milk (by omega)) e2 (fun r_79 => ?_)
            refine ar_sipush (pc := 82) d_Re_readTerm_82 (by decide) ?_
            refine ar_icmp_ne (pc := 85) 92 d_Re_readTerm_85 (by decide) ⟨by omega, by omega⟩ ⟨by omega, by omega⟩ (fun h_85 => by exfalso; omega) (fun h_85 => ?_)
            refine ar_iconst (pc := 88) d_Re_readTerm_88 ?_
            refine ar_goto (pc := 89) 93 d_Re_readTerm_89 (by decide) ?_
            refine ar_istore (pc := 93) d_Re_readTerm_93 rfl (by decide) ?_
            refine ar_iload (pc := 95) d_Re_readTerm_95 rfl ?_
            refine ar_if_eq (pc := 97) 109 d_Re_readTerm_97 (by decide) ⟨by omega, by omega⟩ (fun h_97 => by exfalso; omega) (fun h_97 => ?_)
            refine ar_aload_n (pc := 100) d_Re_readTerm_100 rfl ?_
            refine ar_getIv (pc := 101) gf_Re_35 d_Re_readTerm_101 (by first | rfl | exact sh_wheel (by omega) | exact sh_milk (by omega)) e5 (fun r_101 => ?_)
            refine ar_bipush (pc := 104) d_Re_readTerm_104 (by decide) ?_
            refine ar_icmp_lt (pc := 106) 115 d_Re_readTerm_106 (by decide) ⟨by omega, by omega⟩ ⟨by omega, by omega⟩ (fun h_106 => ?_) (fun h_106 => by exfalso; omega)
            refine ar_aload_n (pc := 115) d_Re_readTerm_115 rfl ?_
            refine ar_getIv (pc := 116) gf_Re_43 d_Re_readTerm_116 (by first | rfl | exact sh_wheel (by omega) | exact sh_milk (by omega)) e2 (fun r_116 => ?_)
            refine ar_sipush (pc := 119) d_Re_readTerm_119 (by decide) ?_
            refine ar_icmp_ne (pc := 122) 131 d_Re_readTerm_122 (by decide) ⟨by omega, by omega⟩ ⟨by omega, by omega⟩ (fun h_122 => ?_) (fun h_122 => by exfalso; omega)
            refine ar_aload_n (pc := 131) d_Re_readTerm_131 rfl ?_
            refine ar_dup (pc := 132) d_Re_readTerm_132 rfl ?_
            refine ar_getIv (pc := 133) gf_Re_35 d_Re_readTerm_133 (by first | rfl | exact sh_wheel (by omega) | exact sh_milk (by omega)) e5 (fun r_133 => ?_)
            refine ar_iconst (pc := 136) d_Re_readTerm_136 ?_
            refine ar_iadd (pc := 137) d_Re_readTerm_137 ?_
            refine ar_putI (pc := 138) gf_Re_35 d_Re_readTerm_138 rfl (by first | rfl | exact sh_wheel (by omega) | exact sh_milk (by omega)) ⟨by omega, by omega⟩ ?_
            refine ar_aload_n (pc := 141) d_Re_readTerm_141 rfl ?_
            refine ar_iload_n (pc := 142) d_Re_readTerm_142 rfl ?_
            refine ar_if_eq (pc := 143) 155 d_Re_readTerm_143 (by decide) ⟨by omega, by omega⟩ (fun h_143 => ?_) (fun h_143 => by exfalso; omega)
            refine ar_aload_n (pc := 155) d_Re_readTerm_155 rfl ?_
            refine ar_getIv (pc := 156) gf_Re_70 d_Re_readTerm_156 (by first | rfl | exact sh_wheel (by omega) | exact sh_milk (by omega)) (show _ = N i from e4) (fun r_156 => ?_)
            refine ac_virt (pc := 159) (N := mt_Or_addItem) _ _ mv_Or_addItem ml_Re_91 ck_3 d_Re_readTerm_159 c159 (by first | rfl | exact sh_wheel (by omega) | exact sh_milk (by omega)) rfl rfl (Nat.le_of_ble_eq_true rfl) (Nat.le_of_eq (Nat.zero_add _)) (Nat.le_of_eq (Nat.zero_add _)) (fun r_159 G_159 h_159 => ?_)
            obtain ⟨rfl, q159⟩ := h_159
            refine ar_aload_n (pc := 162) d_Re_readTerm_162 rfl ?_
            refine ac_virt (pc := 163) (N := mt_Re_step) _ _ mv_Re_step ml_Re_32 ck_5 d_Re_readTerm_163 (c163 _ q159) (by first | rfl | exact sh_wheel (by omega) | exact sh_milk (by omega)) rfl rfl (Nat.le_of_ble_eq_true rfl) (Nat.le_of_eq (Nat.zero_add _)) (Nat.le_of_eq (Nat.zero_add _)) (fun r_163 G_163 h_163 => ?_)
            obtain ⟨rfl, q163⟩ := h_163
            refine ar_iconst (pc := 166) d_Re_readTerm_166 ?_
            refine ar_zret (pc := 167) d_Re_readTerm_167 rfl (by omega) ?_
            rotate_left
            -- leaves: ret 167
            · exact Or.inl ⟨rfl, i + 1, v + 1, o ++ [N i], ⟨⟨by omega, by omega, by omega, by rw [List.length_append]; simp; omega⟩, hval⟩, q163⟩
          · have c159 := cm_Re_add_b X (d + 1) (z := -1 - K i) hF (pr_v_b h) ⟨by omega, by omega⟩ (by omega)
            have c163 := fun G2 q => cm_Re_step_b X (d + 1) (G1 := G2) (i := i) (v := v + 1) (o := o ++ [-1 - K i]) hT hF q hin
            rw [if_neg k302] at hval
            clear hE h
            refine aw_enter pf_Re_readTerm (Nat.le_of_ble_eq_true rfl) ?_
            refine ar_aload_n (pc := 0) d_Re_readTerm_0 rfl ?_
            refine ar_getIv (pc := 1) gf_Re_43 d_Re_readTerm_1 (by first | rfl | exact sh_wheel (by omega) | exact sh_milk (by omega)) e2 (fun r_1 => ?_)
            refine ar_bipush (pc := 4) d_Re_readTerm_4 (by decide) ?_
            refine ar_icmp_ne (pc := 6) 40 d_Re_readTerm_6 (by decide) ⟨by omega, by omega⟩ ⟨by omega, by omega⟩ (fun h_6 => ?_) (fun h_6 => by exfalso; omega)
            refine ar_aload_n (pc := 40) d_Re_readTerm_40 rfl ?_
            refine ar_getIv (pc := 41) gf_Re_43 d_Re_readTerm_41 (by first | rfl | exact sh_wheel (by omega) | exact sh_milk (by omega)) e2 (fun r_41 => ?_)
            refine ar_bipush (pc := 44) d_Re_readTerm_44 (by decide) ?_
            refine ar_icmp_lt (pc := 46) 62 d_Re_readTerm_46 (by decide) ⟨by omega, by omega⟩ ⟨by omega, by omega⟩ (fun h_46 => by exfalso; omega) (fun h_46 => ?_)
            refine ar_aload_n (pc := 49) d_Re_readTerm_49 rfl ?_
            refine ar_getIv (pc := 50) gf_Re_43 d_Re_readTerm_50 (by first | rfl | exact sh_wheel (by omega) | exact sh_milk (by omega)) e2 (fun r_50 => ?_)
            refine ar_bipush (pc := 53) d_Re_readTerm_53 (by decide) ?_
            refine ar_icmp_gt (pc := 55) 62 d_Re_readTerm_55 (by decide) ⟨by omega, by omega⟩ ⟨by omega, by omega⟩ (fun h_55 => by exfalso; omega) (fun h_55 => ?_)
            refine ar_iconst (pc := 58) d_Re_readTerm_58 ?_
            refine ar_goto (pc := 59) 63 d_Re_readTerm_59 (by decide) ?_
            refine ar_istore_n (pc := 63) d_Re_readTerm_63 rfl (by decide) ?_
            refine ar_iload_n (pc := 64) d_Re_readTerm_64 rfl ?_
            refine ar_if_ne (pc := 65) 88 d_Re_readTerm_65 (by decide) ⟨by omega, by omega⟩ (fun h_65 => ?_) (fun h_65 => by exfalso; omega)
            refine ar_iconst (pc := 88) d_Re_readTerm_88 ?_
            refine ar_goto (pc := 89) 93 d_Re_readTerm_89 (by decide) ?_
            refine ar_istore (pc := 93) d_Re_readTerm_93 rfl (by decide) ?_
            refine ar_iload (pc := 95) d_Re_readTerm_95 rfl ?_
            refine ar_if_eq (pc := 97) 109 d_Re_readTerm_97 (by decide) ⟨by omega, by omega⟩ (fun h_97 => by exfalso; omega) (fun h_97 => ?_)
            refine ar_aload_n (pc := 100) d_Re_readTerm_100 rfl ?_
            refine ar_getIv (pc := 101) gf_Re_35 d_Re_readTerm_101 (by first | rfl | exact sh_wheel (by omega) | exact sh_milk (by omega)) e5 (fun r_101 => ?_)
            refine ar_bipush (pc := 104) d_Re_readTerm_104 (by decide) ?_
            refine ar_icmp_lt (pc := 106) 115 d_Re_readTerm_106 (by decide) ⟨by omega, by omega⟩ ⟨by omega, by omega⟩ (fun h_106 => ?_) (fun h_106 => by exfalso; omega)
            refine ar_aload_n (pc := 115) d_Re_readTerm_115 rfl ?_
            refine ar_getIv (pc := 116) gf_Re_43 d_Re_readTerm_116 (by first | rfl | exact sh_wheel (by omega) | exact sh_milk (by omega)) e2 (fun r_116 => ?_)
            refine ar_sipush (pc := 119) d_Re_readTerm_119 (by decide) ?_
            refine ar_icmp_ne (pc := 122) 131 d_Re_readTerm_122 (by decide) ⟨by omega, by omega⟩ ⟨by omega, by omega⟩ (fun h_122 => ?_) (fun h_122 => by exfalso; omega)
            refine ar_aload_n (pc := 131) d_Re_readTerm_131 rfl ?_
            refine ar_dup (pc := 132) d_Re_readTerm_132 rfl ?_
            refine ar_getIv (pc := 133) gf_Re_35 d_Re_readTerm_133 (by first | rfl | exact sh_wheel (by omega) | exact sh_milk (by omega)) e5 (fun r_133 => ?_)
            refine ar_iconst (pc := 136) d_Re_readTerm_136 ?_
            refine ar_iadd (pc := 137) d_Re_readTerm_137 ?_
            refine ar_putI (pc := 138) gf_Re_35 d_Re_readTerm_138 rfl (by first | rfl | exact sh_wheel (by omega) | exact sh_milk (by omega)) ⟨by omega, by omega⟩ ?_
            refine ar_aload_n (pc := 141) d_Re_readTerm_141 rfl ?_
            refine ar_iload_n (pc := 142) d_Re_readTerm_142 rfl ?_
            refine ar_if_eq (pc := 143) 155 d_Re_readTerm_143 (by decide) ⟨by omega, by omega⟩ (fun h_143 => by exfalso; omega) (fun h_143 => ?_)
            refine ar_aload_n (pc := 146) d_Re_readTerm_146 rfl ?_
            refine ar_getIv (pc := 147) gf_Re_43 d_Re_readTerm_147 (by first | rfl | exact sh_wheel (by omega) | exact sh_milk (by omega)) (show _ = K i from e2) (fun r_147 => ?_)
            refine ar_iconst (pc := 150) d_Re_readTerm_150 ?_
            refine ar_ixor (pc := 151) d_Re_readTerm_151 ?_
            refine ar_goto (pc := 152) 159 d_Re_readTerm_152 (by decide) ?_
            refine ar_mod (ixor_m1 ⟨by omega, by omega⟩) ?_
            refine ac_virt (pc := 159) (N := mt_Or_addItem) _ _ mv_Or_addItem ml_Re_91 ck_3 d_Re_readTerm_159 c159 (by first | rfl | exact sh_wheel (by omega) | exact sh_milk (by omega)) rfl rfl (Nat.le_of_ble_eq_true rfl) (Nat.le_of_eq (Nat.zero_add _)) (Nat.le_of_eq (Nat.zero_add _)) (fun r_159 G_159 h_159 => ?_)
            obtain ⟨rfl, q159⟩ := h_159
            refine ar_aload_n (pc := 162) d_Re_readTerm_162 rfl ?_
            refine ac_virt (pc := 163) (N := mt_Re_step) _ _ mv_Re_step ml_Re_32 ck_5 d_Re_readTerm_163 (c163 _ q159) (by first | rfl | exact sh_wheel (by omega) | exact sh_milk (by omega)) rfl rfl (Nat.le_of_ble_eq_true rfl) (Nat.le_of_eq (Nat.zero_add _)) (Nat.le_of_eq (Nat.zero_add _)) (fun r_163 G_163 h_163 => ?_)
            obtain ⟨rfl, q163⟩ := h_163
            refine ar_iconst (pc := 166) d_Re_readTerm_166 ?_
            refine ar_zret (pc := 167) d_Re_readTerm_167 rfl (by omega) ?_
            rotate_left
            -- leaves: ret 167
            · exact Or.inl ⟨rfl, i + 1, v + 1, o ++ [-1 - K i], ⟨⟨by omega, by omega, by omega, by rw [List.length_append]; simp; omega⟩, hval⟩, q163⟩
    · have c111 := cm_Re_refuse_b X (d + 1) (k := 2) hT h hi (by omega)
      have fin := t_bad2 (K := K) (P := P) (N := N) (v := v) (o := o) hd (Or.inr ⟨hop, k40⟩)
      clear hE h
      refine aw_enter pf_Re_readTerm (Nat.le_of_ble_eq_true rfl) ?_
      refine ar_aload_n (pc := 0) d_Re_readTerm_0 rfl ?_
      refine ar_getIv (pc := 1) gf_Re_43 d_Re_readTerm_1 (by first | rfl | exact sh_wheel (by omega) | exact sh_milk (by omega)) e2 (fun r_1 => ?_)
      refine ar_bipush (pc := 4) d_Re_readTerm_4 (by decide) ?_
      refine ar_icmp_ne (pc := 6) 40 d_Re_readTerm_6 (by decide) ⟨by omega, by omega⟩ ⟨by omega, by omega⟩ (fun h_6 => ?_) (fun h_6 => by exfalso; omega)
      refine ar_aload_n (pc := 40) d_Re_readTerm_40 rfl ?_
      refine ar_getIv (pc := 41) gf_Re_43 d_Re_readTerm_41 (by first | rfl | exact sh_wheel (by omega) | exact sh_milk (by omega)) e2 (fun r_41 => ?_)
      refine ar_bipush (pc := 44) d_Re_readTerm_44 (by decide) ?_
      refine ar_icmp_lt (pc := 46) 62 d_Re_readTerm_46 (by decide) ⟨by omega, by omega⟩ ⟨by omega, by omega⟩ (fun h_46 => ?_) (fun h_46 => ?_)
      refine ar_iconst (pc := 62) d_Re_readTerm_62 ?_
      refine ar_istore_n (pc := 63) d_Re_readTerm_63 rfl (by decide) ?_
      refine ar_iload_n (pc := 64) d_Re_readTerm_64 rfl ?_
      refine ar_if_ne (pc := 65) 88 d_Re_readTerm_65 (by decide) ⟨by omega, by omega⟩ (fun h_65 => by exfalso; omega) (fun h_65 => ?_)
      refine ar_aload_n (pc := 68) d_Re_readTerm_68 rfl ?_
      refine ar_getIv (pc := 69) gf_Re_43 d_Re_readTerm_69 (by first | rfl | exact sh_wheel (by omega) | exact sh_milk (by omega)) e2 (fun r_69 => ?_)
      refine ar_sipush (pc := 72) d_Re_readTerm_72 (by decide) ?_
      refine ar_icmp_eq (pc := 75) 88 d_Re_readTerm_75 (by decide) ⟨by omega, by omega⟩ ⟨by omega, by omega⟩ (fun h_75 => by exfalso; omega) (fun h_75 => ?_)
      refine ar_aload_n (pc := 78) d_Re_readTerm_78 rfl ?_
      refine ar_getIv (pc := 79) gf_Re_43 d_Re_readTerm_79 (by first | rfl | exact sh_wheel (by omega) | exact sh_milk (by omega)) e2 (fun r_79 => ?_)
      refine ar_sipush (pc := 82) d_Re_readTerm_82 (by decide) ?_
      refine ar_icmp_ne (pc := 85) 92 d_Re_readTerm_85 (by decide) ⟨by omega, by omega⟩ ⟨by omega, by omega⟩ (fun h_85 => ?_) (fun h_85 => by exfalso; omega)
      refine ar_iconst (pc := 92) d_Re_readTerm_92 ?_
      refine ar_istore (pc := 93) d_Re_readTerm_93 rfl (by decide) ?_
      refine ar_iload (pc := 95) d_Re_readTerm_95 rfl ?_
      refine ar_if_eq (pc := 97) 109 d_Re_readTerm_97 (by decide) ⟨by omega, by omega⟩ (fun h_97 => ?_) (fun h_97 => by exfalso; omega)
      refine ar_aload_n (pc := 109) d_Re_readTerm_109 rfl ?_
      refine ar_iconst (pc := 110) d_Re_readTerm_110 ?_
      refine ac_virt (pc := 111) (N := mt_Re_refuse) _ _ mv_Re_refuse ml_Re_50 ck_5 d_Re_readTerm_111 c111 (by first | rfl | exact sh_wheel (by omega) | exact sh_milk (by omega)) rfl rfl (Nat.le_of_ble_eq_true rfl) (Nat.le_of_eq (Nat.zero_add _)) (Nat.le_of_eq (Nat.zero_add _)) (fun r_111 G_111 h_111 => ?_)
      obtain ⟨rfl, q111⟩ := h_111
      refine ar_zret (pc := 114) d_Re_readTerm_114 rfl (by omega) ?_
      rotate_left
      refine ar_aload_n (pc := 49) d_Re_readTerm_49 rfl ?_
      refine ar_getIv (pc := 50) gf_Re_43 d_Re_readTerm_50 (by first | rfl | exact sh_wheel (by omega) | exact sh_milk (by omega)) e2 (fun r_50 => ?_)
      refine ar_bipush (pc := 53) d_Re_readTerm_53 (by decide) ?_
      refine ar_icmp_gt (pc := 55) 62 d_Re_readTerm_55 (by decide) ⟨by omega, by omega⟩ ⟨by omega, by omega⟩ (fun h_55 => ?_) (fun h_55 => by exfalso; omega)
      refine ar_iconst (pc := 62) d_Re_readTerm_62 ?_
      refine ar_istore_n (pc := 63) d_Re_readTerm_63 rfl (by decide) ?_
      refine ar_iload_n (pc := 64) d_Re_readTerm_64 rfl ?_
      refine ar_if_ne (pc := 65) 88 d_Re_readTerm_65 (by decide) ⟨by omega, by omega⟩ (fun h_65 => by exfalso; omega) (fun h_65 => ?_)
      refine ar_aload_n (pc := 68) d_Re_readTerm_68 rfl ?_
      refine ar_getIv (pc := 69) gf_Re_43 d_Re_readTerm_69 (by first | rfl | exact sh_wheel (by omega) | exact sh_milk (by omega)) e2 (fun r_69 => ?_)
      refine ar_sipush (pc := 72) d_Re_readTerm_72 (by decide) ?_
      refine ar_icmp_eq (pc := 75) 88 d_Re_readTerm_75 (by decide) ⟨by omega, by omega⟩ ⟨by omega, by omega⟩ (fun h_75 => by exfalso; omega) (fun h_75 => ?_)
      refine ar_aload_n (pc := 78) d_Re_readTerm_78 rfl ?_
      refine ar_getIv (pc := 79) gf_Re_43 d_Re_readTerm_79 (by first | rfl | exact sh_wheel (by omega) | exact sh_milk (by omega)) e2 (fun r_79 => ?_)
      refine ar_sipush (pc := 82) d_Re_readTerm_82 (by decide) ?_
      refine ar_icmp_ne (pc := 85) 92 d_Re_readTerm_85 (by decide) ⟨by omega, by omega⟩ ⟨by omega, by omega⟩ (fun h_85 => ?_) (fun h_85 => by exfalso; omega)
      refine ar_iconst (pc := 92) d_Re_readTerm_92 ?_
      refine ar_istore (pc := 93) d_Re_readTerm_93 rfl (by decide) ?_
      refine ar_iload (pc := 95) d_Re_readTerm_95 rfl ?_
      refine ar_if_eq (pc := 97) 109 d_Re_readTerm_97 (by decide) ⟨by omega, by omega⟩ (fun h_97 => ?_) (fun h_97 => by exfalso; omega)
      refine ar_aload_n (pc := 109) d_Re_readTerm_109 rfl ?_
      refine ar_iconst (pc := 110) d_Re_readTerm_110 ?_
      refine ac_virt (pc := 111) (N := mt_Re_refuse) _ _ mv_Re_refuse ml_Re_50 ck_5 d_Re_readTerm_111 c111 (by first | rfl | exact sh_wheel (by omega) | exact sh_milk (by omega)) rfl rfl (Nat.le_of_ble_eq_true rfl) (Nat.le_of_eq (Nat.zero_add _)) (Nat.le_of_eq (Nat.zero_add _)) (fun r_111 G_111 h_111 => ?_)
      obtain ⟨rfl, q111⟩ := h_111
      refine ar_zret (pc := 114) d_Re_readTerm_114 rfl (by omega) ?_
      rotate_left
      -- leaves: ret 114, ret 114
      · exact Or.inr ⟨rfl, _, _, fin, q111⟩
      · exact Or.inr ⟨rfl, _, _, fin, q111⟩
theorem rt_C_b (X : gx_T) (d : Nat) {K P N : Nat → Int} {G : mm_T} {n dep : Nat} (hT : tt_T K P N n G) (hF : fx_R G) (hS : ct_S_b X (d + 2) K P N n G dep) {i v : Nat} {o : List Int} {G1 : mm_T} (hi : i ≤ n) (hv : v ≤ 80) (ho : o.length ≤ i) (h : pr_F_b K P N G G1 i v o) : aw_M X (d + 3) mt_Re_readComparison [av_r (some 35), av_i (dep : Int), av_r (some 48)] G1 0 0 (fun r G' => (¬ cmp_t (K i) ∧ r = some (av_i 1) ∧ pr_F_b K P N G G' i v o) ∨ (cmp_t (K i) ∧ r = some (av_i 1) ∧ ∃ i2 v2 o2, dn_B n (i + 1) v o i2 v2 o2 ∧ s_sum K P N dep (i + 1) v o i2 v2 o2 ∧ pr_F_b K P N G G' i2 v2 (o2 ++ [-1 - K i])) ∨ (cmp_t (K i) ∧ r = some (av_i 0) ∧ ∃ k p, b_sum K P N dep (i + 1) v o k p ∧ pb_F_b G G' k p)) := by
  obtain ⟨r1, r2, r3⟩ := hT.2.2.2.1 i hi
  obtain ⟨e1, e2, e3, e4, e5⟩ := h.2.2.1
  have n5 := hT.2.1
  by_cases hc : cmp_t (K i)
  · have hc' := hc
    unfold cmp_t at hc'
    have hin := tt_n hT hi (by omega)
    have c26 := cm_Re_step_b X (d + 1) hT hF h hin
    have hS1 := fun G2 q => hS (i + 1) v o G2 (by omega) hv (by omega) q
    clear hS h
    refine aw_enter pf_Re_readComparison (Nat.le_of_ble_eq_true rfl) ?_
    refine ar_aload_n (pc := 0) d_Re_readComparison_0 rfl ?_
    refine ar_getIv (pc := 1) gf_Re_43 d_Re_readComparison_1 (by first | rfl | exact sh_wheel (by omega) | exact sh_milk (by omega)) e2 (fun r_1 => ?_)
    refine ar_istore_n (pc := 4) d_Re_readComparison_4 rfl (by decide) ?_
    refine ar_iload_n (pc := 5) d_Re_readComparison_5 rfl ?_
    refine ar_bipush (pc := 6) d_Re_readComparison_6 (by decide) ?_
    refine ar_icmp_eq (pc := 8) 25 d_Re_readComparison_8 (by decide) ⟨by omega, by omega⟩ ⟨by omega, by omega⟩ (fun h_8 => ?_) (fun h_8 => ?_)
    rotate_left
    refine ar_iload_n (pc := 11) d_Re_readComparison_11 rfl ?_
    refine ar_bipush (pc := 12) d_Re_readComparison_12 (by decide) ?_
    refine ar_icmp_eq (pc := 14) 25 d_Re_readComparison_14 (by decide) ⟨by omega, by omega⟩ ⟨by omega, by omega⟩ (fun h_14 => ?_) (fun h_14 => ?_)
    rotate_left
    refine ar_iload_n (pc := 17) d_Re_readComparison_17 rfl ?_
    refine ar_bipush (pc := 18) d_Re_readComparison_18 (by decide) ?_
    refine ar_icmp_eq (pc := 20) 25 d_Re_readComparison_20 (by decide) ⟨by omega, by omega⟩ ⟨by omega, by omega⟩ (fun h_20 => ?_) (fun h_20 => ?_)
    rotate_left
    refine ar_iconst (pc := 23) d_Re_readComparison_23 ?_
    refine ar_zret (pc := 24) d_Re_readComparison_24 rfl (by omega) ?_
    rotate_left
    -- leaves: stop 25, stop 25, stop 25, ret 24
    all_goals first | (exfalso; omega) | skip
    all_goals skip
    · skip
      refine ar_aload_n (pc := 25) d_Re_readComparison_25 rfl ?_
      refine ac_virt (pc := 26) (N := mt_Re_step) _ _ mv_Re_step ml_Re_32 ck_5 d_Re_readComparison_26 c26 (by first | rfl | exact sh_wheel (by omega) | exact sh_milk (by omega)) rfl rfl (Nat.le_of_ble_eq_true rfl) (Nat.le_of_eq (Nat.zero_add _)) (Nat.le_of_eq (Nat.zero_add _)) (fun r_26 G_26 h_26 => ?_)
      obtain ⟨rfl, q26⟩ := h_26
      refine ar_aload_n (pc := 29) d_Re_readComparison_29 rfl ?_
      refine ar_iconst (pc := 30) d_Re_readComparison_30 ?_
      refine ar_iload_n (pc := 31) d_Re_readComparison_31 rfl ?_
      refine ar_aload_n (pc := 32) d_Re_readComparison_32 rfl ?_
      refine ac_virt (pc := 33) (N := mt_Re_readJoined) _ _ mv_Re_readJoined ml_Re_76 ck_5 d_Re_readComparison_33 (hS1 G_26 q26) (by first | rfl | exact sh_wheel (by omega) | exact sh_milk (by omega)) rfl rfl (Nat.le_of_ble_eq_true rfl) (Nat.le_of_eq (Nat.zero_add _)) (Nat.le_of_eq (Nat.zero_add _)) (fun r_33 G_33 h_33 => ?_)
      obtain ⟨rfl, i1, v1, o1, ⟨hd1, hs1⟩, hp1⟩ | ⟨rfl, k1, p1, hb1, hq1⟩ := h_33
      rotate_left
      rotate_left
      -- leaves: stop 36, stop 36
      · obtain ⟨a1, a2, a3, a4⟩ := hd1
        have c45 := cm_Re_add_b X (d + 1) (z := -1 - K i) hF hp1 ⟨by omega, by omega⟩ (by omega)
        refine ar_if_ne (pc := 36) 41 d_Re_readComparison_36 (by decide) ⟨by omega, by omega⟩ (fun h_36 => ?_) (fun h_36 => by exfalso; omega)
        refine ar_aload_n (pc := 41) d_Re_readComparison_41 rfl ?_
        refine ar_iload_n (pc := 42) d_Re_readComparison_42 rfl ?_
        refine ar_iconst (pc := 43) d_Re_readComparison_43 ?_
        refine ar_ixor (pc := 44) d_Re_readComparison_44 ?_
        refine ar_mod (ixor_m1 ⟨by omega, by omega⟩) ?_
        refine ac_virt (pc := 45) (N := mt_Or_addItem) _ _ mv_Or_addItem ml_Re_91 ck_3 d_Re_readComparison_45 c45 (by first | rfl | exact sh_wheel (by omega) | exact sh_milk (by omega)) rfl rfl (Nat.le_of_ble_eq_true rfl) (Nat.le_of_eq (Nat.zero_add _)) (Nat.le_of_eq (Nat.zero_add _)) (fun r_45 G_45 h_45 => ?_)
        obtain ⟨rfl, q45⟩ := h_45
        refine ar_iconst (pc := 48) d_Re_readComparison_48 ?_
        refine ar_zret (pc := 49) d_Re_readComparison_49 rfl (by omega) ?_
        rotate_left
        -- leaves: ret 49
        · exact Or.inr (Or.inl ⟨hc, rfl, i1, v1, o1, ⟨a1, a2, a3, a4⟩, hs1, q45⟩)
      · skip
        refine ar_if_ne (pc := 36) 41 d_Re_readComparison_36 (by decide) ⟨by omega, by omega⟩ (fun h_36 => by exfalso; omega) (fun h_36 => ?_)
        refine ar_iconst (pc := 39) d_Re_readComparison_39 ?_
        refine ar_zret (pc := 40) d_Re_readComparison_40 rfl (by omega) ?_
        rotate_left
        -- leaves: ret 40
        · exact Or.inr (Or.inr ⟨hc, rfl, k1, p1, hb1, hq1⟩)
    · skip
      refine ar_aload_n (pc := 25) d_Re_readComparison_25 rfl ?_
      refine ac_virt (pc := 26) (N := mt_Re_step) _ _ mv_Re_step ml_Re_32 ck_5 d_Re_readComparison_26 c26 (by first | rfl | exact sh_wheel (by omega) | exact sh_milk (by omega)) rfl rfl (Nat.le_of_ble_eq_true rfl) (Nat.le_of_eq (Nat.zero_add _)) (Nat.le_of_eq (Nat.zero_add _)) (fun r_26 G_26 h_26 => ?_)
      obtain ⟨rfl, q26⟩ := h_26
      refine ar_aload_n (pc := 29) d_Re_readComparison_29 rfl ?_
      refine ar_iconst (pc := 30) d_Re_readComparison_30 ?_
      refine ar_iload_n (pc := 31) d_Re_readComparison_31 rfl ?_
      refine ar_aload_n (pc := 32) d_Re_readComparison_32 rfl ?_
      refine ac_virt (pc := 33) (N := mt_Re_readJoined) _ _ mv_Re_readJoined ml_Re_76 ck_5 d_Re_readComparison_33 (hS1 G_26 q26) (by first | rfl | exact sh_wheel (by omega) | exact sh_milk (by omega)) rfl rfl (Nat.le_of_ble_eq_true rfl) (Nat.le_of_eq (Nat.zero_add _)) (Nat.le_of_eq (Nat.zero_add _)) (fun r_33 G_33 h_33 => ?_)
      obtain ⟨rfl, i1, v1, o1, ⟨hd1, hs1⟩, hp1⟩ | ⟨rfl, k1, p1, hb1, hq1⟩ := h_33
      rotate_left
      rotate_left
      -- leaves: stop 36, stop 36
      · obtain ⟨a1, a2, a3, a4⟩ := hd1
        have c45 := cm_Re_add_b X (d + 1) (z := -1 - K i) hF hp1 ⟨by omega, by omega⟩ (by omega)
        refine ar_if_ne (pc := 36) 41 d_Re_readComparison_36 (by decide) ⟨by omega, by omega⟩ (fun h_36 => ?_) (fun h_36 => by exfalso; omega)
        refine ar_aload_n (pc := 41) d_Re_readComparison_41 rfl ?_
        refine ar_iload_n (pc := 42) d_Re_readComparison_42 rfl ?_
        refine ar_iconst (pc := 43) d_Re_readComparison_43 ?_
        refine ar_ixor (pc := 44) d_Re_readComparison_44 ?_
        refine ar_mod (ixor_m1 ⟨by omega, by omega⟩) ?_
        refine ac_virt (pc := 45) (N := mt_Or_addItem) _ _ mv_Or_addItem ml_Re_91 ck_3 d_Re_readComparison_45 c45 (by first | rfl | exact sh_wheel (by omega) | exact sh_milk (by omega)) rfl rfl (Nat.le_of_ble_eq_true rfl) (Nat.le_of_eq (Nat.zero_add _)) (Nat.le_of_eq (Nat.zero_add _)) (fun r_45 G_45 h_45 => ?_)
        obtain ⟨rfl, q45⟩ := h_45
        refine ar_iconst (pc := 48) d_Re_readComparison_48 ?_
        refine ar_zret (pc := 49) d_Re_readComparison_49 rfl (by omega) ?_
        rotate_left
        -- leaves: ret 49
        · exact Or.inr (Or.inl ⟨hc, rfl, i1, v1, o1, ⟨a1, a2, a3, a4⟩, hs1, q45⟩)
      · skip
        refine ar_if_ne (pc := 36) 41 d_Re_readComparison_36 (by decide) ⟨by omega, by omega⟩ (fun h_36 => by exfalso; omega) (fun h_36 => ?_)
        refine ar_iconst (pc := 39) d_Re_readComparison_39 ?_
        refine ar_zret (pc := 40) d_Re_readComparison_40 rfl (by omega) ?_
        rotate_left
        -- leaves: ret 40
        · exact Or.inr (Or.inr ⟨hc, rfl, k1, p1, hb1, hq1⟩)
    · skip
      refine ar_aload_n (pc := 25) d_Re_readComparison_25 rfl ?_
      refine ac_virt (pc := 26) (N := mt_Re_step) _ _ mv_Re_step ml_Re_32 ck_5 d_Re_readComparison_26 c26 (by first | rfl | exact sh_wheel (by omega) | exact sh_milk (by omega)) rfl rfl (Nat.le_of_ble_eq_true rfl) (Nat.le_of_eq (Nat.zero_add _)) (Nat.le_of_eq (Nat.zero_add _)) (fun r_26 G_26 h_26 => ?_)
      obtain ⟨rfl, q26⟩ := h_26
      refine ar_aload_n (pc := 29) d_Re_readComparison_29 rfl ?_
      refine ar_iconst (pc := 30) d_Re_readComparison_30 ?_
      refine ar_iload_n (pc := 31) d_Re_readComparison_31 rfl ?_
      refine ar_aload_n (pc := 32) d_Re_readComparison_32 rfl ?_
      refine ac_virt (pc := 33) (N := mt_Re_readJoined) _ _ mv_Re_readJoined ml_Re_76 ck_5 d_Re_readComparison_33 (hS1 G_26 q26) (by first | rfl | exact sh_wheel (by omega) | exact sh_milk (by omega)) rfl rfl (Nat.le_of_ble_eq_true rfl) (Nat.le_of_eq (Nat.zero_add _)) (Nat.le_of_eq (Nat.zero_add _)) (fun r_33 G_33 h_33 => ?_)
      obtain ⟨rfl, i1, v1, o1, ⟨hd1, hs1⟩, hp1⟩ | ⟨rfl, k1, p1, hb1, hq1⟩ := h_33
      rotate_left
      rotate_left
      -- leaves: stop 36, stop 36
      · obtain ⟨a1, a2, a3, a4⟩ := hd1
        have c45 := cm_Re_add_b X (d + 1) (z := -1 - K i) hF hp1 ⟨by omega, by omega⟩ (by omega)
        refine ar_if_ne (pc := 36) 41 d_Re_readComparison_36 (by decide) ⟨by omega, by omega⟩ (fun h_36 => ?_) (fun h_36 => by exfalso; omega)
        refine ar_aload_n (pc := 41) d_Re_readComparison_41 rfl ?_
        refine ar_iload_n (pc := 42) d_Re_readComparison_42 rfl ?_
        refine ar_iconst (pc := 43) d_Re_readComparison_43 ?_
        refine ar_ixor (pc := 44) d_Re_readComparison_44 ?_
        refine ar_mod (ixor_m1 ⟨by omega, by omega⟩) ?_
        refine ac_virt (pc := 45) (N := mt_Or_addItem) _ _ mv_Or_addItem ml_Re_91 ck_3 d_Re_readComparison_45 c45 (by first | rfl | exact sh_wheel (by omega) | exact sh_milk (by omega)) rfl rfl (Nat.le_of_ble_eq_true rfl) (Nat.le_of_eq (Nat.zero_add _)) (Nat.le_of_eq (Nat.zero_add _)) (fun r_45 G_45 h_45 => ?_)
        obtain ⟨rfl, q45⟩ := h_45
        refine ar_iconst (pc := 48) d_Re_readComparison_48 ?_
        refine ar_zret (pc := 49) d_Re_readComparison_49 rfl (by omega) ?_
        rotate_left
        -- leaves: ret 49
        · exact Or.inr (Or.inl ⟨hc, rfl, i1, v1, o1, ⟨a1, a2, a3, a4⟩, hs1, q45⟩)
      · skip
        refine ar_if_ne (pc := 36) 41 d_Re_readComparison_36 (by decide) ⟨by omega, by omega⟩ (fun h_36 => by exfalso; omega) (fun h_36 => ?_)
        refine ar_iconst (pc := 39) d_Re_readComparison_39 ?_
        refine ar_zret (pc := 40) d_Re_readComparison_40 rfl (by omega) ?_
        rotate_left
        -- leaves: ret 40
        · exact Or.inr (Or.inr ⟨hc, rfl, k1, p1, hb1, hq1⟩)
  · have hc' := hc
    unfold cmp_t at hc'
    refine aw_enter pf_Re_readComparison (Nat.le_of_ble_eq_true rfl) ?_
    refine ar_aload_n (pc := 0) d_Re_readComparison_0 rfl ?_
    refine ar_getIv (pc := 1) gf_Re_43 d_Re_readComparison_1 (by first | rfl | exact sh_wheel (by omega) | exact sh_milk (by omega)) e2 (fun r_1 => ?_)
    refine ar_istore_n (pc := 4) d_Re_readComparison_4 rfl (by decide) ?_
    refine ar_iload_n (pc := 5) d_Re_readComparison_5 rfl ?_
    refine ar_bipush (pc := 6) d_Re_readComparison_6 (by decide) ?_
    refine ar_icmp_eq (pc := 8) 25 d_Re_readComparison_8 (by decide) ⟨by omega, by omega⟩ ⟨by omega, by omega⟩ (fun h_8 => by exfalso; omega) (fun h_8 => ?_)
    refine ar_iload_n (pc := 11) d_Re_readComparison_11 rfl ?_
    refine ar_bipush (pc := 12) d_Re_readComparison_12 (by decide) ?_
    refine ar_icmp_eq (pc := 14) 25 d_Re_readComparison_14 (by decide) ⟨by omega, by omega⟩ ⟨by omega, by omega⟩ (fun h_14 => by exfalso; omega) (fun h_14 => ?_)
    refine ar_iload_n (pc := 17) d_Re_readComparison_17 rfl ?_
    refine ar_bipush (pc := 18) d_Re_readComparison_18 (by decide) ?_
    refine ar_icmp_eq (pc := 20) 25 d_Re_readComparison_20 (by decide) ⟨by omega, by omega⟩ ⟨by omega, by omega⟩ (fun h_20 => by exfalso; omega) (fun h_20 => ?_)
    refine ar_iconst (pc := 23) d_Re_readComparison_23 ?_
    refine ar_zret (pc := 24) d_Re_readComparison_24 rfl (by omega) ?_
    rotate_left
    -- leaves: ret 24
    · exact Or.inl ⟨hc, rfl, h⟩
theorem rt_O_b (X : gx_T) (d : Nat) {K P N : Nat → Int} {G : mm_T} {n dep : Nat} (hT : tt_T K P N n G) (hF : fx_R G) (hd : dep < 8) (hS : ct_S_b X (d + 2) K P N n G dep) (hS2 : ct_S_b X (d + 3) K P N n G dep) (hO : ct_O_b X (d + 3) K P N n G (dep + 1)) : ct_O_b X (d + 4) K P N n G dep := by
  intro i v o G1 hi hv ho h
  obtain ⟨r1, r2, r3⟩ := hT.2.2.2.1 i hi
  obtain ⟨e1, e2, e3, e4, e5⟩ := h.2.2.1
  have n5 := hT.2.1
  by_cases k7 : K i = 7
  · have hin := tt_n hT hi (by omega)
    have c22 := cm_Re_step_b X (d + 2) hT hF h hin
    have hO1 := fun G2 q => hO (i + 1) v o G2 (by omega) hv (by omega) q
    clear hO hS hS2 h
    refine aw_enter pf_Re_readOne (Nat.le_of_ble_eq_true rfl) ?_
    refine ar_iload_n (pc := 0) d_Re_readOne_0 rfl ?_
    refine ar_bipush (pc := 1) d_Re_readOne_1 (by decide) ?_
    refine ar_icmp_lt (pc := 3) 12 d_Re_readOne_3 (by decide) ⟨by omega, by omega⟩ ⟨by omega, by omega⟩ (fun h_3 => ?_) (fun h_3 => by exfalso; omega)
    refine ar_aload_n (pc := 12) d_Re_readOne_12 rfl ?_
    refine ar_getIv (pc := 13) gf_Re_43 d_Re_readOne_13 (by first | rfl | exact sh_wheel (by omega) | exact sh_milk (by omega)) e2 (fun r_13 => ?_)
    refine ar_bipush (pc := 16) d_Re_readOne_16 (by decide) ?_
    refine ar_icmp_ne (pc := 18) 46 d_Re_readOne_18 (by decide) ⟨by omega, by omega⟩ ⟨by omega, by omega⟩ (fun h_18 => by exfalso; omega) (fun h_18 => ?_)
    refine ar_aload_n (pc := 21) d_Re_readOne_21 rfl ?_
    refine ac_virt (pc := 22) (N := mt_Re_step) _ _ mv_Re_step ml_Re_32 ck_5 d_Re_readOne_22 c22 (by first | rfl | exact sh_wheel (by omega) | exact sh_milk (by omega)) rfl rfl (Nat.le_of_ble_eq_true rfl) (Nat.le_of_eq (Nat.zero_add _)) (Nat.le_of_eq (Nat.zero_add _)) (fun r_22 G_22 h_22 => ?_)
    obtain ⟨rfl, q22⟩ := h_22
    refine ar_aload_n (pc := 25) d_Re_readOne_25 rfl ?_
    refine ar_iload_n (pc := 26) d_Re_readOne_26 rfl ?_
    refine ar_iconst (pc := 27) d_Re_readOne_27 ?_
    refine ar_iadd (pc := 28) d_Re_readOne_28 ?_
    refine ar_aload_n (pc := 29) d_Re_readOne_29 rfl ?_
    rw [show (dep : Int) + 1 = ((dep + 1 : Nat) : Int) by omega]
    refine ac_virt (pc := 30) (N := mt_Re_readOne) _ _ mv_Re_readOne ml_Re_84 ck_5 d_Re_readOne_30 (hO1 G_22 q22) (by first | rfl | exact sh_wheel (by omega) | exact sh_milk (by omega)) rfl rfl (Nat.le_of_ble_eq_true rfl) (Nat.le_of_eq (Nat.zero_add _)) (Nat.le_of_eq (Nat.zero_add _)) (fun r_30 G_30 h_30 => ?_)
    obtain ⟨rfl, i1, v1, o1, ⟨hd1, hs1⟩, hp1⟩ | ⟨rfl, k1, p1, hb1, hq1⟩ := h_30
    rotate_left
    rotate_left
    -- leaves: stop 33, stop 33
    · obtain ⟨a1, a2, a3, a4⟩ := hd1
      have c41 := cm_Re_add_b X (d + 2) (z := -8) hF hp1 ⟨by omega, by omega⟩ (by omega)
      refine ar_if_ne (pc := 33) 38 d_Re_readOne_33 (by decide) ⟨by omega, by omega⟩ (fun h_33 => ?_) (fun h_33 => by exfalso; omega)
      refine ar_aload_n (pc := 38) d_Re_readOne_38 rfl ?_
      refine ar_bipush (pc := 39) d_Re_readOne_39 (by decide) ?_
      refine ac_virt (pc := 41) (N := mt_Or_addItem) _ _ mv_Or_addItem ml_Re_91 ck_3 d_Re_readOne_41 c41 (by first | rfl | exact sh_wheel (by omega) | exact sh_milk (by omega)) rfl rfl (Nat.le_of_ble_eq_true rfl) (Nat.le_of_eq (Nat.zero_add _)) (Nat.le_of_eq (Nat.zero_add _)) (fun r_41 G_41 h_41 => ?_)
      obtain ⟨rfl, q41⟩ := h_41
      refine ar_iconst (pc := 44) d_Re_readOne_44 ?_
      refine ar_zret (pc := 45) d_Re_readOne_45 rfl (by omega) ?_
      rotate_left
      -- leaves: ret 45
      · exact Or.inl ⟨rfl, i1, v1, o1 ++ [-8], ⟨⟨by omega, a2, a3, by rw [List.length_append]; simp; omega⟩, on_not hd k7 hs1⟩, q41⟩
    · skip
      refine ar_if_ne (pc := 33) 38 d_Re_readOne_33 (by decide) ⟨by omega, by omega⟩ (fun h_33 => by exfalso; omega) (fun h_33 => ?_)
      refine ar_iconst (pc := 36) d_Re_readOne_36 ?_
      refine ar_zret (pc := 37) d_Re_readOne_37 rfl (by omega) ?_
      rotate_left
      -- leaves: ret 37
      · exact Or.inr ⟨rfl, k1, p1, on_notb hd k7 hb1, hq1⟩
  · have c50 := hS2 i v o G1 hi hv ho h
    clear hO hS2 h
    refine aw_enter pf_Re_readOne (Nat.le_of_ble_eq_true rfl) ?_
    refine ar_iload_n (pc := 0) d_Re_readOne_0 rfl ?_
    refine ar_bipush (pc := 1) d_Re_readOne_1 (by decide) ?_
    refine ar_icmp_lt (pc := 3) 12 d_Re_readOne_3 (by decide) ⟨by omega, by omega⟩ ⟨by omega, by omega⟩ (fun h_3 => ?_) (fun h_3 => by exfalso; omega)
    refine ar_aload_n (pc := 12) d_Re_readOne_12 rfl ?_
    refine ar_getIv (pc := 13) gf_Re_43 d_Re_readOne_13 (by first | rfl | exact sh_wheel (by omega) | exact sh_milk (by omega)) e2 (fun r_13 => ?_)
    refine ar_bipush (pc := 16) d_Re_readOne_16 (by decide) ?_
    refine ar_icmp_ne (pc := 18) 46 d_Re_readOne_18 (by decide) ⟨by omega, by omega⟩ ⟨by omega, by omega⟩ (fun h_18 => ?_) (fun h_18 => by exfalso; omega)
    refine ar_aload_n (pc := 46) d_Re_readOne_46 rfl ?_
    refine ar_iconst (pc := 47) d_Re_readOne_47 ?_
    refine ar_iload_n (pc := 48) d_Re_readOne_48 rfl ?_
    refine ar_aload_n (pc := 49) d_Re_readOne_49 rfl ?_
    refine ac_virt (pc := 50) (N := mt_Re_readJoined) _ _ mv_Re_readJoined ml_Re_76 ck_5 d_Re_readOne_50 c50 (by first | rfl | exact sh_wheel (by omega) | exact sh_milk (by omega)) rfl rfl (Nat.le_of_ble_eq_true rfl) (Nat.le_of_eq (Nat.zero_add _)) (Nat.le_of_eq (Nat.zero_add _)) (fun r_50 G_50 h_50 => ?_)
    obtain ⟨rfl, i1, v1, o1, ⟨hd1, hs1⟩, hp1⟩ | ⟨rfl, k1, p1, hb1, hq1⟩ := h_50
    rotate_left
    rotate_left
    -- leaves: stop 53, stop 53
    · obtain ⟨a1, a2, a3, a4⟩ := hd1
      have c59 := rt_C_b X d hT hF hS a2 a3 (by omega) hp1
      clear hS
      refine ar_if_eq (pc := 53) 69 d_Re_readOne_53 (by decide) ⟨by omega, by omega⟩ (fun h_53 => by exfalso; omega) (fun h_53 => ?_)
      refine ar_aload_n (pc := 56) d_Re_readOne_56 rfl ?_
      refine ar_iload_n (pc := 57) d_Re_readOne_57 rfl ?_
      refine ar_aload_n (pc := 58) d_Re_readOne_58 rfl ?_
      refine ac_virt (pc := 59) (N := mt_Re_readComparison) _ _ mv_Re_readComparison ml_Re_97 ck_5 d_Re_readOne_59 c59 (by first | rfl | exact sh_wheel (by omega) | exact sh_milk (by omega)) rfl rfl (Nat.le_of_ble_eq_true rfl) (Nat.le_of_eq (Nat.zero_add _)) (Nat.le_of_eq (Nat.zero_add _)) (fun r_59 G_59 h_59 => ?_)
      obtain ⟨hc, rfl, q59⟩ | ⟨hc, rfl, i2, v2, o2, ⟨b1, b2, b3, b4⟩, hs2, q59⟩ | ⟨hc, rfl, k2, p2, hb2, q59⟩ := h_59
      refine ar_if_eq (pc := 62) 69 d_Re_readOne_62 (by decide) ⟨by omega, by omega⟩ (fun h_62 => ?_) (fun h_62 => ?_)
      refine ar_iconst (pc := 69) d_Re_readOne_69 ?_
      refine ar_zret (pc := 70) d_Re_readOne_70 rfl (by omega) ?_
      rotate_left
      refine ar_iconst (pc := 65) d_Re_readOne_65 ?_
      refine ar_goto (pc := 66) 70 d_Re_readOne_66 (by decide) ?_
      refine ar_zret (pc := 70) d_Re_readOne_70 rfl (by omega) ?_
      rotate_left
      refine ar_if_eq (pc := 62) 69 d_Re_readOne_62 (by decide) ⟨by omega, by omega⟩ (fun h_62 => ?_) (fun h_62 => ?_)
      refine ar_iconst (pc := 69) d_Re_readOne_69 ?_
      refine ar_zret (pc := 70) d_Re_readOne_70 rfl (by omega) ?_
      rotate_left
      refine ar_iconst (pc := 65) d_Re_readOne_65 ?_
      refine ar_goto (pc := 66) 70 d_Re_readOne_66 (by decide) ?_
      refine ar_zret (pc := 70) d_Re_readOne_70 rfl (by omega) ?_
      rotate_left
      refine ar_if_eq (pc := 62) 69 d_Re_readOne_62 (by decide) ⟨by omega, by omega⟩ (fun h_62 => ?_) (fun h_62 => ?_)
      refine ar_iconst (pc := 69) d_Re_readOne_69 ?_
      refine ar_zret (pc := 70) d_Re_readOne_70 rfl (by omega) ?_
      rotate_left
      refine ar_iconst (pc := 65) d_Re_readOne_65 ?_
      refine ar_goto (pc := 66) 70 d_Re_readOne_66 (by decide) ?_
      refine ar_zret (pc := 70) d_Re_readOne_70 rfl (by omega) ?_
      rotate_left
      -- leaves: ret 70, ret 70, ret 70, ret 70, ret 70, ret 70
      · exfalso; omega
      · exact Or.inl ⟨rfl, i1, v1, o1, ⟨⟨a1, a2, a3, a4⟩, on_sum hs1 hc⟩, q59⟩
      · exfalso; omega
      · exact Or.inl ⟨rfl, i2, v2, o2 ++ [-1 - K i1], ⟨⟨by omega, b2, b3, by rw [List.length_append]; simp; omega⟩, on_cmp hs1 hc hs2⟩, q59⟩
      · exact Or.inr ⟨rfl, k2, p2, on_b2 hs1 hc hb2, q59⟩
      · exfalso; omega
    · skip
      refine ar_if_eq (pc := 53) 69 d_Re_readOne_53 (by decide) ⟨by omega, by omega⟩ (fun h_53 => ?_) (fun h_53 => by exfalso; omega)
      refine ar_iconst (pc := 69) d_Re_readOne_69 ?_
      refine ar_zret (pc := 70) d_Re_readOne_70 rfl (by omega) ?_
      rotate_left
      -- leaves: ret 70
      · exact Or.inr ⟨rfl, k1, p1, on_b1 k7 hb1, hq1⟩
theorem rt_8_b (X : gx_T) (d : Nat) {K P N : Nat → Int} {G : mm_T} {n dep : Nat} (hT : tt_T K P N n G) (hd : 8 ≤ dep) (hd9 : dep ≤ 9) : ct_O_b X (d + 2) K P N n G dep := by
  intro i v o G1 hi hv ho h
  have c8 := cm_Re_refuse_b X d (k := 2) hT h hi (by omega)
  have fin := on_deep (K := K) (P := P) (N := N) (i := i) (v := v) (o := o) hd
  refine aw_enter pf_Re_readOne (Nat.le_of_ble_eq_true rfl) ?_
  refine ar_iload_n (pc := 0) d_Re_readOne_0 rfl ?_
  refine ar_bipush (pc := 1) d_Re_readOne_1 (by decide) ?_
  refine ar_icmp_lt (pc := 3) 12 d_Re_readOne_3 (by decide) ⟨by omega, by omega⟩ ⟨by omega, by omega⟩ (fun h_3 => by exfalso; omega) (fun h_3 => ?_)
  refine ar_aload_n (pc := 6) d_Re_readOne_6 rfl ?_
  refine ar_iconst (pc := 7) d_Re_readOne_7 ?_
  refine ac_virt (pc := 8) (N := mt_Re_refuse) _ _ mv_Re_refuse ml_Re_50 ck_5 d_Re_readOne_8 c8 (by first | rfl | exact sh_wheel (by omega) | exact sh_milk (by omega)) rfl rfl (Nat.le_of_ble_eq_true rfl) (Nat.le_of_eq (Nat.zero_add _)) (Nat.le_of_eq (Nat.zero_add _)) (fun r_8 G_8 h_8 => ?_)
  obtain ⟨rfl, q8⟩ := h_8
  refine ar_zret (pc := 11) d_Re_readOne_11 rfl (by omega) ?_
  rotate_left
  -- leaves: ret 11
  · exact Or.inr ⟨rfl, _, _, fin, q8⟩
theorem lj_2_b (X : gx_T) (d : Nat) {K P N : Nat → Int} {G : mm_T} {n dep : Nat} (hT : tt_T K P N n G) (hF : fx_R G) (hP : ct_T_b X (d + 1) K P N n G dep) {i v : Nat} {o : List Int} (hi : i ≤ n) (ho : o.length ≤ i) : ∀ m t j i1 v1 o1 G1, i1 + m = n + 1 → i1 ≤ n → i + 2 * t ≤ i1 → v1 ≤ 80 → o1.length + (aj_v j).length + i ≤ o.length + i1 → m_sum K P N dep i v o j i1 v1 o1 → pr_F_b K P N G G1 i1 v1 o1 → aw_W X mt_Re_readJoined (d + 2) 6 [(0, some (av_r (some 35))), (1, some (av_i 2)), (2, some (av_i (dep : Int))), (3, some (av_r (some 48))), (4, some (av_i j)), (5, some (av_i (t : Int)))] [] G1 0 0 (po_P_b K P N G (fun i' v' o' => dn_B n i v o i' v' o' ∧ s_sum K P N dep i v o i' v' o') (b_sum K P N dep i v o)) := by
  have n5 := hT.2.1
  intro m
  induction m using Nat.strongRecOn with
  | _ m ih =>
    intro t j i1 v1 o1 G1 hm h1 h2 h3 h4 hM h
    have hj1 := aj_l j
    have hP1 := hP i1 v1 o1 G1 h1 h3 (by omega) h
    have hjr : j = -1 ∨ j = 5 ∨ j = 6 ∨ j = 43 ∨ j = 45 := by rcases hM with q | q; exact Or.inl q.1; have := q.1; omega
    refine ar_iload (pc := 6) d_Re_readJoined_6 rfl ?_
    refine ar_sipush (pc := 8) d_Re_readJoined_8 (by decide) ?_
    refine ar_icmp_ge (pc := 11) 97 d_Re_readJoined_11 (by decide) ⟨by omega, by omega⟩ ⟨by omega, by omega⟩ (fun h_11 => by exfalso; omega) (fun h_11 => ?_)
    refine ar_iload_n (pc := 14) d_Re_readJoined_14 rfl ?_
    refine ar_if_ne (pc := 15) 28 d_Re_readJoined_15 (by decide) ⟨by omega, by omega⟩ (fun h_15 => ?_) (fun h_15 => by exfalso; omega)
    refine ar_iload_n (pc := 28) d_Re_readJoined_28 rfl ?_
    refine ar_iconst (pc := 29) d_Re_readJoined_29 ?_
    refine ar_icmp_ne (pc := 30) 42 d_Re_readJoined_30 (by decide) ⟨by omega, by omega⟩ ⟨by omega, by omega⟩ (fun h_30 => ?_) (fun h_30 => by exfalso; omega)
    refine ar_aload_n (pc := 42) d_Re_readJoined_42 rfl ?_
    refine ar_iload_n (pc := 43) d_Re_readJoined_43 rfl ?_
    refine ar_aload_n (pc := 44) d_Re_readJoined_44 rfl ?_
    refine ac_virt (pc := 45) (N := mt_Re_readTerm) _ _ mv_Re_readTerm ml_Re_88 ck_5 d_Re_readJoined_45 hP1 (by first | rfl | exact sh_wheel (by omega) | exact sh_milk (by omega)) rfl rfl (Nat.le_of_ble_eq_true rfl) (Nat.le_of_eq (Nat.zero_add _)) (Nat.le_of_eq (Nat.zero_add _)) (fun r_45 G_45 h_45 => ?_)
    obtain ⟨rfl, i2, v2, o2, ⟨hd2, hs2⟩, hp2⟩ | ⟨rfl, k2, p2, hb2, hq2⟩ := h_45
    rotate_left
    rotate_left
    -- leaves: stop 48, stop 48
    · obtain ⟨a1, a2, a3, a4⟩ := hd2
      obtain ⟨r1, r2, r3⟩ := hT.2.2.2.1 i2 a2
      have go := fun hk => su_go hM hs2 hk
      have en := fun hk => su_end hM hs2 hk
      have key : ∀ G3, pr_F_b K P N G G3 i2 v2 (o2 ++ aj_v j) → aw_W X mt_Re_readJoined (d + 2) 71 [(0, some (av_r (some 35))), (1, some (av_i 2)), (2, some (av_i (dep : Int))), (3, some (av_r (some 48))), (5, some (av_i (t : Int)))] [] G3 0 0 (po_P_b K P N G (fun i' v' o' => dn_B n i v o i' v' o' ∧ s_sum K P N dep i v o i' v' o') (b_sum K P N dep i v o)) := by
        intro G3 hp3
        have e2 := hp3.2.2.1.2.1
        have lj := List.length_append (as := o2) (bs := aj_v j)
        have c73 := cm_Re_isJoint_b X d (l := 2) hT hp3 a2 (by omega)
        by_cases hk : (K i2 = 43 ∨ K i2 = 45)
        · rw [if_pos (by omega)] at c73
          have hin := tt_n hT a2 (by omega)
          have c88 := cm_Re_step_b X d hT hF hp3 hin
          have hl1 := aj_l (K i2)
          have i1' := fun G4 q => ih (n + 1 - (i2 + 1)) (by omega) (t + 1) (K i2) (i2 + 1) v2 (o2 ++ aj_v j) G4 (by omega) (by omega) (by omega) a3 (by omega) (go hk) q
          clear ih go en hP hP1 hM hs2
          refine ar_aload_n (pc := 71) d_Re_readJoined_71 rfl ?_
          refine ar_iload_n (pc := 72) d_Re_readJoined_72 rfl ?_
          refine ac_virt (pc := 73) (N := mt_Re_isJoint) _ _ mv_Re_isJoint ml_Re_94 ck_5 d_Re_readJoined_73 c73 (by first | rfl | exact sh_wheel (by omega) | exact sh_milk (by omega)) rfl rfl (Nat.le_of_ble_eq_true rfl) (Nat.le_of_eq (Nat.zero_add _)) (Nat.le_of_eq (Nat.zero_add _)) (fun r_73 G_73 h_73 => ?_)
          obtain ⟨rfl, e_73⟩ := h_73
          subst G_73
          refine ar_if_ne (pc := 76) 81 d_Re_readJoined_76 (by decide) ⟨by omega, by omega⟩ (fun h_76 => ?_) (fun h_76 => by exfalso; omega)
          refine ar_aload_n (pc := 81) d_Re_readJoined_81 rfl ?_
          refine ar_getIv (pc := 82) gf_Re_43 d_Re_readJoined_82 (by first | rfl | exact sh_wheel (by omega) | exact sh_milk (by omega)) e2 (fun r_82 => ?_)
          refine ar_istore (pc := 85) d_Re_readJoined_85 rfl (by decide) ?_
          refine ar_aload_n (pc := 87) d_Re_readJoined_87 rfl ?_
          refine ac_virt (pc := 88) (N := mt_Re_step) _ _ mv_Re_step ml_Re_32 ck_5 d_Re_readJoined_88 c88 (by first | rfl | exact sh_wheel (by omega) | exact sh_milk (by omega)) rfl rfl (Nat.le_of_ble_eq_true rfl) (Nat.le_of_eq (Nat.zero_add _)) (Nat.le_of_eq (Nat.zero_add _)) (fun r_88 G_88 h_88 => ?_)
          obtain ⟨rfl, q88⟩ := h_88
          refine ar_iinc (pc := 91) d_Re_readJoined_91 rfl rfl (by decide) ?_
          refine ar_goto (pc := 94) 6 d_Re_readJoined_94 (by decide) ?_
          rotate_left
          -- leaves: stop 6
          · exact ar_loc (i1' _ q88) ⟨rfl, rfl, rfl, rfl, rfl, li_i rfl (by omega), trivial⟩
        · rw [if_neg (by omega)] at c73
          have fin := en hk
          clear ih go en hP hP1 hM hs2
          refine ar_aload_n (pc := 71) d_Re_readJoined_71 rfl ?_
          refine ar_iload_n (pc := 72) d_Re_readJoined_72 rfl ?_
          refine ac_virt (pc := 73) (N := mt_Re_isJoint) _ _ mv_Re_isJoint ml_Re_94 ck_5 d_Re_readJoined_73 c73 (by first | rfl | exact sh_wheel (by omega) | exact sh_milk (by omega)) rfl rfl (Nat.le_of_ble_eq_true rfl) (Nat.le_of_eq (Nat.zero_add _)) (Nat.le_of_eq (Nat.zero_add _)) (fun r_73 G_73 h_73 => ?_)
          obtain ⟨rfl, e_73⟩ := h_73
          subst G_73
          refine ar_if_ne (pc := 76) 81 d_Re_readJoined_76 (by decide) ⟨by omega, by omega⟩ (fun h_76 => by exfalso; omega) (fun h_76 => ?_)
          refine ar_iconst (pc := 79) d_Re_readJoined_79 ?_
          refine ar_zret (pc := 80) d_Re_readJoined_80 rfl (by omega) ?_
          rotate_left
          -- leaves: ret 80
          · exact Or.inl ⟨rfl, i2, v2, o2 ++ aj_v j, ⟨⟨by omega, a2, a3, by omega⟩, fin⟩, hp3⟩
      clear ih hP hP1 go en
      by_cases hj : j = -1
      · have k1 := key G_45 (by rw [hj, show aj_v (-1) = [] from rfl, List.append_nil]; exact hp2)
        refine ar_istore (pc := 48) d_Re_readJoined_48 rfl (by decide) ?_
        refine ar_iload (pc := 50) d_Re_readJoined_50 rfl ?_
        refine ar_if_ne (pc := 52) 57 d_Re_readJoined_52 (by decide) ⟨by omega, by omega⟩ (fun h_52 => ?_) (fun h_52 => by exfalso; omega)
        refine ar_iload (pc := 57) d_Re_readJoined_57 rfl ?_
        refine ar_iconst (pc := 59) d_Re_readJoined_59 ?_
        refine ar_icmp_eq (pc := 60) 71 d_Re_readJoined_60 (by decide) ⟨by omega, by omega⟩ ⟨by omega, by omega⟩ (fun h_60 => ?_) (fun h_60 => by exfalso; omega)
        rotate_left
        -- leaves: stop 71
        · exact ar_loc k1 ⟨rfl, rfl, rfl, rfl, rfl, trivial⟩
      · have hl1 : (aj_v j).length = 1 := by unfold aj_v; rw [if_neg hj]; rfl
        have c68 := cm_Re_add_b X d (z := -1 - j) hF hp2 ⟨by omega, by omega⟩ (by omega)
        have k1 := fun G4 q => key G4 (by rw [show aj_v j = [-1 - j] by unfold aj_v; rw [if_neg hj]]; exact q)
        refine ar_istore (pc := 48) d_Re_readJoined_48 rfl (by decide) ?_
        refine ar_iload (pc := 50) d_Re_readJoined_50 rfl ?_
        refine ar_if_ne (pc := 52) 57 d_Re_readJoined_52 (by decide) ⟨by omega, by omega⟩ (fun h_52 => ?_) (fun h_52 => by exfalso; omega)
        refine ar_iload (pc := 57) d_Re_readJoined_57 rfl ?_
        refine ar_iconst (pc := 59) d_Re_readJoined_59 ?_
        refine ar_icmp_eq (pc := 60) 71 d_Re_readJoined_60 (by decide) ⟨by omega, by omega⟩ ⟨by omega, by omega⟩ (fun h_60 => by exfalso; omega) (fun h_60 => ?_)
        refine ar_aload_n (pc := 63) d_Re_readJoined_63 rfl ?_
        refine ar_iload (pc := 64) d_Re_readJoined_64 rfl ?_
        refine ar_iconst (pc := 66) d_Re_readJoined_66 ?_
        refine ar_ixor (pc := 67) d_Re_readJoined_67 ?_
        refine ar_mod (ixor_m1 ⟨by omega, by omega⟩) ?_
        refine ac_virt (pc := 68) (N := mt_Or_addItem) _ _ mv_Or_addItem ml_Re_91 ck_3 d_Re_readJoined_68 c68 (by first | rfl | exact sh_wheel (by omega) | exact sh_milk (by omega)) rfl rfl (Nat.le_of_ble_eq_true rfl) (Nat.le_of_eq (Nat.zero_add _)) (Nat.le_of_eq (Nat.zero_add _)) (fun r_68 G_68 h_68 => ?_)
        obtain ⟨rfl, q68⟩ := h_68
        rotate_left
        -- leaves: stop 71
        · exact ar_loc (k1 _ q68) ⟨rfl, rfl, rfl, rfl, rfl, trivial⟩
    · have fin := su_bad hM hb2
      clear ih hP hP1
      refine ar_istore (pc := 48) d_Re_readJoined_48 rfl (by decide) ?_
      refine ar_iload (pc := 50) d_Re_readJoined_50 rfl ?_
      refine ar_if_ne (pc := 52) 57 d_Re_readJoined_52 (by decide) ⟨by omega, by omega⟩ (fun h_52 => by exfalso; omega) (fun h_52 => ?_)
      refine ar_iconst (pc := 55) d_Re_readJoined_55 ?_
      refine ar_zret (pc := 56) d_Re_readJoined_56 rfl (by omega) ?_
      rotate_left
      -- leaves: ret 56
      · exact Or.inr ⟨rfl, k2, p2, fin, hq2⟩
theorem rt_S_b (X : gx_T) (d : Nat) {K P N : Nat → Int} {G : mm_T} {n dep : Nat} (hT : tt_T K P N n G) (hF : fx_R G) (hP : ct_T_b X (d + 1) K P N n G dep) : ct_S_b X (d + 2) K P N n G dep := by
  intro i v o G1 hi hv ho h
  have hl := lj_2_b X d hT hF hP (i := i) (v := v) (o := o) hi ho (n + 1 - i) 0 (-1) i v o G1 (by omega) hi (by omega) hv (by rw [show aj_v (-1) = [] from rfl]; simp) (Or.inl ⟨rfl, rfl, rfl, rfl⟩) h
  refine aw_enter pf_Re_readJoined (Nat.le_of_ble_eq_true rfl) ?_
  refine ar_iconst (pc := 0) d_Re_readJoined_0 ?_
  refine ar_istore (pc := 1) d_Re_readJoined_1 rfl (by decide) ?_
  refine ar_iconst (pc := 3) d_Re_readJoined_3 ?_
  refine ar_istore (pc := 4) d_Re_readJoined_4 rfl (by decide) ?_
  rotate_left
  -- leaves: stop 6
  · exact ar_loc hl ⟨rfl, rfl, rfl, rfl, rfl, rfl, trivial⟩
theorem lj_1_b (X : gx_T) (d : Nat) {K P N : Nat → Int} {G : mm_T} {n dep : Nat} (hT : tt_T K P N n G) (hF : fx_R G) (hP : ct_O_b X (d + 1) K P N n G dep) {i v : Nat} {o : List Int} (hi : i ≤ n) (ho : o.length ≤ i) : ∀ m t j i1 v1 o1 G1, i1 + m = n + 1 → i1 ≤ n → i + 2 * t ≤ i1 → v1 ≤ 80 → o1.length + (aj_v j).length + i ≤ o.length + i1 → m_and K P N dep i v o j i1 v1 o1 → pr_F_b K P N G G1 i1 v1 o1 → aw_W X mt_Re_readJoined (d + 2) 6 [(0, some (av_r (some 35))), (1, some (av_i 1)), (2, some (av_i (dep : Int))), (3, some (av_r (some 48))), (4, some (av_i j)), (5, some (av_i (t : Int)))] [] G1 0 0 (po_P_b K P N G (fun i' v' o' => dn_B n i v o i' v' o' ∧ s_and K P N dep i v o i' v' o') (b_and K P N dep i v o)) := by
  have n5 := hT.2.1
  intro m
  induction m using Nat.strongRecOn with
  | _ m ih =>
    intro t j i1 v1 o1 G1 hm h1 h2 h3 h4 hM h
    have hj1 := aj_l j
    have hP1 := hP i1 v1 o1 G1 h1 h3 (by omega) h
    have hjr : j = -1 ∨ j = 5 ∨ j = 6 ∨ j = 43 ∨ j = 45 := by rcases hM with q | q; exact Or.inl q.1; have := q.1; omega
    refine ar_iload (pc := 6) d_Re_readJoined_6 rfl ?_
    refine ar_sipush (pc := 8) d_Re_readJoined_8 (by decide) ?_
    refine ar_icmp_ge (pc := 11) 97 d_Re_readJoined_11 (by decide) ⟨by omega, by omega⟩ ⟨by omega, by omega⟩ (fun h_11 => by exfalso; omega) (fun h_11 => ?_)
    refine ar_iload_n (pc := 14) d_Re_readJoined_14 rfl ?_
    refine ar_if_ne (pc := 15) 28 d_Re_readJoined_15 (by decide) ⟨by omega, by omega⟩ (fun h_15 => ?_) (fun h_15 => by exfalso; omega)
    refine ar_iload_n (pc := 28) d_Re_readJoined_28 rfl ?_
    refine ar_iconst (pc := 29) d_Re_readJoined_29 ?_
    refine ar_icmp_ne (pc := 30) 42 d_Re_readJoined_30 (by decide) ⟨by omega, by omega⟩ ⟨by omega, by omega⟩ (fun h_30 => by exfalso; omega) (fun h_30 => ?_)
    refine ar_aload_n (pc := 33) d_Re_readJoined_33 rfl ?_
    refine ar_iload_n (pc := 34) d_Re_readJoined_34 rfl ?_
    refine ar_aload_n (pc := 35) d_Re_readJoined_35 rfl ?_
    refine ac_virt (pc := 36) (N := mt_Re_readOne) _ _ mv_Re_readOne ml_Re_84 ck_5 d_Re_readJoined_36 hP1 (by first | rfl | exact sh_wheel (by omega) | exact sh_milk (by omega)) rfl rfl (Nat.le_of_ble_eq_true rfl) (Nat.le_of_eq (Nat.zero_add _)) (Nat.le_of_eq (Nat.zero_add _)) (fun r_36 G_36 h_36 => ?_)
    obtain ⟨rfl, i2, v2, o2, ⟨hd2, hs2⟩, hp2⟩ | ⟨rfl, k2, p2, hb2, hq2⟩ := h_36
    refine ar_goto (pc := 39) 48 d_Re_readJoined_39 (by decide) ?_
    rotate_left
    refine ar_goto (pc := 39) 48 d_Re_readJoined_39 (by decide) ?_
    rotate_left
    -- leaves: stop 48, stop 48
    · obtain ⟨a1, a2, a3, a4⟩ := hd2
      obtain ⟨r1, r2, r3⟩ := hT.2.2.2.1 i2 a2
      have go := fun hk => an_go hM hs2 hk
      have en := fun hk => an_end hM hs2 hk
      have key : ∀ G3, pr_F_b K P N G G3 i2 v2 (o2 ++ aj_v j) → aw_W X mt_Re_readJoined (d + 2) 71 [(0, some (av_r (some 35))), (1, some (av_i 1)), (2, some (av_i (dep : Int))), (3, some (av_r (some 48))), (5, some (av_i (t : Int)))] [] G3 0 0 (po_P_b K P N G (fun i' v' o' => dn_B n i v o i' v' o' ∧ s_and K P N dep i v o i' v' o') (b_and K P N dep i v o)) := by
        intro G3 hp3
        have e2 := hp3.2.2.1.2.1
        have lj := List.length_append (as := o2) (bs := aj_v j)
        have c73 := cm_Re_isJoint_b X d (l := 1) hT hp3 a2 (by omega)
        by_cases hk : (K i2 = 6)
        · rw [if_pos (by omega)] at c73
          have hin := tt_n hT a2 (by omega)
          have c88 := cm_Re_step_b X d hT hF hp3 hin
          have hl1 := aj_l (K i2)
          have i1' := fun G4 q => ih (n + 1 - (i2 + 1)) (by omega) (t + 1) (K i2) (i2 + 1) v2 (o2 ++ aj_v j) G4 (by omega) (by omega) (by omega) a3 (by omega) (go hk) q
          clear ih go en hP hP1 hM hs2
          refine ar_aload_n (pc := 71) d_Re_readJoined_71 rfl ?_
          refine ar_iload_n (pc := 72) d_Re_readJoined_72 rfl ?_
          refine ac_virt (pc := 73) (N := mt_Re_isJoint) _ _ mv_Re_isJoint ml_Re_94 ck_5 d_Re_readJoined_73 c73 (by first | rfl | exact sh_wheel (by omega) | exact sh_milk (by omega)) rfl rfl (Nat.le_of_ble_eq_true rfl) (Nat.le_of_eq (Nat.zero_add _)) (Nat.le_of_eq (Nat.zero_add _)) (fun r_73 G_73 h_73 => ?_)
          obtain ⟨rfl, e_73⟩ := h_73
          subst G_73
          refine ar_if_ne (pc := 76) 81 d_Re_readJoined_76 (by decide) ⟨by omega, by omega⟩ (fun h_76 => ?_) (fun h_76 => by exfalso; omega)
          refine ar_aload_n (pc := 81) d_Re_readJoined_81 rfl ?_
          refine ar_getIv (pc := 82) gf_Re_43 d_Re_readJoined_82 (by first | rfl | exact sh_wheel (by omega) | exact sh_milk (by omega)) e2 (fun r_82 => ?_)
          refine ar_istore (pc := 85) d_Re_readJoined_85 rfl (by decide) ?_
          refine ar_aload_n (pc := 87) d_Re_readJoined_87 rfl ?_
          refine ac_virt (pc := 88) (N := mt_Re_step) _ _ mv_Re_step ml_Re_32 ck_5 d_Re_readJoined_88 c88 (by first | rfl | exact sh_wheel (by omega) | exact sh_milk (by omega)) rfl rfl (Nat.le_of_ble_eq_true rfl) (Nat.le_of_eq (Nat.zero_add _)) (Nat.le_of_eq (Nat.zero_add _)) (fun r_88 G_88 h_88 => ?_)
          obtain ⟨rfl, q88⟩ := h_88
          refine ar_iinc (pc := 91) d_Re_readJoined_91 rfl rfl (by decide) ?_
          refine ar_goto (pc := 94) 6 d_Re_readJoined_94 (by decide) ?_
          rotate_left
          -- leaves: stop 6
          · exact ar_loc (i1' _ q88) ⟨rfl, rfl, rfl, rfl, rfl, li_i rfl (by omega), trivial⟩
        · rw [if_neg (by omega)] at c73
          have fin := en hk
          clear ih go en hP hP1 hM hs2
          refine ar_aload_n (pc := 71) d_Re_readJoined_71 rfl ?_
          refine ar_iload_n (pc := 72) d_Re_readJoined_72 rfl ?_
          refine ac_virt (pc := 73) (N := mt_Re_isJoint) _ _ mv_Re_isJoint ml_Re_94 ck_5 d_Re_readJoined_73 c73 (by first | rfl | exact sh_wheel (by omega) | exact sh_milk (by omega)) rfl rfl (Nat.le_of_ble_eq_true rfl) (Nat.le_of_eq (Nat.zero_add _)) (Nat.le_of_eq (Nat.zero_add _)) (fun r_73 G_73 h_73 => ?_)
          obtain ⟨rfl, e_73⟩ := h_73
          subst G_73
          refine ar_if_ne (pc := 76) 81 d_Re_readJoined_76 (by decide) ⟨by omega, by omega⟩ (fun h_76 => by exfalso; omega) (fun h_76 => ?_)
          refine ar_iconst (pc := 79) d_Re_readJoined_79 ?_
          refine ar_zret (pc := 80) d_Re_readJoined_80 rfl (by omega) ?_
          rotate_left
          -- leaves: ret 80
          · exact Or.inl ⟨rfl, i2, v2, o2 ++ aj_v j, ⟨⟨by omega, a2, a3, by omega⟩, fin⟩, hp3⟩
      clear ih hP hP1 go en
      by_cases hj : j = -1
      · have k1 := key G_36 (by rw [hj, show aj_v (-1) = [] from rfl, List.append_nil]; exact hp2)
        refine ar_istore (pc := 48) d_Re_readJoined_48 rfl (by decide) ?_
        refine ar_iload (pc := 50) d_Re_readJoined_50 rfl ?_
        refine ar_if_ne (pc := 52) 57 d_Re_readJoined_52 (by decide) ⟨by omega, by omega⟩ (fun h_52 => ?_) (fun h_52 => by exfalso; omega)
        refine ar_iload (pc := 57) d_Re_readJoined_57 rfl ?_
        refine ar_iconst (pc := 59) d_Re_readJoined_59 ?_
        refine ar_icmp_eq (pc := 60) 71 d_Re_readJoined_60 (by decide) ⟨by omega, by omega⟩ ⟨by omega, by omega⟩ (fun h_60 => ?_) (fun h_60 => by exfalso; omega)
        rotate_left
        -- leaves: stop 71
        · exact ar_loc k1 ⟨rfl, rfl, rfl, rfl, rfl, trivial⟩
      · have hl1 : (aj_v j).length = 1 := by unfold aj_v; rw [if_neg hj]; rfl
        have c68 := cm_Re_add_b X d (z := -1 - j) hF hp2 ⟨by omega, by omega⟩ (by omega)
        have k1 := fun G4 q => key G4 (by rw [show aj_v j = [-1 - j] by unfold aj_v; rw [if_neg hj]]; exact q)
        refine ar_istore (pc := 48) d_Re_readJoined_48 rfl (by decide) ?_
        refine ar_iload (pc := 50) d_Re_readJoined_50 rfl ?_
        refine ar_if_ne (pc := 52) 57 d_Re_readJoined_52 (by decide) ⟨by omega, by omega⟩ (fun h_52 => ?_) (fun h_52 => by exfalso; omega)
        refine ar_iload (pc := 57) d_Re_readJoined_57 rfl ?_
        refine ar_iconst (pc := 59) d_Re_readJoined_59 ?_
        refine ar_icmp_eq (pc := 60) 71 d_Re_readJoined_60 (by decide) ⟨by omega, by omega⟩ ⟨by omega, by omega⟩ (fun h_60 => by exfalso; omega) (fun h_60 => ?_)
        refine ar_aload_n (pc := 63) d_Re_readJoined_63 rfl ?_
        refine ar_iload (pc := 64) d_Re_readJoined_64 rfl ?_
        refine ar_iconst (pc := 66) d_Re_readJoined_66 ?_
        refine ar_ixor (pc := 67) d_Re_readJoined_67 ?_
        refine ar_mod (ixor_m1 ⟨by omega, by omega⟩) ?_
        refine ac_virt (pc := 68) (N := mt_Or_addItem) _ _ mv_Or_addItem ml_Re_91 ck_3 d_Re_readJoined_68 c68 (by first | rfl | exact sh_wheel (by omega) | exact sh_milk (by omega)) rfl rfl (Nat.le_of_ble_eq_true rfl) (Nat.le_of_eq (Nat.zero_add _)) (Nat.le_of_eq (Nat.zero_add _)) (fun r_68 G_68 h_68 => ?_)
        obtain ⟨rfl, q68⟩ := h_68
        rotate_left
        -- leaves: stop 71
        · exact ar_loc (k1 _ q68) ⟨rfl, rfl, rfl, rfl, rfl, trivial⟩
    · have fin := an_bad hM hb2
      clear ih hP hP1
      refine ar_istore (pc := 48) d_Re_readJoined_48 rfl (by decide) ?_
      refine ar_iload (pc := 50) d_Re_readJoined_50 rfl ?_
      refine ar_if_ne (pc := 52) 57 d_Re_readJoined_52 (by decide) ⟨by omega, by omega⟩ (fun h_52 => by exfalso; omega) (fun h_52 => ?_)
      refine ar_iconst (pc := 55) d_Re_readJoined_55 ?_
      refine ar_zret (pc := 56) d_Re_readJoined_56 rfl (by omega) ?_
      rotate_left
      -- leaves: ret 56
      · exact Or.inr ⟨rfl, k2, p2, fin, hq2⟩
theorem rt_A_b (X : gx_T) (d : Nat) {K P N : Nat → Int} {G : mm_T} {n dep : Nat} (hT : tt_T K P N n G) (hF : fx_R G) (hP : ct_O_b X (d + 1) K P N n G dep) : ct_A_b X (d + 2) K P N n G dep := by
  intro i v o G1 hi hv ho h
  have hl := lj_1_b X d hT hF hP (i := i) (v := v) (o := o) hi ho (n + 1 - i) 0 (-1) i v o G1 (by omega) hi (by omega) hv (by rw [show aj_v (-1) = [] from rfl]; simp) (Or.inl ⟨rfl, rfl, rfl, rfl⟩) h
  refine aw_enter pf_Re_readJoined (Nat.le_of_ble_eq_true rfl) ?_
  refine ar_iconst (pc := 0) d_Re_readJoined_0 ?_
  refine ar_istore (pc := 1) d_Re_readJoined_1 rfl (by decide) ?_
  refine ar_iconst (pc := 3) d_Re_readJoined_3 ?_
  refine ar_istore (pc := 4) d_Re_readJoined_4 rfl (by decide) ?_
  rotate_left
  -- leaves: stop 6
  · exact ar_loc hl ⟨rfl, rfl, rfl, rfl, rfl, rfl, trivial⟩
theorem lj_0_b (X : gx_T) (d : Nat) {K P N : Nat → Int} {G : mm_T} {n dep : Nat} (hT : tt_T K P N n G) (hF : fx_R G) (hP : ct_A_b X (d + 1) K P N n G dep) {i v : Nat} {o : List Int} (hi : i ≤ n) (ho : o.length ≤ i) : ∀ m t j i1 v1 o1 G1, i1 + m = n + 1 → i1 ≤ n → i + 2 * t ≤ i1 → v1 ≤ 80 → o1.length + (aj_v j).length + i ≤ o.length + i1 → m_or K P N dep i v o j i1 v1 o1 → pr_F_b K P N G G1 i1 v1 o1 → aw_W X mt_Re_readJoined (d + 2) 6 [(0, some (av_r (some 35))), (1, some (av_i 0)), (2, some (av_i (dep : Int))), (3, some (av_r (some 48))), (4, some (av_i j)), (5, some (av_i (t : Int)))] [] G1 0 0 (po_P_b K P N G (fun i' v' o' => dn_B n i v o i' v' o' ∧ s_or K P N dep i v o i' v' o') (b_or K P N dep i v o)) := by
  have n5 := hT.2.1
  intro m
  induction m using Nat.strongRecOn with
  | _ m ih =>
    intro t j i1 v1 o1 G1 hm h1 h2 h3 h4 hM h
    have hj1 := aj_l j
    have hP1 := hP i1 v1 o1 G1 h1 h3 (by omega) h
    have hjr : j = -1 ∨ j = 5 ∨ j = 6 ∨ j = 43 ∨ j = 45 := by rcases hM with q | q; exact Or.inl q.1; have := q.1; omega
    refine ar_iload (pc := 6) d_Re_readJoined_6 rfl ?_
    refine ar_sipush (pc := 8) d_Re_readJoined_8 (by decide) ?_
    refine ar_icmp_ge (pc := 11) 97 d_Re_readJoined_11 (by decide) ⟨by omega, by omega⟩ ⟨by omega, by omega⟩ (fun h_11 => by exfalso; omega) (fun h_11 => ?_)
    refine ar_iload_n (pc := 14) d_Re_readJoined_14 rfl ?_
    refine ar_if_ne (pc := 15) 28 d_Re_readJoined_15 (by decide) ⟨by omega, by omega⟩ (fun h_15 => by exfalso; omega) (fun h_15 => ?_)
    refine ar_aload_n (pc := 18) d_Re_readJoined_18 rfl ?_
    refine ar_iconst (pc := 19) d_Re_readJoined_19 ?_
    refine ar_iload_n (pc := 20) d_Re_readJoined_20 rfl ?_
    refine ar_aload_n (pc := 21) d_Re_readJoined_21 rfl ?_
    refine ac_virt (pc := 22) (N := mt_Re_readJoined) _ _ mv_Re_readJoined ml_Re_76 ck_5 d_Re_readJoined_22 hP1 (by first | rfl | exact sh_wheel (by omega) | exact sh_milk (by omega)) rfl rfl (Nat.le_of_ble_eq_true rfl) (Nat.le_of_eq (Nat.zero_add _)) (Nat.le_of_eq (Nat.zero_add _)) (fun r_22 G_22 h_22 => ?_)
    obtain ⟨rfl, i2, v2, o2, ⟨hd2, hs2⟩, hp2⟩ | ⟨rfl, k2, p2, hb2, hq2⟩ := h_22
    refine ar_goto (pc := 25) 48 d_Re_readJoined_25 (by decide) ?_
    rotate_left
    refine ar_goto (pc := 25) 48 d_Re_readJoined_25 (by decide) ?_
    rotate_left
    -- leaves: stop 48, stop 48
    · obtain ⟨a1, a2, a3, a4⟩ := hd2
      obtain ⟨r1, r2, r3⟩ := hT.2.2.2.1 i2 a2
      have go := fun hk => or_go hM hs2 hk
      have en := fun hk => or_end hM hs2 hk
      have key : ∀ G3, pr_F_b K P N G G3 i2 v2 (o2 ++ aj_v j) → aw_W X mt_Re_readJoined (d + 2) 71 [(0, some (av_r (some 35))), (1, some (av_i 0)), (2, some (av_i (dep : Int))), (3, some (av_r (some 48))), (5, some (av_i (t : Int)))] [] G3 0 0 (po_P_b K P N G (fun i' v' o' => dn_B n i v o i' v' o' ∧ s_or K P N dep i v o i' v' o') (b_or K P N dep i v o)) := by
        intro G3 hp3
        have e2 := hp3.2.2.1.2.1
        have lj := List.length_append (as := o2) (bs := aj_v j)
        have c73 := cm_Re_isJoint_b X d (l := 0) hT hp3 a2 (by omega)
        by_cases hk : (K i2 = 5)
        · rw [if_pos (by omega)] at c73
          have hin := tt_n hT a2 (by omega)
          have c88 := cm_Re_step_b X d hT hF hp3 hin
          have hl1 := aj_l (K i2)
          have i1' := fun G4 q => ih (n + 1 - (i2 + 1)) (by omega) (t + 1) (K i2) (i2 + 1) v2 (o2 ++ aj_v j) G4 (by omega) (by omega) (by omega) a3 (by omega) (go hk) q
          clear ih go en hP hP1 hM hs2
          refine ar_aload_n (pc := 71) d_Re_readJoined_71 rfl ?_
          refine ar_iload_n (pc := 72) d_Re_readJoined_72 rfl ?_
          refine ac_virt (pc := 73) (N := mt_Re_isJoint) _ _ mv_Re_isJoint ml_Re_94 ck_5 d_Re_readJoined_73 c73 (by first | rfl | exact sh_wheel (by omega) | exact sh_milk (by omega)) rfl rfl (Nat.le_of_ble_eq_true rfl) (Nat.le_of_eq (Nat.zero_add _)) (Nat.le_of_eq (Nat.zero_add _)) (fun r_73 G_73 h_73 => ?_)
          obtain ⟨rfl, e_73⟩ := h_73
          subst G_73
          refine ar_if_ne (pc := 76) 81 d_Re_readJoined_76 (by decide) ⟨by omega, by omega⟩ (fun h_76 => ?_) (fun h_76 => by exfalso; omega)
          refine ar_aload_n (pc := 81) d_Re_readJoined_81 rfl ?_
          refine ar_getIv (pc := 82) gf_Re_43 d_Re_readJoined_82 (by first | rfl | exact sh_wheel (by omega) | exact sh_milk (by omega)) e2 (fun r_82 => ?_)
          refine ar_istore (pc := 85) d_Re_readJoined_85 rfl (by decide) ?_
          refine ar_aload_n (pc := 87) d_Re_readJoined_87 rfl ?_
          refine ac_virt (pc := 88) (N := mt_Re_step) _ _ mv_Re_step ml_Re_32 ck_5 d_Re_readJoined_88 c88 (by first | rfl | exact sh_wheel (by omega) | exact sh_milk (by omega)) rfl rfl (Nat.le_of_ble_eq_true rfl) (Nat.le_of_eq (Nat.zero_add _)) (Nat.le_of_eq (Nat.zero_add _)) (fun r_88 G_88 h_88 => ?_)
          obtain ⟨rfl, q88⟩ := h_88
          refine ar_iinc (pc := 91) d_Re_readJoined_91 rfl rfl (by decide) ?_
          refine ar_goto (pc := 94) 6 d_Re_readJoined_94 (by decide) ?_
          rotate_left
          -- leaves: stop 6
          · exact ar_loc (i1' _ q88) ⟨rfl, rfl, rfl, rfl, rfl, li_i rfl (by omega), trivial⟩
        · rw [if_neg (by omega)] at c73
          have fin := en hk
          clear ih go en hP hP1 hM hs2
          refine ar_aload_n (pc := 71) d_Re_readJoined_71 rfl ?_
          refine ar_iload_n (pc := 72) d_Re_readJoined_72 rfl ?_
          refine ac_virt (pc := 73) (N := mt_Re_isJoint) _ _ mv_Re_isJoint ml_Re_94 ck_5 d_Re_readJoined_73 c73 (by first | rfl | exact sh_wheel (by omega) | exact sh_milk (by omega)) rfl rfl (Nat.le_of_ble_eq_true rfl) (Nat.le_of_eq (Nat.zero_add _)) (Nat.le_of_eq (Nat.zero_add _)) (fun r_73 G_73 h_73 => ?_)
          obtain ⟨rfl, e_73⟩ := h_73
          subst G_73
          refine ar_if_ne (pc := 76) 81 d_Re_readJoined_76 (by decide) ⟨by omega, by omega⟩ (fun h_76 => by exfalso; omega) (fun h_76 => ?_)
          refine ar_iconst (pc := 79) d_Re_readJoined_79 ?_
          refine ar_zret (pc := 80) d_Re_readJoined_80 rfl (by omega) ?_
          rotate_left
          -- leaves: ret 80
          · exact Or.inl ⟨rfl, i2, v2, o2 ++ aj_v j, ⟨⟨by omega, a2, a3, by omega⟩, fin⟩, hp3⟩
      clear ih hP hP1 go en
      by_cases hj : j = -1
      · have k1 := key G_22 (by rw [hj, show aj_v (-1) = [] from rfl, List.append_nil]; exact hp2)
        refine ar_istore (pc := 48) d_Re_readJoined_48 rfl (by decide) ?_
        refine ar_iload (pc := 50) d_Re_readJoined_50 rfl ?_
        refine ar_if_ne (pc := 52) 57 d_Re_readJoined_52 (by decide) ⟨by omega, by omega⟩ (fun h_52 => ?_) (fun h_52 => by exfalso; omega)
        refine ar_iload (pc := 57) d_Re_readJoined_57 rfl ?_
        refine ar_iconst (pc := 59) d_Re_readJoined_59 ?_
        refine ar_icmp_eq (pc := 60) 71 d_Re_readJoined_60 (by decide) ⟨by omega, by omega⟩ ⟨by omega, by omega⟩ (fun h_60 => ?_) (fun h_60 => by exfalso; omega)
        rotate_left
        -- leaves: stop 71
        · exact ar_loc k1 ⟨rfl, rfl, rfl, rfl, rfl, trivial⟩
      · have hl1 : (aj_v j).length = 1 := by unfold aj_v; rw [if_neg hj]; rfl
        have c68 := cm_Re_add_b X d (z := -1 - j) hF hp2 ⟨by omega, by omega⟩ (by omega)
        have k1 := fun G4 q => key G4 (by rw [show aj_v j = [-1 - j] by unfold aj_v; rw [if_neg hj]]; exact q)
        refine ar_istore (pc := 48) d_Re_readJoined_48 rfl (by decide) ?_
        refine ar_iload (pc := 50) d_Re_readJoined_50 rfl ?_
        refine ar_if_ne (pc := 52) 57 d_Re_readJoined_52 (by decide) ⟨by omega, by omega⟩ (fun h_52 => ?_) (fun h_52 => by exfalso; omega)
        refine ar_iload (pc := 57) d_Re_readJoined_57 rfl ?_
        refine ar_iconst (pc := 59) d_Re_readJoined_59 ?_
        refine ar_icmp_eq (pc := 60) 71 d_Re_readJoined_60 (by decide) ⟨by omega, by omega⟩ ⟨by omega, by omega⟩ (fun h_60 => by exfalso; omega) (fun h_60 => ?_)
        refine ar_aload_n (pc := 63) d_Re_readJoined_63 rfl ?_
        refine ar_iload (pc := 64) d_Re_readJoined_64 rfl ?_
        refine ar_iconst (pc := 66) d_Re_readJoined_66 ?_
        refine ar_ixor (pc := 67) d_Re_readJoined_67 ?_
        refine ar_mod (ixor_m1 ⟨by omega, by omega⟩) ?_
        refine ac_virt (pc := 68) (N := mt_Or_addItem) _ _ mv_Or_addItem ml_Re_91 ck_3 d_Re_readJoined_68 c68 (by first | rfl | exact sh_wheel (by omega) | exact sh_milk (by omega)) rfl rfl (Nat.le_of_ble_eq_true rfl) (Nat.le_of_eq (Nat.zero_add _)) (Nat.le_of_eq (Nat.zero_add _)) (fun r_68 G_68 h_68 => ?_)
        obtain ⟨rfl, q68⟩ := h_68
        rotate_left
        -- leaves: stop 71
        · exact ar_loc (k1 _ q68) ⟨rfl, rfl, rfl, rfl, rfl, trivial⟩
    · have fin := or_bad hM hb2
      clear ih hP hP1
      refine ar_istore (pc := 48) d_Re_readJoined_48 rfl (by decide) ?_
      refine ar_iload (pc := 50) d_Re_readJoined_50 rfl ?_
      refine ar_if_ne (pc := 52) 57 d_Re_readJoined_52 (by decide) ⟨by omega, by omega⟩ (fun h_52 => by exfalso; omega) (fun h_52 => ?_)
      refine ar_iconst (pc := 55) d_Re_readJoined_55 ?_
      refine ar_zret (pc := 56) d_Re_readJoined_56 rfl (by omega) ?_
      rotate_left
      -- leaves: ret 56
      · exact Or.inr ⟨rfl, k2, p2, fin, hq2⟩
theorem rt_E_b (X : gx_T) (d : Nat) {K P N : Nat → Int} {G : mm_T} {n dep : Nat} (hT : tt_T K P N n G) (hF : fx_R G) (hP : ct_A_b X (d + 1) K P N n G dep) : ct_E_b X (d + 2) K P N n G dep := by
  intro i v o G1 hi hv ho h
  have hl := lj_0_b X d hT hF hP (i := i) (v := v) (o := o) hi ho (n + 1 - i) 0 (-1) i v o G1 (by omega) hi (by omega) hv (by rw [show aj_v (-1) = [] from rfl]; simp) (Or.inl ⟨rfl, rfl, rfl, rfl⟩) h
  refine aw_enter pf_Re_readJoined (Nat.le_of_ble_eq_true rfl) ?_
  refine ar_iconst (pc := 0) d_Re_readJoined_0 ?_
  refine ar_istore (pc := 1) d_Re_readJoined_1 rfl (by decide) ?_
  refine ar_iconst (pc := 3) d_Re_readJoined_3 ?_
  refine ar_istore (pc := 4) d_Re_readJoined_4 rfl (by decide) ?_
  rotate_left
  -- leaves: stop 6
  · exact ar_loc hl ⟨rfl, rfl, rfl, rfl, rfl, rfl, trivial⟩
