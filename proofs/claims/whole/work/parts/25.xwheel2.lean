/-! ===== wheel of the class ===== -/
def xu_v (G : mm_T) (m1 l1 m2 l2 m3 l3 : Int) : mm_T := ms_I (ms_I (ms_I (ms_I (ms_I (ms_I G 40 0 m1) 40 1 m2) 40 2 m3) 41 0 l1) 41 1 l2) 41 2 l3
def xu_am (G : mm_T) (m1 l1 m2 l2 m3 l3 : Int) : Prop := (m1 = -1 ∨ (0 ≤ m1 ∧ m1 < mm_I G 0 13 ∧ 1 ≤ l1 ∧ l1 ≤ mm_I G (200 + m1.toNat) 1)) ∧ (m2 = -1 ∨ (m1 ≠ m2 ∧ 0 ≤ m2 ∧ m2 < mm_I G 0 13 ∧ 1 ≤ l2 ∧ l2 ≤ mm_I G (200 + m2.toNat) 1)) ∧ (m3 = -1 ∨ (m1 ≠ m3 ∧ m2 ≠ m3 ∧ 0 ≤ m3 ∧ m3 < mm_I G 0 13 ∧ 1 ≤ l3 ∧ l3 ≤ mm_I G (200 + m3.toNat) 1))
theorem xu_o (G : mm_T) (m1 l1 m2 l2 m3 l3 : Int) {a : Nat} (h1 : a ≠ 40) (h2 : a ≠ 41) : mm_I (xu_v G m1 l1 m2 l2 m3 l3) a = mm_I G a := by
  unfold xu_v
  rw [mi_o _ _ _ h2, mi_o _ _ _ h2, mi_o _ _ _ h2, mi_o _ _ _ h1, mi_o _ _ _ h1, mi_o _ _ _ h1]
theorem xu_eq (G : mm_T) (m1 l1 m2 l2 m3 l3 : Int) : (∀ u, u < 3 → mm_I (xu_v G m1 l1 m2 l2 m3 l3) 40 u = -1 ∨ ((∀ j, j < u → mm_I (xu_v G m1 l1 m2 l2 m3 l3) 40 j ≠ mm_I (xu_v G m1 l1 m2 l2 m3 l3) 40 u) ∧ mk_th (xu_v G m1 l1 m2 l2 m3 l3) u)) ↔ xu_am G m1 l1 m2 l2 m3 l3 := by
  have a0 : mm_I (xu_v G m1 l1 m2 l2 m3 l3) 40 0 = m1 := rfl
  have a1 : mm_I (xu_v G m1 l1 m2 l2 m3 l3) 40 1 = m2 := rfl
  have a2 : mm_I (xu_v G m1 l1 m2 l2 m3 l3) 40 2 = m3 := rfl
  have c0 : mm_I (xu_v G m1 l1 m2 l2 m3 l3) 41 0 = l1 := rfl
  have c1 : mm_I (xu_v G m1 l1 m2 l2 m3 l3) 41 1 = l2 := rfl
  have c2 : mm_I (xu_v G m1 l1 m2 l2 m3 l3) 41 2 = l3 := rfl
  have o : ∀ k, mm_I (xu_v G m1 l1 m2 l2 m3 l3) (200 + k) = mm_I G (200 + k) := fun k => xu_o _ _ _ _ _ _ _ (by omega) (by omega)
  have o0 : mm_I (xu_v G m1 l1 m2 l2 m3 l3) 0 13 = mm_I G 0 13 := rfl
  unfold xu_am
  constructor
  · intro h
    have h0 := h 0 (by omega)
    have h1 := h 1 (by omega)
    have h2 := h 2 (by omega)
    unfold mk_th at h0 h1 h2
    rw [a0, c0, o, o0] at h0
    rw [a1, c1, o, o0] at h1
    rw [a2, c2, o, o0] at h2
    refine ⟨h0.imp id And.right, h1.imp id (fun z => ⟨?_, z.2⟩), h2.imp id (fun z => ⟨?_, ?_, z.2⟩)⟩
    · have := z.1 0 (by omega); rw [a0] at this; exact this
    · have := z.1 0 (by omega); rw [a0] at this; exact this
    · have := z.1 1 (by omega); rw [a1] at this; exact this
  · rintro ⟨h0, h1, h2⟩ u hu
    match u, hu with
    | 0, _ =>
      unfold mk_th
      rw [a0, c0, o, o0]
      exact h0.imp id (fun z => ⟨fun j hj => by omega, z⟩)
    | 1, _ =>
      unfold mk_th
      rw [a1, c1, o, o0]
      refine h1.imp id (fun z => ⟨fun j hj => ?_, z.2⟩)
      match j, hj with
      | 0, _ => rw [a0]; exact z.1
    | 2, _ =>
      unfold mk_th
      rw [a2, c2, o, o0]
      refine h2.imp id (fun z => ⟨fun j hj => ?_, z.2.2⟩)
      match j, hj with
      | 0, _ => rw [a0]; exact z.1
      | 1, _ => rw [a1]; exact z.2.1
    | u + 3, h => exact absurd h (by omega)
theorem cm_K_wheel (X : gx_T) (d : Nat) (G : mm_T) {kd s m1 l1 m2 l2 m3 l3 : Int} {w c : Nat} (hF : fx_R G) (hW : fx_W G) (hA : w < 40 → mm_A G (300 + w) = false) (hwc : mm_I G 0 14 = w) (hw : w ≤ 40) (h0 : i3_in kd) (hs : i3_in s) (h1 : i3_in m1) (h2 : i3_in l1) (h3 : i3_in m2) (h4 : i3_in l2) (h5 : i3_in m3) (h6 : i3_in l3) (hc : mm_I G 12 4 = c) (hc2 : c ≤ 200) (hly : ∀ k, k < 24 → 0 ≤ mm_I G 4 k ∧ mm_I G 4 k ≤ 4) (hle : ∀ k, k < 30 → mm_I G (200 + k) 1 ≤ 1000) (hma : ∀ k, k < 30 → 0 ≤ mm_I G (200 + k) 2 ∧ mm_I G (200 + k) 2 ≤ 397) :
    aw_M X (d + 5) mt_K_wheel [av_r (some 0), av_i kd, av_i s, av_i m1, av_i l1, av_i m2, av_i l2, av_i m3, av_i l3] G 1 10 (fun r G' => (w < 40 ∧ c < 200 ∧ (0 ≤ kd ∧ kd ≤ 2) ∧ (0 ≤ s ∧ s ≤ 23 ∧ mm_I G 4 s.toNat < 4) ∧ m1 ≠ -1 ∧ xu_am G m1 l1 m2 l2 m3 l3) ∧ r = some (av_i w) ∧ G' = ms_I (ms_I (ms_R (xl_y (xg_v (xg_v (xg_v (xw_0 (xu_v G m1 l1 m2 l2 m3 l3) w kd (mm_I G 0 15)) w m1 l1) w m2 l2) w m3 l3) w s (mm_I G 0 15) c) 6 w (some (300 + w))) 0 14 (w + 1)) 24 11 1 ∨ ¬ (w < 40 ∧ c < 200 ∧ (0 ≤ kd ∧ kd ≤ 2) ∧ (0 ≤ s ∧ s ≤ 23 ∧ mm_I G 4 s.toNat < 4) ∧ m1 ≠ -1 ∧ xu_am G m1 l1 m2 l2 m3 l3) ∧ r = some (av_i (-1)) ∧ G' = xu_v G m1 l1 m2 l2 m3 l3) := by
  have hF' : fx_R (xu_v G m1 l1 m2 l2 m3 l3) := hF
  have hW' : fx_W (xu_v G m1 l1 m2 l2 m3 l3) := hW
  have hW1 := hW.1
  have o : ∀ k, mm_I (xu_v G m1 l1 m2 l2 m3 l3) (200 + k) = mm_I G (200 + k) := fun k => xu_o _ _ _ _ _ _ _ (by omega) (by omega)
  have am := cm_K_areMilksThere X (d + 1) (xu_v G m1 l1 m2 l2 m3 l3) hF' hW'
  rw [bv_e (xu_eq G m1 l1 m2 l2 m3 l3)] at am
  have mk : w < 40 → c < 200 → (0 ≤ kd ∧ kd ≤ 2) → (0 ≤ s ∧ s ≤ 23 ∧ mm_I G 4 s.toNat < 4) → xu_am G m1 l1 m2 l2 m3 l3 → aw_M X (d + 4) mt_K_makeWheel [av_r (some 0), av_i kd, av_i s] (xu_v G m1 l1 m2 l2 m3 l3) 1 10 (fun r G' => r = some (av_i w) ∧ G' = ms_I (ms_I (ms_R (xl_y (xg_v (xg_v (xg_v (xw_0 (xu_v G m1 l1 m2 l2 m3 l3) w kd (mm_I G 0 15)) w m1 l1) w m2 l2) w m3 l3) w s (mm_I G 0 15) c) 6 w (some (300 + w))) 0 14 (w + 1)) 24 11 1) := by
    intro a1 a2 a3 a4 a5
    obtain ⟨b1, b2, b3⟩ := a5
    have hl := hly s.toNat (by omega)
    exact cm_K_makeWheel X d (xu_v G m1 l1 m2 l2 m3 l3) (kd := kd) (s := s) (m1 := m1) (l1 := l1) (m2 := m2) (l2 := l2) (m3 := m3) (l3 := l3) (w := w) (c := c) hF' hW' (hA a1) hwc a1 a3 ⟨a4.1, a4.2.1⟩ hc a2 ⟨hl.1, a4.2.2⟩ rfl rfl rfl rfl rfl rfl (by rw [o]; exact b1) (by rw [o]; exact b2.imp id And.right) (by rw [o]; exact b3.imp id (fun z => z.2.2)) (b2.elim Or.inr (fun z => Or.inl (Ne.symm z.1))) (b3.elim Or.inr (fun z => Or.inl (Ne.symm z.1))) (b3.elim Or.inr (fun z => Or.inl (Ne.symm z.2.1))) (fun k hk => by rw [o]; exact hle k hk) (fun k hk => by rw [o]; exact hma k hk)
  clear o hle hma
  generalize hP : xu_am G m1 l1 m2 l2 m3 l3 = P at am mk ⊢
  have r1 := bv_r P
  have hU : ms_I (ms_I (ms_I (ms_I (ms_I (ms_I G 40 0 m1) 40 1 m2) 40 2 m3) 41 0 l1) 41 1 l2) 41 2 l3 = xu_v G m1 l1 m2 l2 m3 l3 := rfl
  have e12 : mm_I (xu_v G m1 l1 m2 l2 m3 l3) 12 4 = (c : Int) := hc
  have e4 : mm_I (xu_v G m1 l1 m2 l2 m3 l3) 4 s.toNat = mm_I G 4 s.toNat := rfl
  refine aw_enter pf_K_wheel (Nat.le_of_ble_eq_true rfl) ?_
  refine ar_aload_n (pc := 0) d_K_wheel_0 rfl ?_
  refine ar_getR (pc := 1) gf_K_70 d_K_wheel_1 (by first | rfl | exact sh_wheel (by omega) | exact sh_milk (by omega)) (hF _ _ _ rfl) ?_
  refine ar_iconst (pc := 4) d_K_wheel_4 ?_
  refine ar_iload_n (pc := 5) d_K_wheel_5 rfl ?_
  refine ar_iast (pc := 6) d_K_wheel_6 rfl (0) (by omega) (by omega) ⟨by omega, by omega⟩ ?_
  refine ar_aload_n (pc := 7) d_K_wheel_7 rfl ?_
  refine ar_getR (pc := 8) gf_K_70 d_K_wheel_8 (by first | rfl | exact sh_wheel (by omega) | exact sh_milk (by omega)) (hF _ _ _ rfl) ?_
  refine ar_iconst (pc := 11) d_K_wheel_11 ?_
  refine ar_iload (pc := 12) d_K_wheel_12 rfl ?_
  refine ar_iast (pc := 14) d_K_wheel_14 rfl (1) (by omega) (by omega) ⟨by omega, by omega⟩ ?_
  refine ar_aload_n (pc := 15) d_K_wheel_15 rfl ?_
  refine ar_getR (pc := 16) gf_K_70 d_K_wheel_16 (by first | rfl | exact sh_wheel (by omega) | exact sh_milk (by omega)) (hF _ _ _ rfl) ?_
  refine ar_iconst (pc := 19) d_K_wheel_19 ?_
  refine ar_iload (pc := 20) d_K_wheel_20 rfl ?_
  refine ar_iast (pc := 22) d_K_wheel_22 rfl (2) (by omega) (by omega) ⟨by omega, by omega⟩ ?_
  refine ar_aload_n (pc := 23) d_K_wheel_23 rfl ?_
  refine ar_getR (pc := 24) gf_K_74 d_K_wheel_24 (by first | rfl | exact sh_wheel (by omega) | exact sh_milk (by omega)) (hF _ _ _ rfl) ?_
  refine ar_iconst (pc := 27) d_K_wheel_27 ?_
  refine ar_iload (pc := 28) d_K_wheel_28 rfl ?_
  refine ar_iast (pc := 30) d_K_wheel_30 rfl (0) (by omega) (by omega) ⟨by omega, by omega⟩ ?_
  refine ar_aload_n (pc := 31) d_K_wheel_31 rfl ?_
  refine ar_getR (pc := 32) gf_K_74 d_K_wheel_32 (by first | rfl | exact sh_wheel (by omega) | exact sh_milk (by omega)) (hF _ _ _ rfl) ?_
  refine ar_iconst (pc := 35) d_K_wheel_35 ?_
  refine ar_iload (pc := 36) d_K_wheel_36 rfl ?_
  refine ar_iast (pc := 38) d_K_wheel_38 rfl (1) (by omega) (by omega) ⟨by omega, by omega⟩ ?_
  refine ar_aload_n (pc := 39) d_K_wheel_39 rfl ?_
  refine ar_getR (pc := 40) gf_K_74 d_K_wheel_40 (by first | rfl | exact sh_wheel (by omega) | exact sh_milk (by omega)) (hF _ _ _ rfl) ?_
  refine ar_iconst (pc := 43) d_K_wheel_43 ?_
  refine ar_iload (pc := 44) d_K_wheel_44 rfl ?_
  refine ar_iast (pc := 46) d_K_wheel_46 rfl (2) (by omega) (by omega) ⟨by omega, by omega⟩ ?_
  rw [hU]
  refine ar_iload_n (pc := 47) d_K_wheel_47 rfl ?_
  refine ar_iconst (pc := 48) d_K_wheel_48 ?_
  refine ac_stat (pc := 49) (N := mt_K_isUpTo) _ _ sv_K_isUpTo ml_K_87 d_K_wheel_49 (cm_K_isUpTo _ _ _ ⟨by omega, by omega⟩ ⟨by omega, by omega⟩) rfl rfl (Nat.le_of_ble_eq_true rfl) (Nat.le_of_eq (Nat.zero_add _)) (Nat.le_of_eq (Nat.zero_add _)) (fun r_49 G_49 h_49 => ?_)
  obtain ⟨rfl, e_49⟩ := h_49
  subst G_49
  refine ar_if_eq (pc := 52) 82 d_K_wheel_52 (by decide) ⟨by omega, by omega⟩ (fun h_52 => ?_) (fun h_52 => ?_)
  refine ar_iconst (pc := 82) d_K_wheel_82 ?_
  refine ar_istore (pc := 83) d_K_wheel_83 rfl (by decide) ?_
  refine ar_iload (pc := 85) d_K_wheel_85 rfl ?_
  refine ar_if_eq (pc := 87) 110 d_K_wheel_87 (by decide) ⟨by omega, by omega⟩ (fun h_87 => ?_) (fun h_87 => by exfalso; omega)
  refine ar_iconst (pc := 110) d_K_wheel_110 ?_
  refine ar_iret (pc := 111) d_K_wheel_111 rfl ?_
  rotate_left
  refine ar_aload_n (pc := 55) d_K_wheel_55 rfl ?_
  refine ar_getR (pc := 56) gf_K_10 d_K_wheel_56 (by first | rfl | exact sh_wheel (by omega) | exact sh_milk (by omega)) (hF _ _ _ rfl) ?_
  refine ar_iload_n (pc := 59) d_K_wheel_59 rfl ?_
  refine ac_virt (pc := 60) (N := mt_Sh_hasRoom) _ _ mv_Sh_hasRoom ml_K_107 ck_6 d_K_wheel_60 (cm_Sh_hasRoom _ _ _ (by exact hF) hs (by exact hly)) (by first | rfl | exact sh_wheel (by omega) | exact sh_milk (by omega)) rfl rfl (Nat.le_of_ble_eq_true rfl) (Nat.le_of_eq (Nat.zero_add _)) (Nat.le_of_eq (Nat.zero_add _)) (fun r_60 G_60 h_60 => ?_)
  obtain ⟨rfl, e_60⟩ := h_60
  subst G_60
  refine ar_if_eq (pc := 63) 82 d_K_wheel_63 (by decide) ⟨by omega, by omega⟩ (fun h_63 => ?_) (fun h_63 => ?_)
  refine ar_iconst (pc := 82) d_K_wheel_82 ?_
  refine ar_istore (pc := 83) d_K_wheel_83 rfl (by decide) ?_
  refine ar_iload (pc := 85) d_K_wheel_85 rfl ?_
  refine ar_if_eq (pc := 87) 110 d_K_wheel_87 (by decide) ⟨by omega, by omega⟩ (fun h_87 => ?_) (fun h_87 => by exfalso; omega)
  refine ar_iconst (pc := 110) d_K_wheel_110 ?_
  refine ar_iret (pc := 111) d_K_wheel_111 rfl ?_
  rotate_left
  refine ar_iload_n (pc := 66) d_K_wheel_66 rfl ?_
  refine ar_iconst (pc := 67) d_K_wheel_67 ?_
  refine ar_icmp_eq (pc := 68) 82 d_K_wheel_68 (by decide) ⟨by omega, by omega⟩ ⟨by omega, by omega⟩ (fun h_68 => ?_) (fun h_68 => ?_)
  refine ar_iconst (pc := 82) d_K_wheel_82 ?_
  refine ar_istore (pc := 83) d_K_wheel_83 rfl (by decide) ?_
  refine ar_iload (pc := 85) d_K_wheel_85 rfl ?_
  refine ar_if_eq (pc := 87) 110 d_K_wheel_87 (by decide) ⟨by omega, by omega⟩ (fun h_87 => ?_) (fun h_87 => by exfalso; omega)
  refine ar_iconst (pc := 110) d_K_wheel_110 ?_
  refine ar_iret (pc := 111) d_K_wheel_111 rfl ?_
  rotate_left
  refine ar_aload_n (pc := 71) d_K_wheel_71 rfl ?_
  refine ac_virt (pc := 72) (N := mt_K_areMilksThere) _ _ mv_K_areMilksThere ml_K_111 ck_11 d_K_wheel_72 am (by first | rfl | exact sh_wheel (by omega) | exact sh_milk (by omega)) rfl rfl (Nat.le_of_ble_eq_true rfl) (Nat.le_of_eq (Nat.zero_add _)) (Nat.le_of_eq (Nat.zero_add _)) (fun r_72 G_72 h_72 => ?_)
  obtain ⟨rfl, e_72⟩ := h_72
  subst G_72
  refine ar_if_eq (pc := 75) 82 d_K_wheel_75 (by decide) ⟨by omega, by omega⟩ (fun h_75 => ?_) (fun h_75 => ?_)
  refine ar_iconst (pc := 82) d_K_wheel_82 ?_
  refine ar_istore (pc := 83) d_K_wheel_83 rfl (by decide) ?_
  refine ar_iload (pc := 85) d_K_wheel_85 rfl ?_
  refine ar_if_eq (pc := 87) 110 d_K_wheel_87 (by decide) ⟨by omega, by omega⟩ (fun h_87 => ?_) (fun h_87 => by exfalso; omega)
  refine ar_iconst (pc := 110) d_K_wheel_110 ?_
  refine ar_iret (pc := 111) d_K_wheel_111 rfl ?_
  rotate_left
  refine ar_iconst (pc := 78) d_K_wheel_78 ?_
  refine ar_goto (pc := 79) 83 d_K_wheel_79 (by decide) ?_
  refine ar_istore (pc := 83) d_K_wheel_83 rfl (by decide) ?_
  refine ar_iload (pc := 85) d_K_wheel_85 rfl ?_
  refine ar_if_eq (pc := 87) 110 d_K_wheel_87 (by decide) ⟨by omega, by omega⟩ (fun h_87 => by exfalso; omega) (fun h_87 => ?_)
  refine ar_aload_n (pc := 90) d_K_wheel_90 rfl ?_
  refine ar_getIv (pc := 91) gf_K_115 d_K_wheel_91 (by first | rfl | exact sh_wheel (by omega) | exact sh_milk (by omega)) hwc (fun r_91 => ?_)
  refine ar_bipush (pc := 94) d_K_wheel_94 (by decide) ?_
  refine ar_icmp_ge (pc := 96) 110 d_K_wheel_96 (by decide) ⟨by omega, by omega⟩ ⟨by omega, by omega⟩ (fun h_96 => ?_) (fun h_96 => ?_)
  refine ar_iconst (pc := 110) d_K_wheel_110 ?_
  refine ar_iret (pc := 111) d_K_wheel_111 rfl ?_
  rotate_left
  refine ar_aload_n (pc := 99) d_K_wheel_99 rfl ?_
  refine ar_getR (pc := 100) gf_K_38 d_K_wheel_100 (by first | rfl | exact sh_wheel (by omega) | exact sh_milk (by omega)) (hF _ _ _ rfl) ?_
  refine ar_iconst (pc := 103) d_K_wheel_103 ?_
  refine ac_virt (pc := 104) (N := mt_St_haveRoomFor) _ _ mv_St_haveRoomFor ml_K_118 ck_7 d_K_wheel_104 (cm_St_haveRoomFor _ _ _ ⟨by omega, by omega⟩ (by rw [show mm_I (xu_v G m1 l1 m2 l2 m3 l3) 12 4 = (c : Int) from hc]; omega)) (by first | rfl | exact sh_wheel (by omega) | exact sh_milk (by omega)) rfl rfl (Nat.le_of_ble_eq_true rfl) (Nat.le_of_eq (Nat.zero_add _)) (Nat.le_of_eq (Nat.zero_add _)) (fun r_104 G_104 h_104 => ?_)
  obtain ⟨rfl, e_104⟩ := h_104
  subst G_104
  refine ar_if_ne (pc := 107) 112 d_K_wheel_107 (by decide) ⟨by omega, by omega⟩ (fun h_107 => ?_) (fun h_107 => ?_)
  refine ar_aload_n (pc := 112) d_K_wheel_112 rfl ?_
  refine ar_iload_n (pc := 113) d_K_wheel_113 rfl ?_
  refine ar_iload_n (pc := 114) d_K_wheel_114 rfl ?_
  refine ac_virt (pc := 115) (N := mt_K_makeWheel) 0 0 mv_K_makeWheel ml_K_121 ck_11 d_K_wheel_115 (mk (by omega) (by omega) (by omega) (by omega) (bv_n h_75)) (by first | rfl | exact sh_wheel (by omega) | exact sh_milk (by omega)) rfl rfl (Nat.le_of_ble_eq_true rfl) (by omega) (by omega) (fun r_115 G_115 h_115 => ?_)
  obtain ⟨rfl, e_115⟩ := h_115
  subst G_115
  refine ar_iret (pc := 118) d_K_wheel_118 rfl ?_
  rotate_left
  refine ar_iconst (pc := 110) d_K_wheel_110 ?_
  refine ar_iret (pc := 111) d_K_wheel_111 rfl ?_
  rotate_left
  -- leaves: ret 111, ret 111, ret 111, ret 111, ret 111, ret 118, ret 111
  all_goals first | (refine Or.inr ⟨fun hC => ?_, rfl, rfl⟩; obtain ⟨c1, c2, c3, c4, c5, c6⟩ := hC; first | omega | (rw [bv_t c6] at *; omega)) | skip
  · exact Or.inl ⟨⟨by omega, by omega, by omega, by omega, by omega, bv_n h_75⟩, rfl, rfl⟩
