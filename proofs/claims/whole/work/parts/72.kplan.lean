/-! ===== plan of the class ===== -/
def dg_v : Nat → Int
  | 0 => 63403380965376
  | k + 1 => dg_v k / 24
theorem dg_r : ∀ k, 0 ≤ dg_v k ∧ dg_v k ≤ 63403380965376 := by
  intro k
  induction k with
  | zero => exact ⟨by decide, by decide⟩
  | succ k ih => rw [dg_v]; omega
theorem dg_s {k s : Nat} (hs : s < 24) : 0 ≤ (s : Int) * dg_v (k + 1) ∧ (s : Int) * dg_v (k + 1) ≤ 60761573425152 := by
  have h := dg_r k
  have h1 : 0 ≤ dg_v (k + 1) ∧ dg_v (k + 1) ≤ 2641807540224 := by rw [dg_v]; omega
  constructor
  · exact Int.mul_nonneg (by omega) h1.1
  · have := Int.mul_le_mul (a := (s : Int)) (b := dg_v (k + 1)) (c := 23) (d := 2641807540224) (by omega) h1.2 h1.1 (by omega)
    omega
/-- a price -/
def pz_v (h k s : Nat) : Int := wy_v h s * 63403380965376 + (s : Int) * dg_v (k + 1)
theorem pz_r {h k s : Nat} (hh : h < 24) (hs : s < 24) : 0 ≤ pz_v h k s ∧ pz_v h k s ≤ 4184623143714816 := by
  have := wy_r hh hs
  have := dg_s (k := k) hs
  unfold pz_v
  omega
theorem lp_allow (X : gx_T) (d : Nat) {G : mm_T} {c s h : Nat} (hF : fx_R G) (hc10 : c < 10) (hs : s < 24) (hh : mm_I G 26 c = (h : Nat)) (hh2 : h < 24) : ∀ m i, i + m = c + 1 → aw_W X mt_Pl_allowLast (d + 3) 28 [(0, some (av_r (some 24))), (1, some (av_i (s : Int))), (2, some (av_i (c : Int))), (3, some (av_l (dg_v i))), (5, some (av_i (i : Int)))] [] G 0 0 (fun r G' => r = none ∧ G' = ms_J G 28 (24 * c + s) (pz_v h c s)) := by
  intro m
  induction m with
  | zero =>
    intro i hi
    have hi : i = c + 1 := by omega
    subst hi
    have c63 := cm_Pl_way X d G (h := h) (s := s) hh2 hs
    have wr := wy_r hh2 hs
    have pr := pz_r (k := c) hh2 hs
    have pr' : j6_in (wy_v h s * 63403380965376 + (s : Int) * dg_v (c + 1)) := ⟨by unfold pz_v at pr; omega, by unfold pz_v at pr; omega⟩
    refine ar_iload (pc := 28) d_Pl_allowLast_28 rfl ?_
    refine ar_iload_n (pc := 30) d_Pl_allowLast_30 rfl ?_
    refine ar_icmp_gt (pc := 31) 46 d_Pl_allowLast_31 (by decide) ⟨by omega, by omega⟩ ⟨by omega, by omega⟩ (fun h_31 => ?_) (fun h_31 => by exfalso; omega)
    refine ar_aload_n (pc := 46) d_Pl_allowLast_46 rfl ?_
    refine ar_getR (pc := 47) gf_Pl_21 d_Pl_allowLast_47 (by first | rfl | exact sh_wheel (by omega) | exact sh_milk (by omega)) (hF _ _ _ rfl) ?_
    refine ar_iload_n (pc := 50) d_Pl_allowLast_50 rfl ?_
    refine ar_bipush (pc := 51) d_Pl_allowLast_51 (by decide) ?_
    refine ar_imul (pc := 53) d_Pl_allowLast_53 ?_
    refine ar_iload_n (pc := 54) d_Pl_allowLast_54 rfl ?_
    refine ar_iadd (pc := 55) d_Pl_allowLast_55 ?_
    refine ar_aload_n (pc := 56) d_Pl_allowLast_56 rfl ?_
    refine ar_getR (pc := 57) gf_Pl_15 d_Pl_allowLast_57 (by first | rfl | exact sh_wheel (by omega) | exact sh_milk (by omega)) (hF _ _ _ rfl) ?_
    refine ar_iload_n (pc := 60) d_Pl_allowLast_60 rfl ?_
    refine ar_ialdv (pc := 61) d_Pl_allowLast_61 rfl (c) (by omega) (by omega) hh (fun r_61 => ?_)
    refine ar_iload_n (pc := 62) d_Pl_allowLast_62 rfl ?_
    refine ac_stat (pc := 63) (N := mt_Pl_wayBetween) _ _ sv_Pl_wayBetween ml_Pl_67 d_Pl_allowLast_63 c63 rfl rfl (Nat.le_of_ble_eq_true rfl) (Nat.le_of_eq (Nat.zero_add _)) (Nat.le_of_eq (Nat.zero_add _)) (fun r_63 G_63 h_63 => ?_)
    obtain ⟨rfl, e_63⟩ := h_63
    subst G_63
    refine ar_i2l (pc := 66) d_Pl_allowLast_66 ⟨by omega, by omega⟩ ?_
    refine ar_ldc2 (pc := 67) (63403380965376) kj_Pl_63 d_Pl_allowLast_67 (by decide) ?_
    refine ar_lmul (pc := 70) d_Pl_allowLast_70 ?_
    refine ar_iload_n (pc := 71) d_Pl_allowLast_71 rfl ?_
    refine ar_i2l (pc := 72) d_Pl_allowLast_72 ⟨by omega, by omega⟩ ?_
    refine ar_lload_n (pc := 73) d_Pl_allowLast_73 rfl ?_
    refine ar_lmul (pc := 74) d_Pl_allowLast_74 ?_
    refine ar_ladd (pc := 75) d_Pl_allowLast_75 ?_
    refine ar_last (pc := 76) d_Pl_allowLast_76 rfl (24*c+s) (by omega) (by omega) pr' ?_
    refine ar_ret (pc := 77) d_Pl_allowLast_77 rfl ?_
    rotate_left
    -- leaves: ret 77
    · exact ⟨rfl, rfl⟩
  | succ m ih =>
    intro i hi
    have i1 := ih (i + 1) (by omega)
    have dr := dg_r i
    rw [dg_v] at i1
    clear ih
    refine ar_iload (pc := 28) d_Pl_allowLast_28 rfl ?_
    refine ar_iload_n (pc := 30) d_Pl_allowLast_30 rfl ?_
    refine ar_icmp_gt (pc := 31) 46 d_Pl_allowLast_31 (by decide) ⟨by omega, by omega⟩ ⟨by omega, by omega⟩ (fun h_31 => by exfalso; omega) (fun h_31 => ?_)
    refine ar_lload_n (pc := 34) d_Pl_allowLast_34 rfl ?_
    refine ar_ldc2 (pc := 35) (24) kj_Pl_65 d_Pl_allowLast_35 (by decide) ?_
    refine ar_ldivp (pc := 38) d_Pl_allowLast_38 (by omega) (by omega) (by omega) (by omega) ?_
    refine ar_lstore_n (pc := 39) d_Pl_allowLast_39 rfl (by decide) ?_
    refine ar_iinc (pc := 40) d_Pl_allowLast_40 rfl rfl (by decide) ?_
    refine ar_goto (pc := 43) 28 d_Pl_allowLast_43 (by decide) ?_
    rotate_left
    -- leaves: stop 28
    · exact ar_loc i1 ⟨rfl, rfl, rfl, rfl, li_i rfl (by omega), trivial⟩
theorem cm_Pl_allowLast (X : gx_T) (d : Nat) {G : mm_T} {c s h : Nat} (hF : fx_R G) (hc : mm_I G 24 8 = (c : Int) + 1) (hc10 : c < 10) (hs : s < 24) (hh : mm_I G 26 c = (h : Nat)) (hh2 : h < 24) : aw_M X (d + 3) mt_Pl_allowLast [av_r (some 24), av_i (s : Int)] G 0 0 (fun r G' => r = none ∧ G' = ms_J G 28 (24 * c + s) (pz_v h c s)) := by
  have lp := lp_allow X d hF hc10 hs hh hh2 (c + 1) 0 (by omega)
  have cu := cm_K_isUpTo X (d + 1) G (v := (s : Int)) (m := 23) ⟨by omega, by omega⟩ ⟨by omega, by omega⟩
  rw [if_pos (by omega)] at cu
  refine aw_enter pf_Pl_allowLast (Nat.le_of_ble_eq_true rfl) ?_
  refine ar_aload_n (pc := 0) d_Pl_allowLast_0 rfl ?_
  refine ar_getIv (pc := 1) gf_Pl_37 d_Pl_allowLast_1 (by first | rfl | exact sh_wheel (by omega) | exact sh_milk (by omega)) hc (fun r_1 => ?_)
  refine ar_iconst (pc := 4) d_Pl_allowLast_4 ?_
  refine ar_isub (pc := 5) d_Pl_allowLast_5 ?_
  refine ar_istore_n (pc := 6) d_Pl_allowLast_6 rfl (by decide) ?_
  refine ar_iload_n (pc := 7) d_Pl_allowLast_7 rfl ?_
  refine ar_if_lt (pc := 8) 20 d_Pl_allowLast_8 (by decide) ⟨by omega, by omega⟩ (fun h_8 => by exfalso; omega) (fun h_8 => ?_)
  refine ar_iload_n (pc := 11) d_Pl_allowLast_11 rfl ?_
  refine ar_bipush (pc := 12) d_Pl_allowLast_12 (by decide) ?_
  refine ac_statN (pc := 14) (N := mt_K_isUpTo) _ _ sv_K_isUpTo (List.mem_of_getElem? (i := 11) rfl) d_Pl_allowLast_14 cu rfl rfl (Nat.le_of_ble_eq_true rfl) (Nat.le_of_eq (Nat.zero_add _)) (Nat.le_of_eq (Nat.zero_add _)) (fun r_14 G_14 h_14 => ?_)
  obtain ⟨rfl, e_14⟩ := h_14
  subst G_14
  refine ar_if_ne (pc := 17) 21 d_Pl_allowLast_17 (by decide) ⟨by omega, by omega⟩ (fun h_17 => ?_) (fun h_17 => by exfalso; omega)
  refine ar_ldc2 (pc := 21) (63403380965376) kj_Pl_63 d_Pl_allowLast_21 (by decide) ?_
  refine ar_lstore_n (pc := 24) d_Pl_allowLast_24 rfl (by decide) ?_
  refine ar_iconst (pc := 25) d_Pl_allowLast_25 ?_
  refine ar_istore (pc := 26) d_Pl_allowLast_26 rfl (by decide) ?_
  rotate_left
  -- leaves: stop 28
  · exact ar_loc lp ⟨rfl, rfl, li_i rfl (by omega), rfl, rfl, trivial⟩
/-- the planner's rows while they are asked for -/
def bp_F (G G1 : mm_T) (c : Nat) (wl hm : Nat → Nat) (p : Nat → Nat → Int) (r : Nat → Int) : Prop := (mm_R G1 = mm_R G ∧ mm_A G1 = mm_A G) ∧ (∀ b j, ¬ (b = 24 ∧ j = 8) → b ≠ 25 → b ≠ 26 → b ≠ 29 → mm_I G1 b j = mm_I G b j) ∧ (∀ b j, b ≠ 28 → mm_J G1 b j = mm_J G b j) ∧ mm_I G1 24 8 = c ∧ (∀ k, k < c → mm_I G1 25 k = (wl k : Nat) ∧ mm_I G1 26 k = (hm k : Nat)) ∧ (∀ s, s < 24 → mm_I G1 29 s = r s) ∧ ∀ k s, k < 10 → s < 24 → mm_J G1 28 (24 * k + s) = p k s
theorem cm_Pl_ask (X : gx_T) (d : Nat) {G G1 : mm_T} {c w h : Nat} {wl hm : Nat → Nat} {p : Nat → Nat → Int} {r : Nat → Int} (hF : fx_R G) (hb : bp_F G G1 c wl hm p r) (hc10 : c < 10) (hw : w < 40) (hh : h < 24) (hr : 0 ≤ r h ∧ r h ≤ 1000) : aw_M X (d + 2) mt_Pl_ask [av_r (some 24), av_i (w : Int), av_i (h : Int)] G1 0 0 (fun rr G' => rr = none ∧ bp_F G G' (c + 1) (upn wl c w) (upn hm c h) p (upp r h (r h + 1))) := by
  obtain ⟨h1, h2, h3, h4, h5, h6, h7⟩ := hb
  have hF1 : fx_R G1 := fun x k b q => by rw [h1.1]; exact hF x k b q
  have c1 := cm_Pl_isFull X d G1
  rw [h4, if_neg (by omega)] at c1
  have cu := cm_K_isUpTo X d G1 (v := (h : Int)) (m := 23) ⟨by omega, by omega⟩ ⟨by omega, by omega⟩
  rw [if_pos (by omega)] at cu
  have e29 := h6 h hh
  have fin : bp_F G (ms_I (ms_I (ms_I (ms_I G1 25 c (w : Int)) 26 c (h : Int)) 29 h (r h + 1)) 24 8 ((c : Int) + 1)) (c + 1) (upn wl c w) (upn hm c h) p (upp r h (r h + 1)) := by
    refine ⟨h1, fun b j b1 b2 b3 b4 => ?_, h3, ?_, fun k hk => ?_, fun s hs => ?_, h7⟩
    · rw [mi_n (by omega), mi_n (by omega), mi_n (by omega), mi_n (by omega)]; exact h2 b j b1 b2 b3 b4
    · rw [mi_s]; omega
    · unfold upn
      by_cases e : k = c
      · rw [if_pos e, if_pos e, e]
        refine ⟨?_, ?_⟩
        · rw [mi_n (by omega), mi_n (by omega), mi_n (by omega), mi_s]
        · rw [mi_n (by omega), mi_n (by omega), mi_s]
      · rw [if_neg e, if_neg e]
        have := h5 k (by omega)
        refine ⟨?_, ?_⟩
        · rw [mi_n (by omega), mi_n (by omega), mi_n (by omega), mi_n (by omega)]; exact this.1
        · rw [mi_n (by omega), mi_n (by omega), mi_n (by omega), mi_n (by omega)]; exact this.2
    · unfold upp
      by_cases e : s = h
      · rw [if_pos e, e, mi_n (by omega), mi_s]
      · rw [if_neg e, mi_n (by omega), mi_n (by omega), mi_n (by omega), mi_n (by omega)]; exact h6 s hs
  have hF := hF1
  clear h2 h3 h5 h6 h7
  refine aw_enter pf_Pl_ask (Nat.le_of_ble_eq_true rfl) ?_
  refine ar_aload_n (pc := 0) d_Pl_ask_0 rfl ?_
  refine ac_virt (pc := 1) (N := mt_Pl_isFull) _ _ mv_Pl_isFull ml_Pl_55 ck_4 d_Pl_ask_1 c1 (by first | rfl | exact sh_wheel (by omega) | exact sh_milk (by omega)) rfl rfl (Nat.le_of_ble_eq_true rfl) (Nat.le_of_eq (Nat.zero_add _)) (Nat.le_of_eq (Nat.zero_add _)) (fun r_1 G_1 h_1 => ?_)
  obtain ⟨rfl, e_1⟩ := h_1
  subst G_1
  refine ar_if_ne (pc := 4) 16 d_Pl_ask_4 (by decide) ⟨by omega, by omega⟩ (fun h_4 => by exfalso; omega) (fun h_4 => ?_)
  refine ar_iload_n (pc := 7) d_Pl_ask_7 rfl ?_
  refine ar_bipush (pc := 8) d_Pl_ask_8 (by decide) ?_
  refine ac_statN (pc := 10) (N := mt_K_isUpTo) _ _ sv_K_isUpTo (List.mem_of_getElem? (i := 11) rfl) d_Pl_ask_10 cu rfl rfl (Nat.le_of_ble_eq_true rfl) (Nat.le_of_eq (Nat.zero_add _)) (Nat.le_of_eq (Nat.zero_add _)) (fun r_10 G_10 h_10 => ?_)
  obtain ⟨rfl, e_10⟩ := h_10
  subst G_10
  refine ar_if_ne (pc := 13) 17 d_Pl_ask_13 (by decide) ⟨by omega, by omega⟩ (fun h_13 => ?_) (fun h_13 => by exfalso; omega)
  refine ar_aload_n (pc := 17) d_Pl_ask_17 rfl ?_
  refine ar_getR (pc := 18) gf_Pl_9 d_Pl_ask_18 (by first | rfl | exact sh_wheel (by omega) | exact sh_milk (by omega)) (hF _ _ _ rfl) ?_
  refine ar_aload_n (pc := 21) d_Pl_ask_21 rfl ?_
  refine ar_getIv (pc := 22) gf_Pl_37 d_Pl_ask_22 (by first | rfl | exact sh_wheel (by omega) | exact sh_milk (by omega)) h4 (fun r_22 => ?_)
  refine ar_iload_n (pc := 25) d_Pl_ask_25 rfl ?_
  refine ar_iast (pc := 26) d_Pl_ask_26 rfl (c) (by omega) (by omega) ⟨by omega, by omega⟩ ?_
  refine ar_aload_n (pc := 27) d_Pl_ask_27 rfl ?_
  refine ar_getR (pc := 28) gf_Pl_15 d_Pl_ask_28 (by first | rfl | exact sh_wheel (by omega) | exact sh_milk (by omega)) (hF _ _ _ rfl) ?_
  refine ar_aload_n (pc := 31) d_Pl_ask_31 rfl ?_
  refine ar_getIv (pc := 32) gf_Pl_37 d_Pl_ask_32 (by first | rfl | exact sh_wheel (by omega) | exact sh_milk (by omega)) (show _ = (c : Int) from h4) (fun r_32 => ?_)
  refine ar_iload_n (pc := 35) d_Pl_ask_35 rfl ?_
  refine ar_iast (pc := 36) d_Pl_ask_36 rfl (c) (by omega) (by omega) ⟨by omega, by omega⟩ ?_
  refine ar_aload_n (pc := 37) d_Pl_ask_37 rfl ?_
  refine ar_getR (pc := 38) gf_Pl_25 d_Pl_ask_38 (by first | rfl | exact sh_wheel (by omega) | exact sh_milk (by omega)) (hF _ _ _ rfl) ?_
  refine ar_iload_n (pc := 41) d_Pl_ask_41 rfl ?_
  refine ar_dup2 (pc := 42) d_Pl_ask_42 rfl rfl ?_
  refine ar_ialdv (pc := 43) d_Pl_ask_43 rfl (h) (by omega) (by omega) (show _ = r h from e29) (fun r_43 => ?_)
  refine ar_iconst (pc := 44) d_Pl_ask_44 ?_
  refine ar_iadd (pc := 45) d_Pl_ask_45 ?_
  refine ar_iast (pc := 46) d_Pl_ask_46 rfl (h) (by omega) (by omega) ⟨by omega, by omega⟩ ?_
  refine ar_aload_n (pc := 47) d_Pl_ask_47 rfl ?_
  refine ar_dup (pc := 48) d_Pl_ask_48 rfl ?_
  refine ar_getIv (pc := 49) gf_Pl_37 d_Pl_ask_49 (by first | rfl | exact sh_wheel (by omega) | exact sh_milk (by omega)) (show _ = (c : Int) from h4) (fun r_49 => ?_)
  refine ar_iconst (pc := 52) d_Pl_ask_52 ?_
  refine ar_iadd (pc := 53) d_Pl_ask_53 ?_
  refine ar_putI (pc := 54) gf_Pl_37 d_Pl_ask_54 rfl (by first | rfl | exact sh_wheel (by omega) | exact sh_milk (by omega)) ⟨by omega, by omega⟩ ?_
  refine ar_ret (pc := 57) d_Pl_ask_57 rfl ?_
  rotate_left
  -- leaves: ret 57
  · exact ⟨rfl, fin⟩
/-- does a wheel suit: the class -/
noncomputable def su_x (G : mm_T) (w s : Nat) : Int := bv_p (bd_suit (mm_I G 8) (mm_I G 9) (mm_I G 10) (mm_I G 11) (mm_I G (300 + w) 1) (mm_I G 0 15 - mm_I G (300 + w) 2) (mm_I G 2 s))
theorem su_bp {G G1 : mm_T} {c : Nat} {wl hm : Nat → Nat} {p : Nat → Nat → Int} {r : Nat → Int} (hb : bp_F G G1 c wl hm p r) (w s : Nat) : su_x G1 w s = su_x G w s := by
  have e : ∀ b, b ≠ 24 → b ≠ 25 → b ≠ 26 → b ≠ 29 → mm_I G1 b = mm_I G b := fun b b1 b2 b3 b4 => funext fun j => hb.2.1 b j (by omega) b2 b3 b4
  unfold su_x
  rw [e 8 (by omega) (by omega) (by omega) (by omega), e 9 (by omega) (by omega) (by omega) (by omega), e 10 (by omega) (by omega) (by omega) (by omega), e 11 (by omega) (by omega) (by omega) (by omega), e (300 + w) (by omega) (by omega) (by omega) (by omega), e 0 (by omega) (by omega) (by omega) (by omega), e 2 (by omega) (by omega) (by omega) (by omega)]
/-- what plan needs of the class's wheels -/
def kw_I (G : mm_T) (wc : Nat) : Prop := fx_R G ∧ fx_W G ∧ (mm_I G 0 14 = wc ∧ wc ≤ 40) ∧ (∀ w, w < wc → mm_I G (300 + w) 0 = w ∧ (-1 ≤ mm_I G (300 + w) 4 ∧ mm_I G (300 + w) 4 ≤ 23) ∧ (0 ≤ mm_I G (300 + w) 1 ∧ mm_I G (300 + w) 1 ≤ 2) ∧ i3_in (mm_I G 0 15 - mm_I G (300 + w) 2)) ∧ (∀ k, k < 3 → 0 ≤ mm_I G 8 k ∧ mm_I G 8 k ≤ 4) ∧ ∀ s, s < 24 → 0 ≤ mm_I G 4 s ∧ mm_I G 4 s ≤ 4
theorem kw_bp {G G1 : mm_T} {wc c : Nat} {wl hm : Nat → Nat} {p : Nat → Nat → Int} {r : Nat → Int} (h : kw_I G wc) (hb : bp_F G G1 c wl hm p r) : kw_I G1 wc := by
  obtain ⟨h1, h2, h3, h4, h5, h6⟩ := h
  have e : ∀ b, b ≠ 24 → b ≠ 25 → b ≠ 26 → b ≠ 29 → mm_I G1 b = mm_I G b := fun b b1 b2 b3 b4 => funext fun j => hb.2.1 b j (by omega) b2 b3 b4
  have e0 := e 0 (by omega) (by omega) (by omega) (by omega)
  have e8 := e 8 (by omega) (by omega) (by omega) (by omega)
  have e4 := e 4 (by omega) (by omega) (by omega) (by omega)
  refine ⟨fun x k b q => by rw [hb.1.1]; exact h1 x k b q, ?_, by rw [e0]; exact h3, fun w hw => by rw [e0, e (300 + w) (by omega) (by omega) (by omega) (by omega)]; exact h4 w hw, by rw [e8]; exact h5, by rw [e4]; exact h6⟩
  unfold fx_W at h2 ⊢
  rw [e0, hb.1.1]; exact h2
theorem cm_K_suit1 (X : gx_T) (d : Nat) {G : mm_T} {wc w s : Nat} (h : kw_I G wc) (hw : w < wc) (hs : s < 24) : aw_M X (d + 4) mt_K_isSuited [av_r (some 0), av_r (some (300 + w)), av_i (s : Int)] G 0 0 (fun r G' => r = some (av_i (su_x G w s)) ∧ G' = G) := by
  have h4 := h.2.2.2.1 w hw
  have c := cm_K_isSuited X d G (w := w) (s := (s : Int)) h.1 (by have := h.2.2.1.2; omega) ⟨by omega, by omega⟩ h4.2.2.1 h4.2.2.2 h.2.2.2.2.1
  rw [if_pos (by omega), Int.toNat_natCast] at c
  exact c
theorem su_01 (G : mm_T) (w s : Nat) : su_x G w s = 0 ∨ su_x G w s = 1 := by unfold su_x; rcases bv_c (bd_suit (mm_I G 8) (mm_I G 9) (mm_I G 10) (mm_I G 11) (mm_I G (300 + w) 1) (mm_I G 0 15 - mm_I G (300 + w) 2) (mm_I G 2 s)) with h | h <;> omega
/-- the prices of the first t shelves of row c are set -/
def pu_v (su : Nat → Int) (h c t : Nat) (p : Nat → Nat → Int) : Nat → Nat → Int := fun k s => if k = c ∧ s < t ∧ su s = 1 then pz_v h c s else p k s
theorem lp_askPlan (X : gx_T) (d : Nat) {G : mm_T} {wc w c h : Nat} {wl hm : Nat → Nat} {p : Nat → Nat → Int} {r : Nat → Int} (hK : kw_I G wc) (hw : w < wc) (hc10 : c < 10) (hh : h < 24) (hhm : hm c = h) : ∀ m t G1, t + m = 24 → bp_F G G1 (c + 1) wl hm (pu_v (su_x G w) h c t p) r → aw_W X mt_K_askPlanFor (d + 5) 17 [(0, some (av_r (some 0))), (1, some (av_r (some (300 + w)))), (2, some (av_i (t : Int)))] [] G1 0 0 (fun rr G' => rr = none ∧ bp_F G G' (c + 1) wl hm (pu_v (su_x G w) h c 24 p) r) := by
  intro m
  induction m with
  | zero =>
    intro t G1 ht hb
    have ht : t = 24 := by omega
    subst ht
    refine ar_iload_n (pc := 17) d_K_askPlanFor_17 rfl ?_
    refine ar_bipush (pc := 18) d_K_askPlanFor_18 (by decide) ?_
    refine ar_icmp_ge (pc := 20) 46 d_K_askPlanFor_20 (by decide) ⟨by omega, by omega⟩ ⟨by omega, by omega⟩ (fun h_20 => ?_) (fun h_20 => by exfalso; omega)
    refine ar_ret (pc := 46) d_K_askPlanFor_46 rfl ?_
    rotate_left
    -- leaves: ret 46
    · exact ⟨rfl, hb⟩
  | succ m ih =>
    intro t G1 ht hb
    have hK1 := kw_bp hK hb
    have c26 := cm_K_suit1 X d hK1 hw (s := t) (by omega)
    rw [su_bp hb] at c26
    have hF := hK1.1
    rcases su_01 G w t with q | q
    · rw [q] at c26
      have i1 := ih (t + 1) G1 (by omega) (by
        obtain ⟨h1, h2, h3, h4, h5, h6, h7⟩ := hb
        refine ⟨h1, h2, h3, h4, h5, h6, fun k s hk hs => ?_⟩
        rw [h7 k s hk hs]
        unfold pu_v
        by_cases e : k = c ∧ s < t ∧ su_x G w s = 1
        · rw [if_pos e, if_pos ⟨e.1, by omega, e.2.2⟩]
        · rw [if_neg e]
          by_cases e2 : k = c ∧ s < t + 1 ∧ su_x G w s = 1
          · have : s = t := by omega
            rw [this] at e2; omega
          · rw [if_neg e2])
      clear ih
      refine ar_iload_n (pc := 17) d_K_askPlanFor_17 rfl ?_
      refine ar_bipush (pc := 18) d_K_askPlanFor_18 (by decide) ?_
      refine ar_icmp_ge (pc := 20) 46 d_K_askPlanFor_20 (by decide) ⟨by omega, by omega⟩ ⟨by omega, by omega⟩ (fun h_20 => by exfalso; omega) (fun h_20 => ?_)
      refine ar_aload_n (pc := 23) d_K_askPlanFor_23 rfl ?_
      refine ar_aload_n (pc := 24) d_K_askPlanFor_24 rfl ?_
      refine ar_iload_n (pc := 25) d_K_askPlanFor_25 rfl ?_
      refine ac_virt (pc := 26) (N := mt_K_isSuited) _ _ mv_K_isSuited ml_K_195 ck_11 d_K_askPlanFor_26 c26 (by first | rfl | exact sh_wheel (by omega) | exact sh_milk (by omega)) rfl rfl (Nat.le_of_ble_eq_true rfl) (Nat.le_of_eq (Nat.zero_add _)) (Nat.le_of_eq (Nat.zero_add _)) (fun r_26 G_26 h_26 => ?_)
      obtain ⟨rfl, e_26⟩ := h_26
      subst G_26
      refine ar_if_eq (pc := 29) 40 d_K_askPlanFor_29 (by decide) ⟨by omega, by omega⟩ (fun h_29 => ?_) (fun h_29 => by exfalso; omega)
      refine ar_iinc (pc := 40) d_K_askPlanFor_40 rfl rfl (by decide) ?_
      refine ar_goto (pc := 43) 17 d_K_askPlanFor_43 (by decide) ?_
      rotate_left
      -- leaves: stop 17
      · exact ar_loc i1 ⟨rfl, rfl, li_i rfl (by omega), trivial⟩
    · rw [q] at c26
      have c37 := cm_Pl_allowLast X (d + 1) (G := G1) (c := c) (s := t) (h := h) hF (by rw [hb.2.2.2.1]; omega) hc10 (by omega) (by rw [(hb.2.2.2.2.1 c (by omega)).2, hhm]) hh
      have i1 := ih (t + 1) (ms_J G1 28 (24 * c + t) (pz_v h c t)) (by omega) (by
        obtain ⟨h1, h2, h3, h4, h5, h6, h7⟩ := hb
        refine ⟨h1, h2, fun b j hb => ?_, h4, h5, h6, fun k s hk hs => ?_⟩
        · rw [mj_sn _ _ (fun q => hb q.1)]; exact h3 b j hb
        · by_cases e : k = c ∧ s = t
          · obtain ⟨rfl, rfl⟩ := e
            rw [mj_ss]
            unfold pu_v; rw [if_pos ⟨rfl, by omega, q⟩]
          · rw [mj_sn _ _ (by omega), h7 k s hk hs]
            unfold pu_v
            by_cases e1 : k = c ∧ s < t ∧ su_x G w s = 1
            · rw [if_pos e1, if_pos ⟨e1.1, by omega, e1.2.2⟩]
            · rw [if_neg e1, if_neg (fun z => e1 ⟨z.1, by omega, z.2.2⟩)])
      clear ih
      refine ar_iload_n (pc := 17) d_K_askPlanFor_17 rfl ?_
      refine ar_bipush (pc := 18) d_K_askPlanFor_18 (by decide) ?_
      refine ar_icmp_ge (pc := 20) 46 d_K_askPlanFor_20 (by decide) ⟨by omega, by omega⟩ ⟨by omega, by omega⟩ (fun h_20 => by exfalso; omega) (fun h_20 => ?_)
      refine ar_aload_n (pc := 23) d_K_askPlanFor_23 rfl ?_
      refine ar_aload_n (pc := 24) d_K_askPlanFor_24 rfl ?_
      refine ar_iload_n (pc := 25) d_K_askPlanFor_25 rfl ?_
      refine ac_virt (pc := 26) (N := mt_K_isSuited) _ _ mv_K_isSuited ml_K_195 ck_11 d_K_askPlanFor_26 c26 (by first | rfl | exact sh_wheel (by omega) | exact sh_milk (by omega)) rfl rfl (Nat.le_of_ble_eq_true rfl) (Nat.le_of_eq (Nat.zero_add _)) (Nat.le_of_eq (Nat.zero_add _)) (fun r_26 G_26 h_26 => ?_)
      obtain ⟨rfl, e_26⟩ := h_26
      subst G_26
      refine ar_if_eq (pc := 29) 40 d_K_askPlanFor_29 (by decide) ⟨by omega, by omega⟩ (fun h_29 => by exfalso; omega) (fun h_29 => ?_)
      refine ar_aload_n (pc := 32) d_K_askPlanFor_32 rfl ?_
      refine ar_getR (pc := 33) gf_K_52 d_K_askPlanFor_33 (by first | rfl | exact sh_wheel (by omega) | exact sh_milk (by omega)) (hF _ _ _ rfl) ?_
      refine ar_iload_n (pc := 36) d_K_askPlanFor_36 rfl ?_
      refine ac_virt (pc := 37) (N := mt_Pl_allowLast) _ _ mv_Pl_allowLast ml_K_318 ck_4 d_K_askPlanFor_37 c37 (by first | rfl | exact sh_wheel (by omega) | exact sh_milk (by omega)) rfl rfl (Nat.le_of_ble_eq_true rfl) (Nat.le_of_eq (Nat.zero_add _)) (Nat.le_of_eq (Nat.zero_add _)) (fun r_37 G_37 h_37 => ?_)
      obtain ⟨rfl, e_37⟩ := h_37
      subst G_37
      refine ar_iinc (pc := 40) d_K_askPlanFor_40 rfl rfl (by decide) ?_
      refine ar_goto (pc := 43) 17 d_K_askPlanFor_43 (by decide) ?_
      rotate_left
      -- leaves: stop 17
      · exact ar_loc i1 ⟨rfl, rfl, li_i rfl (by omega), trivial⟩
theorem cm_K_askPlanFor (X : gx_T) (d : Nat) {G G1 : mm_T} {wc w c h : Nat} {wl hm : Nat → Nat} {p : Nat → Nat → Int} {r : Nat → Int} (hK : kw_I G wc) (hw : w < wc) (hb : bp_F G G1 c wl hm p r) (hc10 : c < 10) (hsh : mm_I G (300 + w) 4 = h) (hh : h < 24) (hr : 0 ≤ r h ∧ r h ≤ 1000) : aw_M X (d + 5) mt_K_askPlanFor [av_r (some 0), av_r (some (300 + w))] G1 0 0 (fun rr G' => rr = none ∧ bp_F G G' (c + 1) (upn wl c w) (upn hm c h) (pu_v (su_x G w) h c 24 p) (upp r h (r h + 1))) := by
  have hK1 := kw_bp hK hb
  have w40 := hK.2.2.1.2
  have e0 : mm_I G1 (300 + w) 0 = (w : Int) := (hK1.2.2.2.1 w hw).1
  have e4 : mm_I G1 (300 + w) 4 = (h : Int) := by rw [hb.2.1 _ _ (by omega) (by omega) (by omega) (by omega)]; exact hsh
  have c12 := cm_Pl_ask X (d + 2) (w := w) (h := h) hK.1 hb hc10 (by omega) hh hr
  have hF := hK1.1
  have w40' : w < 40 := by omega
  refine aw_enter pf_K_askPlanFor (Nat.le_of_ble_eq_true rfl) ?_
  refine ar_aload_n (pc := 0) d_K_askPlanFor_0 rfl ?_
  refine ar_getR (pc := 1) gf_K_52 d_K_askPlanFor_1 (by first | rfl | exact sh_wheel (by omega) | exact sh_milk (by omega)) (hF _ _ _ rfl) ?_
  refine ar_aload_n (pc := 4) d_K_askPlanFor_4 rfl ?_
  refine ar_getIv (pc := 5) gf_K_292 d_K_askPlanFor_5 (by first | rfl | exact sh_wheel (by omega) | exact sh_milk (by omega)) e0 (fun r_5 => ?_)
  refine ar_aload_n (pc := 8) d_K_askPlanFor_8 rfl ?_
  refine ar_getIv (pc := 9) gf_K_138 d_K_askPlanFor_9 (by first | rfl | exact sh_wheel (by omega) | exact sh_milk (by omega)) e4 (fun r_9 => ?_)
  refine ac_virt (pc := 12) (N := mt_Pl_ask) _ _ mv_Pl_ask ml_K_315 ck_4 d_K_askPlanFor_12 c12 (by first | rfl | exact sh_wheel (by omega) | exact sh_milk (by omega)) rfl rfl (Nat.le_of_ble_eq_true rfl) (Nat.le_of_eq (Nat.zero_add _)) (Nat.le_of_eq (Nat.zero_add _)) (fun r_12 G_12 h_12 => ?_)
  obtain ⟨rfl, q12⟩ := h_12
  refine ar_iconst (pc := 15) d_K_askPlanFor_15 ?_
  refine ar_istore_n (pc := 16) d_K_askPlanFor_16 rfl (by decide) ?_
  rotate_left
  -- leaves: stop 17
  · have lp := lp_askPlan X d (wl := upn wl c w) (hm := upn hm c h) (p := p) (r := upp r h (r h + 1)) hK hw hc10 hh (by unfold upn; rw [if_pos rfl]) 24 0 G_12 (by omega) (by
      obtain ⟨h1, h2, h3, h4, h5, h6, h7⟩ := q12
      refine ⟨h1, h2, h3, h4, h5, h6, fun k s hk hs => ?_⟩
      rw [h7 k s hk hs]; unfold pu_v; rw [if_neg (by omega)])
    exact ar_loc lp ⟨rfl, rfl, rfl, trivial⟩
