/-! ===== carry of the reference ===== -/
def mgo_v (G : mm_T) (w s : Int) : mm_T := ms_I (ms_I (ms_I (ms_I (ms_I (ms_I (ms_I (ms_I G 78 (mm_I G 73 w.toNat).toNat (mm_I G 60 0)) 67 w.toNat s) 73 w.toNat ((mm_I G 60 5).toNat : Int)) 75 (mm_I G 60 5).toNat w) 76 (mm_I G 60 5).toNat s) 77 (mm_I G 60 5).toNat (mm_I G 60 0)) 78 (mm_I G 60 5).toNat (-1)) 60 5 (((mm_I G 60 5).toNat : Int) + 1)
def mcar (G : mm_T) : Nat → mm_T
  | 0 => G
  | i + 1 => mgo_v (mcar G i) (mm_I G 96 i) (mm_I G 97 i)
theorem mgo_i (G : mm_T) (w s : Int) {a : Nat} (h0 : a ≠ 60) (h1 : a ≠ 67) (h2 : a ≠ 73) (h3 : a ≠ 75) (h4 : a ≠ 76) (h5 : a ≠ 77) (h6 : a ≠ 78) : mm_I (mgo_v G w s) a = mm_I G a := by
  unfold mgo_v
  rw [mi_o _ _ _ h0, mi_o _ _ _ h6, mi_o _ _ _ h5, mi_o _ _ _ h4, mi_o _ _ _ h3, mi_o _ _ _ h2, mi_o _ _ _ h1, mi_o _ _ _ h6]
theorem mgo_60 (G : mm_T) (w s : Int) {k : Nat} (h : k ≠ 5) : mm_I (mgo_v G w s) 60 k = mm_I G 60 k := by
  unfold mgo_v
  rw [mi_n (by omega), mi_n (by omega), mi_n (by omega), mi_n (by omega), mi_n (by omega), mi_n (by omega), mi_n (by omega), mi_n (by omega)]
theorem mgo_73 (G : mm_T) (w s : Int) (k : Nat) : mm_I (mgo_v G w s) 73 k = if k = w.toNat then ((mm_I G 60 5).toNat : Int) else mm_I G 73 k := by
  unfold mgo_v
  rw [mi_n (by omega), mi_n (by omega), mi_n (by omega), mi_n (by omega), mi_n (by omega)]
  by_cases h : k = w.toNat
  · rw [if_pos h, h, mi_s]
  · rw [if_neg h, mi_n (by omega), mi_n (by omega), mi_n (by omega)]
theorem mcar_f (G : mm_T) (i : Nat) : mm_R (mcar G i) = mm_R G ∧ (∀ a, a ≠ 60 → a ≠ 67 → a ≠ 73 → a ≠ 75 → a ≠ 76 → a ≠ 77 → a ≠ 78 → mm_I (mcar G i) a = mm_I G a) ∧ (∀ k, k ≠ 5 → mm_I (mcar G i) 60 k = mm_I G 60 k) ∧ mm_J (mcar G i) = mm_J G ∧ mm_A (mcar G i) = mm_A G := by
  induction i with
  | zero => exact ⟨rfl, fun _ _ _ _ _ _ _ _ => rfl, fun _ _ => rfl, rfl, rfl⟩
  | succ i ih =>
    obtain ⟨h1, h2, h3, h4, h5⟩ := ih
    refine ⟨h1, fun a b0 b1 b2 b3 b4 b5 b6 => ?_, fun k hk => ?_, h4, h5⟩
    · rw [mcar, mgo_i _ _ _ b0 b1 b2 b3 b4 b5 b6]; exact h2 a b0 b1 b2 b3 b4 b5 b6
    · rw [mcar, mgo_60 _ _ _ hk]; exact h3 k hk
theorem mcar_c (G : mm_T) {c : Nat} (hc : mm_I G 60 5 = c) (i : Nat) : mm_I (mcar G i) 60 5 = ((c + i : Nat) : Int) := by
  induction i with
  | zero => exact hc
  | succ i ih =>
    rw [mcar]
    unfold mgo_v
    rw [mi_s, ih]
    omega
theorem mcar_st (G : mm_T) {c : Nat} (hc : mm_I G 60 5 = c) (hst : ∀ k, k < 40 → 0 ≤ mm_I G 73 k ∧ mm_I G 73 k < 200) (i : Nat) (hi : c + i ≤ 200) : ∀ k, k < 40 → 0 ≤ mm_I (mcar G i) 73 k ∧ mm_I (mcar G i) 73 k < 200 := by
  induction i with
  | zero => exact hst
  | succ i ih =>
    intro k hk
    have h := ih (by omega) k hk
    have hc' := mcar_c G hc i
    rw [mcar, mgo_73]
    split
    · omega
    · exact h
theorem lp_Mo_carry (X : gx_T) (d : Nat) (G : mm_T) {n c : Nat} (hF : fx_R G) (hn : mm_I G 60 55 = n) (hn2 : n ≤ 10) (hc : mm_I G 60 5 = c) (hcn : c + n ≤ 200) (hw : ∀ i, i < n → 0 ≤ mm_I G 96 i ∧ mm_I G 96 i < 40) (hs : ∀ i, i < n → 0 ≤ mm_I G 97 i ∧ mm_I G 97 i ≤ 23) (hst : ∀ k, k < 40 → 0 ≤ mm_I G 73 k ∧ mm_I G 73 k < 200) : ∀ m i, i + m = n → aw_W X mt_Mo_carry (d + 3) 26 [(0, some (av_r (some 60))), (1, some (av_i (i : Int)))] [] (mcar G i) 0 0 (fun r G' => r = some (av_i n) ∧ G' = ms_I (ms_I (mcar G n) 60 55 0) 60 53 0) := by
  intro m
  induction m with
  | zero =>
    intro i hi
    have hi : i = n := by omega
    subst hi
    have f3 := (mcar_f G i).2.2.1 55 (by omega)
    rw [hn] at f3
    refine ar_iload_n (pc := 26) d_Mo_carry_26 rfl ?_
    refine ar_aload_n (pc := 27) d_Mo_carry_27 rfl ?_
    refine ar_getIv (pc := 28) gf_Mo_386 d_Mo_carry_28 (by first | rfl | exact sh_wheel (by omega) | exact sh_milk (by omega)) f3 (fun r_28 => ?_)
    refine ar_icmp_ge (pc := 31) 56 d_Mo_carry_31 (by decide) ⟨by omega, by omega⟩ ⟨by omega, by omega⟩ (fun h_31 => ?_) (fun h_31 => by exfalso; omega)
    refine ar_aload_n (pc := 56) d_Mo_carry_56 rfl ?_
    refine ar_getIv (pc := 57) gf_Mo_386 d_Mo_carry_57 (by first | rfl | exact sh_wheel (by omega) | exact sh_milk (by omega)) f3 (fun r_57 => ?_)
    refine ar_istore_n (pc := 60) d_Mo_carry_60 rfl (by decide) ?_
    refine ar_aload_n (pc := 61) d_Mo_carry_61 rfl ?_
    refine ar_iconst (pc := 62) d_Mo_carry_62 ?_
    refine ar_putI (pc := 63) gf_Mo_386 d_Mo_carry_63 rfl (by first | rfl | exact sh_wheel (by omega) | exact sh_milk (by omega)) ⟨by omega, by omega⟩ ?_
    refine ar_aload_n (pc := 66) d_Mo_carry_66 rfl ?_
    refine ar_iconst (pc := 67) d_Mo_carry_67 ?_
    refine ar_putZ (pc := 68) gf_Mo_158 d_Mo_carry_68 rfl (by first | rfl | exact sh_wheel (by omega) | exact sh_milk (by omega)) (by omega) ?_
    refine ar_iload_n (pc := 71) d_Mo_carry_71 rfl ?_
    refine ar_iret (pc := 72) d_Mo_carry_72 rfl ?_
    rotate_left
    -- leaves: ret 72
    · exact ⟨rfl, rfl⟩
  | succ m ih =>
    intro i hi
    obtain ⟨f1, f2, f3, -, -⟩ := mcar_f G i
    have f3 := f3 55 (by omega)
    rw [hn] at f3
    have hF : fx_R (mcar G i) := fun a k b h => by rw [f1]; exact hF a k b h
    have hci := mcar_c G hc i
    have w1 := hw i (by omega)
    have s1 := hs i (by omega)
    have q1 := mcar_st G hc hst i (by omega) (mm_I G 96 i).toNat (by omega)
    have go : aw_M X (d + 2) mt_Mo_go [av_r (some 60), av_i (mm_I G 96 i), av_i (mm_I G 97 i)] (mcar G i) 0 0 (fun r G' => r = none ∧ G' = mcar G (i + 1)) := cm_Mo_go X d (mcar G i) (w := mm_I G 96 i) (s := mm_I G 97 i) (c := (mm_I (mcar G i) 60 5).toNat) (q := (mm_I (mcar G i) 73 (mm_I G 96 i).toNat).toNat) hF w1 s1 (by omega) (by omega) (by omega) (by omega)
    have e96 : mm_I (mcar G i) 96 i = mm_I G 96 i := congrFun (f2 96 (by omega) (by omega) (by omega) (by omega) (by omega) (by omega) (by omega)) i
    have e97 : mm_I (mcar G i) 97 i = mm_I G 97 i := congrFun (f2 97 (by omega) (by omega) (by omega) (by omega) (by omega) (by omega) (by omega)) i
    have ih1 := ih (i + 1) (by omega)
    generalize mcar G (i + 1) = G1 at go ih1
    generalize mcar G i = G0 at *
    refine ar_iload_n (pc := 26) d_Mo_carry_26 rfl ?_
    refine ar_aload_n (pc := 27) d_Mo_carry_27 rfl ?_
    refine ar_getIv (pc := 28) gf_Mo_386 d_Mo_carry_28 (by first | rfl | exact sh_wheel (by omega) | exact sh_milk (by omega)) f3 (fun r_28 => ?_)
    refine ar_icmp_ge (pc := 31) 56 d_Mo_carry_31 (by decide) ⟨by omega, by omega⟩ ⟨by omega, by omega⟩ (fun h_31 => by exfalso; omega) (fun h_31 => ?_)
    refine ar_aload_n (pc := 34) d_Mo_carry_34 rfl ?_
    refine ar_aload_n (pc := 35) d_Mo_carry_35 rfl ?_
    refine ar_getR (pc := 36) gf_Mo_120 d_Mo_carry_36 (by first | rfl | exact sh_wheel (by omega) | exact sh_milk (by omega)) (hF _ _ _ rfl) ?_
    refine ar_iload_n (pc := 39) d_Mo_carry_39 rfl ?_
    refine ar_ialdv (pc := 40) d_Mo_carry_40 rfl (i) (by omega) (by omega) e96 (fun r_40 => ?_)
    refine ar_aload_n (pc := 41) d_Mo_carry_41 rfl ?_
    refine ar_getR (pc := 42) gf_Mo_123 d_Mo_carry_42 (by first | rfl | exact sh_wheel (by omega) | exact sh_milk (by omega)) (hF _ _ _ rfl) ?_
    refine ar_iload_n (pc := 45) d_Mo_carry_45 rfl ?_
    refine ar_ialdv (pc := 46) d_Mo_carry_46 rfl (i) (by omega) (by omega) e97 (fun r_46 => ?_)
    refine ac_virt (pc := 47) (N := mt_Mo_go) _ _ mv_Mo_go ml_Mo_354 ck_12 d_Mo_carry_47 go (by first | rfl | exact sh_wheel (by omega) | exact sh_milk (by omega)) rfl rfl (Nat.le_of_ble_eq_true rfl) (Nat.le_of_eq (Nat.zero_add _)) (Nat.le_of_eq (Nat.zero_add _)) (fun r_47 G_47 h_47 => ?_)
    obtain ⟨rfl, e_47⟩ := h_47
    subst G_47
    refine ar_iinc (pc := 50) d_Mo_carry_50 rfl rfl (by decide) ?_
    refine ar_goto (pc := 53) 26 d_Mo_carry_53 (by decide) ?_
    rotate_left
    -- leaves: stop 26
    · exact ar_loc ih1 ⟨rfl, li_i rfl (by omega), trivial⟩
theorem cm_Mo_carry (X : gx_T) (d : Nat) (G : mm_T) {n c : Nat} (hF : fx_R G) (hn : mm_I G 60 55 = n) (hn2 : n ≤ 10) (hc : mm_I G 60 5 = c) (hc2 : c ≤ 200) (hw : mm_I G 60 53 ≠ 0 → ∀ i, i < n → 0 ≤ mm_I G 96 i ∧ mm_I G 96 i < 40) (hs : mm_I G 60 53 ≠ 0 → ∀ i, i < n → 0 ≤ mm_I G 97 i ∧ mm_I G 97 i ≤ 23) (hst : ∀ k, k < 40 → 0 ≤ mm_I G 73 k ∧ mm_I G 73 k < 200) : aw_M X (d + 3) mt_Mo_carry [av_r (some 60)] G 0 0 (fun r G' => (mm_I G 60 53 ≠ 0 ∧ c + n ≤ 200) ∧ r = some (av_i n) ∧ G' = ms_I (ms_I (mcar G n) 60 55 0) 60 53 0 ∨ ¬ (mm_I G 60 53 ≠ 0 ∧ c + n ≤ 200) ∧ r = some (av_i (-1)) ∧ G' = G) := by
  have h := fun h1 h2 => lp_Mo_carry X d G hF hn hn2 hc h2 (hw h1) (hs h1) hst n 0 (by omega)
  refine aw_enter pf_Mo_carry (Nat.le_of_ble_eq_true rfl) ?_
  refine ar_aload_n (pc := 0) d_Mo_carry_0 rfl ?_
  refine ar_getZ (pc := 1) gf_Mo_158 d_Mo_carry_1 (by first | rfl | exact sh_wheel (by omega) | exact sh_milk (by omega)) (fun r_1 => ?_)
  refine ar_if_eq (pc := 4) 22 d_Mo_carry_4 (by decide) ⟨by omega, by omega⟩ (fun h_4 => ?_) (fun h_4 => ?_)
  refine ar_iconst (pc := 22) d_Mo_carry_22 ?_
  refine ar_iret (pc := 23) d_Mo_carry_23 rfl ?_
  rotate_left
  refine ar_aload_n (pc := 7) d_Mo_carry_7 rfl ?_
  refine ar_getIv (pc := 8) gf_Mo_168 d_Mo_carry_8 (by first | rfl | exact sh_wheel (by omega) | exact sh_milk (by omega)) hc (fun r_8 => ?_)
  refine ar_aload_n (pc := 11) d_Mo_carry_11 rfl ?_
  refine ar_getIv (pc := 12) gf_Mo_386 d_Mo_carry_12 (by first | rfl | exact sh_wheel (by omega) | exact sh_milk (by omega)) hn (fun r_12 => ?_)
  refine ar_iadd (pc := 15) d_Mo_carry_15 ?_
  refine ar_sipush (pc := 16) d_Mo_carry_16 (by decide) ?_
  refine ar_icmp_le (pc := 19) 24 d_Mo_carry_19 (by decide) ⟨by omega, by omega⟩ ⟨by omega, by omega⟩ (fun h_19 => ?_) (fun h_19 => ?_)
  refine ar_iconst (pc := 24) d_Mo_carry_24 ?_
  refine ar_istore_n (pc := 25) d_Mo_carry_25 rfl (by decide) ?_
  rotate_left
  refine ar_iconst (pc := 22) d_Mo_carry_22 ?_
  refine ar_iret (pc := 23) d_Mo_carry_23 rfl ?_
  rotate_left
  -- leaves: ret 23, stop 26, ret 23
  · exact Or.inr ⟨by omega, rfl, rfl⟩
  · exact ar_mono (fun r G2 hr => Or.inl ⟨⟨by omega, by omega⟩, hr⟩) (ar_loc (h (by omega) (by omega)) ⟨rfl, li_i rfl (by omega), trivial⟩)
  · exact Or.inr ⟨by omega, rfl, rfl⟩
/-! ===== carry of the class ===== -/
theorem mi_if (G : mm_T) (a k b j : Nat) (v : Int) : mm_I (ms_I G a k v) b j = if b = a ∧ j = k then v else mm_I G b j := rfl
theorem cm_Sh_lay2 (X : gx_T) (d : Nat) (G : mm_T) {s : Int} (hF : fx_R G) (hs : 0 ≤ s ∧ s ≤ 23) (hl : 0 ≤ mm_I G 4 s.toNat ∧ mm_I G 4 s.toNat ≤ 60) : aw_M X (d + 2) mt_Sh_lay [av_r (some 1), av_i s] G 0 0 (fun r G' => r = none ∧ G' = ms_I G 4 s.toNat (mm_I G 4 s.toNat + 1)) := by
  refine aw_enter pf_Sh_lay (Nat.le_of_ble_eq_true rfl) ?_
  refine ar_iload_n (pc := 0) d_Sh_lay_0 rfl ?_
  refine ar_bipush (pc := 1) d_Sh_lay_1 (by decide) ?_
  refine ac_statN (pc := 3) (N := mt_K_isUpTo) _ _ sv_K_isUpTo (List.mem_of_getElem? (i := 9) rfl) d_Sh_lay_3 (cm_K_isUpTo _ _ _ ⟨by omega, by omega⟩ ⟨by omega, by omega⟩) rfl rfl (Nat.le_of_ble_eq_true rfl) (Nat.le_of_eq (Nat.zero_add _)) (Nat.le_of_eq (Nat.zero_add _)) (fun r_3 G_3 h_3 => ?_)
  obtain ⟨rfl, e_3⟩ := h_3
  subst G_3
  refine ar_if_eq (pc := 6) 19 d_Sh_lay_6 (by decide) ⟨by omega, by omega⟩ (fun h_6 => ?_) (fun h_6 => ?_)
  refine ar_ret (pc := 19) d_Sh_lay_19 rfl ?_
  rotate_left
  refine ar_aload_n (pc := 9) d_Sh_lay_9 rfl ?_
  refine ar_getR (pc := 10) gf_Sh_18 d_Sh_lay_10 (by first | rfl | exact sh_wheel (by omega) | exact sh_milk (by omega)) (hF _ _ _ rfl) ?_
  refine ar_iload_n (pc := 13) d_Sh_lay_13 rfl ?_
  refine ar_dup2 (pc := 14) d_Sh_lay_14 rfl rfl ?_
  refine ar_iald (pc := 15) d_Sh_lay_15 rfl _ (Int.toNat_of_nonneg (by omega)).symm (by omega) (fun r_15 => ?_)
  refine ar_iconst (pc := 16) d_Sh_lay_16 ?_
  refine ar_iadd (pc := 17) d_Sh_lay_17 ?_
  refine ar_iast (pc := 18) d_Sh_lay_18 rfl _ (Int.toNat_of_nonneg (by omega)).symm (by omega) ⟨by omega, by omega⟩ ?_
  refine ar_ret (pc := 19) d_Sh_lay_19 rfl ?_
  rotate_left
  -- leaves: ret 19, ret 19
  all_goals first | exact ⟨rfl, rfl⟩ | (exfalso; omega)
theorem cm_Sh_lift2 (X : gx_T) (d : Nat) (G : mm_T) {s : Int} (hF : fx_R G) (hs : 0 ≤ s ∧ s ≤ 23) (hl : 0 ≤ mm_I G 4 s.toNat ∧ mm_I G 4 s.toNat ≤ 60) : aw_M X (d + 2) mt_Sh_lift [av_r (some 1), av_i s] G 0 0 (fun r G' => r = none ∧ G' = ms_I G 4 s.toNat (mm_I G 4 s.toNat - 1)) := by
  refine aw_enter pf_Sh_lift (Nat.le_of_ble_eq_true rfl) ?_
  refine ar_iload_n (pc := 0) d_Sh_lift_0 rfl ?_
  refine ar_bipush (pc := 1) d_Sh_lift_1 (by decide) ?_
  refine ac_statN (pc := 3) (N := mt_K_isUpTo) _ _ sv_K_isUpTo (List.mem_of_getElem? (i := 9) rfl) d_Sh_lift_3 (cm_K_isUpTo _ _ _ ⟨by omega, by omega⟩ ⟨by omega, by omega⟩) rfl rfl (Nat.le_of_ble_eq_true rfl) (Nat.le_of_eq (Nat.zero_add _)) (Nat.le_of_eq (Nat.zero_add _)) (fun r_3 G_3 h_3 => ?_)
  obtain ⟨rfl, e_3⟩ := h_3
  subst G_3
  refine ar_if_eq (pc := 6) 19 d_Sh_lift_6 (by decide) ⟨by omega, by omega⟩ (fun h_6 => ?_) (fun h_6 => ?_)
  refine ar_ret (pc := 19) d_Sh_lift_19 rfl ?_
  rotate_left
  refine ar_aload_n (pc := 9) d_Sh_lift_9 rfl ?_
  refine ar_getR (pc := 10) gf_Sh_18 d_Sh_lift_10 (by first | rfl | exact sh_wheel (by omega) | exact sh_milk (by omega)) (hF _ _ _ rfl) ?_
  refine ar_iload_n (pc := 13) d_Sh_lift_13 rfl ?_
  refine ar_dup2 (pc := 14) d_Sh_lift_14 rfl rfl ?_
  refine ar_iald (pc := 15) d_Sh_lift_15 rfl _ (Int.toNat_of_nonneg (by omega)).symm (by omega) (fun r_15 => ?_)
  refine ar_iconst (pc := 16) d_Sh_lift_16 ?_
  refine ar_isub (pc := 17) d_Sh_lift_17 ?_
  refine ar_iast (pc := 18) d_Sh_lift_18 rfl _ (Int.toNat_of_nonneg (by omega)).symm (by omega) ⟨by omega, by omega⟩ ?_
  refine ar_ret (pc := 19) d_Sh_lift_19 rfl ?_
  rotate_left
  -- leaves: ret 19, ret 19
  all_goals first | exact ⟨rfl, rfl⟩ | (exfalso; omega)
theorem cm_K_layOn2 (X : gx_T) (d : Nat) (G : mm_T) {w : Nat} {s : Int} (hF : fx_R G) (hw : w < 40) (hs : 0 ≤ s ∧ s ≤ 23) (hn : mm_I G (300 + w) 0 = w) {c : Nat} (hc : mm_I G 12 4 = c) (hc2 : c < 200) (hl : 0 ≤ mm_I G 4 s.toNat ∧ mm_I G 4 s.toNat ≤ 60) : aw_M X (d + 3) mt_K_layOn [av_r (some 0), av_r (some (300 + w)), av_i s] G 0 0 (fun r G' => r = none ∧ G' = ms_I (ms_I (ms_I (ms_I (ms_I (ms_I (ms_I (ms_I G (300 + w) 4 s) 13 c w) 14 c s) 15 c (mm_I G 0 15)) 16 c (-1)) 12 4 (c + 1)) (300 + w) 5 c) 4 s.toNat (mm_I G 4 s.toNat + 1)) := by
  refine aw_enter pf_K_layOn (Nat.le_of_ble_eq_true rfl) ?_
  refine ar_aload_n (pc := 0) d_K_layOn_0 rfl ?_
  refine ar_iload_n (pc := 1) d_K_layOn_1 rfl ?_
  refine ar_putI (pc := 2) gf_K_138 d_K_layOn_2 rfl (by first | rfl | exact sh_wheel (by omega) | exact sh_milk (by omega)) ⟨by omega, by omega⟩ ?_
  refine ar_aload_n (pc := 5) d_K_layOn_5 rfl ?_
  refine ar_aload_n (pc := 6) d_K_layOn_6 rfl ?_
  refine ar_getR (pc := 7) gf_K_38 d_K_layOn_7 (by first | rfl | exact sh_wheel (by omega) | exact sh_milk (by omega)) (hF _ _ _ rfl) ?_
  refine ar_aload_n (pc := 10) d_K_layOn_10 rfl ?_
  refine ar_getIv (pc := 11) gf_K_292 d_K_layOn_11 (by first | rfl | exact sh_wheel (by omega) | exact sh_milk (by omega)) (show _ = (w : Int) from (mi_n (by omega)).trans hn) (fun r_11 => ?_)
  refine ar_iload_n (pc := 14) d_K_layOn_14 rfl ?_
  refine ar_aload_n (pc := 15) d_K_layOn_15 rfl ?_
  refine ar_getIv (pc := 16) gf_K_132 d_K_layOn_16 (by first | rfl | exact sh_wheel (by omega) | exact sh_milk (by omega)) (show _ = mm_I G 0 15 from mi_n (by omega)) (fun r_16 => ?_)
  refine ac_virt (pc := 19) (N := mt_St_begin) _ _ mv_St_begin ml_K_295 ck_7 d_K_layOn_19 (cm_St_begin (c := c) _ _ _ (by exact hF) ⟨by omega, by omega⟩ ⟨by omega, by omega⟩ ⟨by omega, by omega⟩ (by rw [mi_n (by omega)]; exact hc) hc2) (by first | rfl | exact sh_wheel (by omega) | exact sh_milk (by omega)) rfl rfl (Nat.le_of_ble_eq_true rfl) (Nat.le_of_eq (Nat.zero_add _)) (Nat.le_of_eq (Nat.zero_add _)) (fun r_19 G_19 h_19 => ?_)
  obtain ⟨rfl, e_19⟩ := h_19
  subst G_19
  refine ar_putI (pc := 22) gf_K_129 d_K_layOn_22 rfl (by first | rfl | exact sh_wheel (by omega) | exact sh_milk (by omega)) ⟨by omega, by omega⟩ ?_
  refine ar_aload_n (pc := 25) d_K_layOn_25 rfl ?_
  refine ar_getR (pc := 26) gf_K_10 d_K_layOn_26 (by first | rfl | exact sh_wheel (by omega) | exact sh_milk (by omega)) (hF _ _ _ rfl) ?_
  refine ar_iload_n (pc := 29) d_K_layOn_29 rfl ?_
  refine ac_virt (pc := 30) (N := mt_Sh_lay) _ _ mv_Sh_lay ml_K_299 ck_6 d_K_layOn_30 (cm_Sh_lay2 _ _ _ (by exact hF) hs (by rw [mi_n (by omega)]; show 0 ≤ mm_I (ms_I G (300 + w) 4 s) 4 s.toNat ∧ mm_I (ms_I G (300 + w) 4 s) 4 s.toNat ≤ 60; rw [mi_n (by omega)]; exact hl)) (by first | rfl | exact sh_wheel (by omega) | exact sh_milk (by omega)) rfl rfl (Nat.le_of_ble_eq_true rfl) (Nat.le_of_eq (Nat.zero_add _)) (Nat.le_of_eq (Nat.zero_add _)) (fun r_30 G_30 h_30 => ?_)
  obtain ⟨rfl, e_30⟩ := h_30
  subst G_30
  refine ar_ret (pc := 33) d_K_layOn_33 rfl ?_
  rotate_left
  -- leaves: ret 33
  · refine ⟨rfl, ?_⟩
    congr 1
    rw [mi_n (by omega)]
    show mm_I (ms_I G (300 + w) 4 s) 4 s.toNat + 1 = _
    rw [mi_n (by omega)]
def xt_1 (G : mm_T) (w : Nat) : mm_T := ms_I (ms_I G 16 (mm_I G (300 + w) 5).toNat (mm_I G 0 15)) 4 (mm_I G (300 + w) 4).toNat (mm_I G 4 (mm_I G (300 + w) 4).toNat - 1)
def xt_v (G : mm_T) (w : Nat) (s : Int) : mm_T := ms_I (ms_I (ms_I (ms_I (ms_I (ms_I (ms_I (ms_I (xt_1 G w) (300 + w) 4 s) 13 (mm_I G 12 4).toNat w) 14 (mm_I G 12 4).toNat s) 15 (mm_I G 12 4).toNat (mm_I G 0 15)) 16 (mm_I G 12 4).toNat (-1)) 12 4 ((mm_I G 12 4).toNat + 1)) (300 + w) 5 (mm_I G 12 4).toNat) 4 s.toNat (mm_I (xt_1 G w) 4 s.toNat + 1)
theorem cm_K_takeTo2 (X : gx_T) (d : Nat) (G : mm_T) {w : Nat} {s : Int} (hF : fx_R G) (hw : w < 40) (hs : 0 ≤ s ∧ s ≤ 23) (hn : mm_I G (300 + w) 0 = w) (hc2 : 0 ≤ mm_I G 12 4 ∧ mm_I G 12 4 < 200) (hst : 0 ≤ mm_I G (300 + w) 5 ∧ mm_I G (300 + w) 5 < mm_I G 12 4) (hsh : 0 ≤ mm_I G (300 + w) 4 ∧ mm_I G (300 + w) 4 ≤ 23) (hly : ∀ k, k < 24 → 0 ≤ mm_I G 4 k ∧ mm_I G 4 k ≤ 60) (hl1 : 1 ≤ mm_I G 4 (mm_I G (300 + w) 4).toNat) : aw_M X (d + 4) mt_K_takeTo [av_r (some 0), av_r (some (300 + w)), av_i s] G 0 0 (fun r G' => r = none ∧ G' = xt_v G w s) := by
  have hlh := hly (mm_I G (300 + w) 4).toNat (by omega)
  have hls := hly s.toNat (by omega)
  have hG1 : ∀ k, k < 24 → 0 ≤ mm_I (ms_I (ms_I G 16 (mm_I G (300 + w) 5).toNat (mm_I G 0 15)) 4 (mm_I G (300 + w) 4).toNat (mm_I G 4 (mm_I G (300 + w) 4).toNat - 1)) 4 k ∧ mm_I (ms_I (ms_I G 16 (mm_I G (300 + w) 5).toNat (mm_I G 0 15)) 4 (mm_I G (300 + w) 4).toNat (mm_I G 4 (mm_I G (300 + w) 4).toNat - 1)) 4 k ≤ 60 := by
    intro k hk
    by_cases he : k = (mm_I G (300 + w) 4).toNat
    · rw [he, mi_s]; omega
    · rw [mi_n (by omega), mi_n (by omega)]; exact hly k hk
  obtain ⟨c, hc⟩ : ∃ c : Nat, mm_I G 12 4 = c := ⟨(mm_I G 12 4).toNat, by omega⟩
  have hc' : (mm_I G 12 4).toNat = c := by omega
  unfold xt_v
  rw [hc']
  refine aw_enter pf_K_takeTo (Nat.le_of_ble_eq_true rfl) ?_
  refine ar_aload_n (pc := 0) d_K_takeTo_0 rfl ?_
  refine ar_getR (pc := 1) gf_K_38 d_K_takeTo_1 (by first | rfl | exact sh_wheel (by omega) | exact sh_milk (by omega)) (hF _ _ _ rfl) ?_
  refine ar_aload_n (pc := 4) d_K_takeTo_4 rfl ?_
  refine ar_getI (pc := 5) gf_K_129 d_K_takeTo_5 (by first | rfl | exact sh_wheel (by omega) | exact sh_milk (by omega)) (fun r_5 => ?_)
  refine ar_aload_n (pc := 8) d_K_takeTo_8 rfl ?_
  refine ar_getI (pc := 9) gf_K_132 d_K_takeTo_9 (by first | rfl | exact sh_wheel (by omega) | exact sh_milk (by omega)) (fun r_9 => ?_)
  refine ac_virt (pc := 12) (N := mt_St_finish) _ _ mv_St_finish ml_K_135 ck_7 d_K_takeTo_12 (cm_St_finish _ _ _ hF hst ⟨by omega, by omega⟩ (by omega)) (by first | rfl | exact sh_wheel (by omega) | exact sh_milk (by omega)) rfl rfl (Nat.le_of_ble_eq_true rfl) (Nat.le_of_eq (Nat.zero_add _)) (Nat.le_of_eq (Nat.zero_add _)) (fun r_12 G_12 h_12 => ?_)
  obtain ⟨rfl, e_12⟩ := h_12
  subst G_12
  refine ar_aload_n (pc := 15) d_K_takeTo_15 rfl ?_
  refine ar_getR (pc := 16) gf_K_10 d_K_takeTo_16 (by first | rfl | exact sh_wheel (by omega) | exact sh_milk (by omega)) (hF _ _ _ rfl) ?_
  refine ar_aload_n (pc := 19) d_K_takeTo_19 rfl ?_
  refine ar_getIv (pc := 20) gf_K_138 d_K_takeTo_20 (by first | rfl | exact sh_wheel (by omega) | exact sh_milk (by omega)) (show _ = mm_I G (300 + w) 4 from mi_n (by omega)) (fun r_20 => ?_)
  refine ac_virt (pc := 23) (N := mt_Sh_lift) _ _ mv_Sh_lift ml_K_141 ck_6 d_K_takeTo_23 (cm_Sh_lift2 _ _ _ (by exact hF) hsh (by exact hlh)) (by first | rfl | exact sh_wheel (by omega) | exact sh_milk (by omega)) rfl rfl (Nat.le_of_ble_eq_true rfl) (Nat.le_of_eq (Nat.zero_add _)) (Nat.le_of_eq (Nat.zero_add _)) (fun r_23 G_23 h_23 => ?_)
  obtain ⟨rfl, e_23⟩ := h_23
  subst G_23
  refine ar_aload_n (pc := 26) d_K_takeTo_26 rfl ?_
  refine ar_aload_n (pc := 27) d_K_takeTo_27 rfl ?_
  refine ar_iload_n (pc := 28) d_K_takeTo_28 rfl ?_
  refine ac_virt (pc := 29) (N := mt_K_layOn) _ _ mv_K_layOn ml_K_289 ck_11 d_K_takeTo_29 (cm_K_layOn2 (c := c) _ _ _ (by exact hF) hw hs (by rw [mi_n (by omega), mi_n (by omega)]; exact hn) (by exact hc) (by omega) (hG1 _ (by omega))) (by first | rfl | exact sh_wheel (by omega) | exact sh_milk (by omega)) rfl rfl (Nat.le_of_ble_eq_true rfl) (Nat.le_of_eq (Nat.zero_add _)) (Nat.le_of_eq (Nat.zero_add _)) (fun r_29 G_29 h_29 => ?_)
  obtain ⟨rfl, e_29⟩ := h_29
  subst G_29
  refine ar_ret (pc := 32) d_K_takeTo_32 rfl ?_
  rotate_left
  -- leaves: ret 32
  · exact ⟨rfl, rfl⟩
theorem xt_4 (G : mm_T) (w : Nat) (s : Int) (k : Nat) : mm_I (xt_v G w s) (300 + k) 4 = if k = w then s else mm_I G (300 + k) 4 := by
  unfold xt_v
  rw [mi_n (by omega), mi_n (by omega), mi_n (by omega), mi_n (by omega), mi_n (by omega), mi_n (by omega), mi_n (by omega)]
  by_cases h : k = w
  · rw [if_pos h, h, mi_s]
  · rw [if_neg h, mi_n (by omega)]; unfold xt_1; rw [mi_n (by omega), mi_n (by omega)]
theorem xt_5 (G : mm_T) (w : Nat) (s : Int) (k : Nat) : mm_I (xt_v G w s) (300 + k) 5 = if k = w then ((mm_I G 12 4).toNat : Int) else mm_I G (300 + k) 5 := by
  unfold xt_v
  rw [mi_n (by omega)]
  by_cases h : k = w
  · rw [if_pos h, h, mi_s]
  · rw [if_neg h, mi_n (by omega), mi_n (by omega), mi_n (by omega), mi_n (by omega), mi_n (by omega), mi_n (by omega), mi_n (by omega)]; unfold xt_1; rw [mi_n (by omega), mi_n (by omega)]
theorem xt_w (G : mm_T) (w : Nat) (s : Int) (k : Nat) {j : Nat} (h4 : j ≠ 4) (h5 : j ≠ 5) : mm_I (xt_v G w s) (300 + k) j = mm_I G (300 + k) j := by
  unfold xt_v
  rw [mi_n (by omega), mi_n (by omega), mi_n (by omega), mi_n (by omega), mi_n (by omega), mi_n (by omega), mi_n (by omega), mi_n (by omega)]
  unfold xt_1; rw [mi_n (by omega), mi_n (by omega)]
theorem xt_k (G : mm_T) (w : Nat) (s : Int) {k : Nat} (h : k ≠ w) : mm_I (xt_v G w s) (300 + k) = mm_I G (300 + k) := by
  unfold xt_v
  rw [mi_o _ _ _ (by omega), mi_o _ _ _ (by omega), mi_o _ _ _ (by omega), mi_o _ _ _ (by omega), mi_o _ _ _ (by omega), mi_o _ _ _ (by omega), mi_o _ _ _ (by omega), mi_o _ _ _ (by omega)]
  unfold xt_1; rw [mi_o _ _ _ (by omega), mi_o _ _ _ (by omega)]
theorem xt_i (G : mm_T) (w : Nat) (s : Int) {a : Nat} (ha : a < 300) (h0 : a ≠ 4) (h1 : a ≠ 12) (h2 : a ≠ 13) (h3 : a ≠ 14) (h4 : a ≠ 15) (h5 : a ≠ 16) : mm_I (xt_v G w s) a = mm_I G a := by
  unfold xt_v
  rw [mi_o _ _ _ (by omega), mi_o _ _ _ (by omega), mi_o _ _ _ (by omega), mi_o _ _ _ (by omega), mi_o _ _ _ (by omega), mi_o _ _ _ (by omega), mi_o _ _ _ (by omega), mi_o _ _ _ (by omega)]
  unfold xt_1; rw [mi_o _ _ _ (by omega), mi_o _ _ _ (by omega)]
theorem xt_12 (G : mm_T) (w : Nat) (s : Int) : mm_I (xt_v G w s) 12 4 = (mm_I G 12 4).toNat + 1 := by
  unfold xt_v
  rw [mi_n (by omega), mi_n (by omega), mi_s]
theorem xt_l (G : mm_T) (w : Nat) (s : Int) (t : Nat) : mm_I (xt_v G w s) 4 t = (if t = s.toNat then 1 else 0) + (mm_I G 4 t - (if t = (mm_I G (300 + w) 4).toNat then 1 else 0)) := by
  have h1 : mm_I (xt_1 G w) 4 t = mm_I G 4 t - (if t = (mm_I G (300 + w) 4).toNat then 1 else 0) := by
    unfold xt_1
    by_cases h : t = (mm_I G (300 + w) 4).toNat
    · rw [if_pos h, h, mi_s]
    · rw [if_neg h, mi_n (by omega), mi_n (by omega)]; omega
  unfold xt_v
  by_cases h : t = s.toNat
  · rw [if_pos h, ← h1, h, mi_s]; omega
  · rw [if_neg h, ← h1, mi_n (by omega), mi_n (by omega), mi_n (by omega), mi_n (by omega), mi_n (by omega), mi_n (by omega), mi_n (by omega), mi_n (by omega)]; omega
theorem ct_up {f g : Nat → Int} {w : Nat} {s : Int} (hg : ∀ k, g k = if k = w then s else f k) (u : Int) (n : Nat) : ct_n g u n = ct_n f u n + (if w < n then (if s = u then 1 else 0) - (if f w = u then 1 else 0) else 0) := by
  induction n with
  | zero => simp [ct_n]
  | succ n ih =>
    rw [ct_n, ct_n, ih, hg n]
    by_cases h : n = w
    · subst h
      rw [if_pos rfl, if_neg (show ¬ n < n by omega), if_pos (show n < n + 1 by omega)]
      omega
    · rw [if_neg h]
      by_cases h2 : w < n
      · rw [if_pos h2, if_pos (show w < n + 1 by omega)]; omega
      · rw [if_neg h2, if_neg (show ¬ w < n + 1 by omega)]; omega
theorem ct_pos {f : Nat → Int} {w n : Nat} (h : w < n) : 1 ≤ ct_n f (f w) n := by
  induction n with
  | zero => omega
  | succ n ih =>
    have := ct_rng f (f w) n
    rw [ct_n]
    by_cases hw : w = n
    · subst hw; rw [if_pos rfl]; omega
    · have := ih (by omega); split <;> omega
/-- what the class keeps of its wheels, shelves and stays -/
def xk_I (G : mm_T) (wc c : Nat) : Prop := fx_R G ∧ fx_W G ∧ mm_I G 0 14 = wc ∧ mm_I G 12 4 = c ∧ (∀ k, k < wc → mm_I G (300 + k) 0 = k ∧ (0 ≤ mm_I G (300 + k) 5 ∧ mm_I G (300 + k) 5 < c) ∧ (-1 ≤ mm_I G (300 + k) 4 ∧ mm_I G (300 + k) 4 ≤ 23)) ∧ (∀ t : Nat, t < 24 → mm_I G 4 t = ct_n (fun k => mm_I G (300 + k) 4) t wc)
theorem xt_I {G : mm_T} {wc c w : Nat} {s : Int} (h : xk_I G wc c) (hw : w < wc) (hl : mm_I G (300 + w) 4 ≠ -1) (hs : 0 ≤ s ∧ s ≤ 23) : xk_I (xt_v G w s) wc (c + 1) := by
  obtain ⟨h1, h2, h3, h4, h5, h6⟩ := h
  have e0 : mm_I (xt_v G w s) 0 = mm_I G 0 := xt_i _ _ _ (by omega) (by omega) (by omega) (by omega) (by omega) (by omega) (by omega)
  refine ⟨h1, ?_, by rw [e0]; exact h3, by rw [xt_12, h4]; omega, fun k hk => ?_, fun t ht => ?_⟩
  · unfold fx_W at h2 ⊢
    rw [e0]; exact h2
  · have := h5 k hk
    rw [xt_w _ _ _ _ (by omega) (by omega), xt_5, xt_4, h4]
    refine ⟨this.1, ?_, ?_⟩
    · split <;> omega
    · split <;> omega
  · have hw5 := (h5 w hw).2.2
    rw [xt_l, ct_up (f := fun k => mm_I G (300 + k) 4) (w := w) (s := s) (fun k => xt_4 G w s k), ← h6 t ht, if_pos hw]
    have a1 : (t = s.toNat) ↔ (s = (t : Int)) := by omega
    have a2 : (t = (mm_I G (300 + w) 4).toNat) ↔ (mm_I G (300 + w) 4 = (t : Int)) := by omega
    simp only [a1, a2]
    omega
def mv_n (G : mm_T) : Nat → Nat
  | 0 => 0
  | w + 1 => mv_n G w + if mm_I G (300 + w) 4 ≠ -1 ∧ mm_I G 32 w ≠ -1 then 1 else 0
theorem mv_mono (G : mm_T) {a b : Nat} (h : a ≤ b) : mv_n G a ≤ mv_n G b := by
  induction b with
  | zero => rw [show a = 0 by omega]; exact Nat.le_refl _
  | succ b ih =>
    by_cases e : a = b + 1
    · rw [e]; exact Nat.le_refl _
    · have := ih (by omega); rw [mv_n]; omega
def xcar (G : mm_T) : Nat → mm_T
  | 0 => G
  | w + 1 => if mm_I G (300 + w) 4 ≠ -1 ∧ mm_I G 32 w ≠ -1 then xt_v (xcar G w) w (mm_I G 32 w) else xcar G w
theorem xcar_f (G : mm_T) (w : Nat) : mm_R (xcar G w) = mm_R G ∧ (∀ a, a < 300 → a ≠ 4 → a ≠ 12 → a ≠ 13 → a ≠ 14 → a ≠ 15 → a ≠ 16 → mm_I (xcar G w) a = mm_I G a) ∧ (∀ k, w ≤ k → mm_I (xcar G w) (300 + k) = mm_I G (300 + k)) ∧ mm_J (xcar G w) = mm_J G ∧ mm_A (xcar G w) = mm_A G := by
  induction w with
  | zero => exact ⟨rfl, fun _ _ _ _ _ _ _ _ => rfl, fun _ _ => rfl, rfl, rfl⟩
  | succ w ih =>
    obtain ⟨h1, h2, h3, h4, h5⟩ := ih
    rw [xcar]
    split
    · refine ⟨h1, fun a b0 b1 b2 b3 b4 b5 b6 => ?_, fun k hk => ?_, h4, h5⟩
      · rw [xt_i _ _ _ b0 b1 b2 b3 b4 b5 b6]; exact h2 a b0 b1 b2 b3 b4 b5 b6
      · rw [xt_k _ _ _ (by omega)]; exact h3 k (by omega)
    · exact ⟨h1, h2, fun k hk => h3 k (by omega), h4, h5⟩
theorem xcar_I {G : mm_T} {wc c : Nat} (h : xk_I G wc c) (hk : ∀ k, k < wc → -1 ≤ mm_I G 32 k ∧ mm_I G 32 k ≤ 23) : ∀ w, w ≤ wc → xk_I (xcar G w) wc (c + mv_n G w) := by
  intro w
  induction w with
  | zero => intro _; exact h
  | succ w ih =>
    intro hw
    have i1 := ih (by omega)
    have k1 := hk w (by omega)
    have e := congrFun ((xcar_f G w).2.2.1 w (by omega)) 4
    rw [xcar, mv_n]
    by_cases hC : mm_I G (300 + w) 4 ≠ -1 ∧ mm_I G 32 w ≠ -1
    · rw [if_pos hC, if_pos hC]
      exact xt_I i1 (by omega) (by omega) (by omega)
    · rw [if_neg hC, if_neg hC]; exact i1
theorem lp_K_carry (X : gx_T) (d : Nat) (G : mm_T) {wc c : Nat} {kc : Int} (hI : xk_I G wc c) (hwc : wc ≤ 40) (hkc : i3_in kc) (hk : ∀ k, k < wc → -1 ≤ mm_I G 32 k ∧ mm_I G 32 k ≤ 23) (hm : c + mv_n G wc ≤ 200) (h10 : mm_I G 24 10 ≠ 0) : ∀ n w, w + n = wc → aw_W X mt_K_carry (d + 5) 39 [(0, some (av_r (some 0))), (1, some (av_i kc)), (2, some (av_i (w : Int)))] [] (xcar G w) 0 0 (fun r G' => r = some (av_i kc) ∧ G' = ms_I (ms_I (xcar G wc) 24 10 0) 24 9 0) := by
  intro n
  induction n with
  | zero =>
    intro w hw
    have hw : w = wc := by omega
    subst hw
    obtain ⟨hF, -, e14, -⟩ := xcar_I hI hk w (by omega)
    generalize xcar G w = G1 at *
    refine ar_iload_n (pc := 39) d_K_carry_39 rfl ?_
    refine ar_aload_n (pc := 40) d_K_carry_40 rfl ?_
    refine ar_getIv (pc := 41) gf_K_115 d_K_carry_41 (by first | rfl | exact sh_wheel (by omega) | exact sh_milk (by omega)) e14 (fun r_41 => ?_)
    refine ar_icmp_ge (pc := 44) 86 d_K_carry_44 (by decide) ⟨by omega, by omega⟩ ⟨by omega, by omega⟩ (fun h_44 => ?_) (fun h_44 => by exfalso; omega)
    refine ar_aload_n (pc := 86) d_K_carry_86 rfl ?_
    refine ar_getR (pc := 87) gf_K_52 d_K_carry_87 (by first | rfl | exact sh_wheel (by omega) | exact sh_milk (by omega)) (hF _ _ _ rfl) ?_
    refine ac_virt (pc := 90) (N := mt_Pl_forget) _ _ mv_Pl_forget ml_K_246 ck_4 d_K_carry_90 (cm_Pl_forget _ _ _) (by first | rfl | exact sh_wheel (by omega) | exact sh_milk (by omega)) rfl rfl (Nat.le_of_ble_eq_true rfl) (Nat.le_of_eq (Nat.zero_add _)) (Nat.le_of_eq (Nat.zero_add _)) (fun r_90 G_90 h_90 => ?_)
    obtain ⟨rfl, e_90⟩ := h_90
    subst G_90
    refine ar_iload_n (pc := 93) d_K_carry_93 rfl ?_
    refine ar_iret (pc := 94) d_K_carry_94 rfl ?_
    rotate_left
    -- leaves: ret 94
    · exact ⟨rfl, rfl⟩
  | succ n ih =>
    intro w hw
    have hI1 := xcar_I hI hk w (by omega)
    have f := xcar_f G w
    have k1 := hk w (by omega)
    have m1 := mv_mono G (show w + 1 ≤ wc by omega)
    rw [mv_n] at m1
    have ih1 := ih (w + 1) (by omega)
    rw [xcar] at ih1
    have e4 := congrFun (f.2.2.1 w (by omega)) 4
    have e32 := congrFun (f.2.1 32 (by omega) (by omega) (by omega) (by omega) (by omega) (by omega) (by omega)) w
    have e24 := congrFun (f.2.1 24 (by omega) (by omega) (by omega) (by omega) (by omega) (by omega) (by omega)) 10
    rw [← e24] at h10
    rw [← e4, ← e32] at ih1 m1
    rw [← e32] at k1
    generalize hG1 : xcar G w = G1 at *
    clear f e4 e32 e24 hG1 ih
    obtain ⟨hF, hW, e14, e12, hi5, hi6⟩ := hI1
    have i5 := hi5 w (by omega)
    have hlw := cm_K_lyingWheel X (d + 2) G1 (m := (w : Int)) hF hW ⟨by omega, by omega⟩
    have hsf := cm_Pl_shelfFor X (d + 2) G1 (w := (w : Int)) hF ⟨by omega, by omega⟩
    rw [Int.toNat_natCast] at hlw hsf
    rw [if_pos (by omega)] at hsf
    have ht := fun (a1 : mm_I G1 (300 + w) 4 ≠ -1) (a2 : mm_I G1 32 w ≠ -1) => cm_K_takeTo2 X d G1 (w := w) (s := mm_I G1 32 w) hF (by omega) (by omega) i5.1 (by rw [if_pos ⟨a1, a2⟩] at m1; omega) (by rw [e12]; exact i5.2.1) (by omega) (fun k hk => by have := ct_rng (fun k => mm_I G1 (300 + k) 4) k wc; have := hi6 k hk; omega) (by have := ct_pos (f := fun k => mm_I G1 (300 + k) 4) (show w < wc by omega); have h6 := hi6 (mm_I G1 (300 + w) 4).toNat (by omega); rw [Int.toNat_of_nonneg (by omega)] at h6; omega)
    clear hi6 hi5 m1
    by_cases hl : mm_I G1 (300 + w) 4 ≠ -1
    · rw [if_pos ⟨by omega, hl⟩] at hlw
      by_cases h2 : mm_I G1 32 w ≠ -1
      · rw [if_pos ⟨hl, h2⟩] at ih1
        refine ar_iload_n (pc := 39) d_K_carry_39 rfl ?_
        refine ar_aload_n (pc := 40) d_K_carry_40 rfl ?_
        refine ar_getIv (pc := 41) gf_K_115 d_K_carry_41 (by first | rfl | exact sh_wheel (by omega) | exact sh_milk (by omega)) e14 (fun r_41 => ?_)
        refine ar_icmp_ge (pc := 44) 86 d_K_carry_44 (by decide) ⟨by omega, by omega⟩ ⟨by omega, by omega⟩ (fun h_44 => by exfalso; omega) (fun h_44 => ?_)
        refine ar_aload_n (pc := 47) d_K_carry_47 rfl ?_
        refine ar_iload_n (pc := 48) d_K_carry_48 rfl ?_
        refine ac_virt (pc := 49) (N := mt_K_lyingWheel) _ _ mv_K_lyingWheel ml_K_125 ck_11 d_K_carry_49 hlw (by first | rfl | exact sh_wheel (by omega) | exact sh_milk (by omega)) rfl rfl (Nat.le_of_ble_eq_true rfl) (Nat.le_of_eq (Nat.zero_add _)) (Nat.le_of_eq (Nat.zero_add _)) (fun r_49 G_49 h_49 => ?_)
        obtain ⟨rfl, e_49⟩ := h_49
        subst G_49
        refine ar_astore_n (pc := 52) d_K_carry_52 rfl (by decide) ?_
        refine ar_aload_n (pc := 53) d_K_carry_53 rfl ?_
        refine ar_getR (pc := 54) gf_K_52 d_K_carry_54 (by first | rfl | exact sh_wheel (by omega) | exact sh_milk (by omega)) (hF _ _ _ rfl) ?_
        refine ar_iload_n (pc := 57) d_K_carry_57 rfl ?_
        refine ac_virt (pc := 58) (N := mt_Pl_shelfFor) _ _ mv_Pl_shelfFor ml_K_236 ck_4 d_K_carry_58 hsf (by first | rfl | exact sh_wheel (by omega) | exact sh_milk (by omega)) rfl rfl (Nat.le_of_ble_eq_true rfl) (Nat.le_of_eq (Nat.zero_add _)) (Nat.le_of_eq (Nat.zero_add _)) (fun r_58 G_58 h_58 => ?_)
        obtain ⟨rfl, e_58⟩ := h_58
        subst G_58
        refine ar_istore (pc := 61) d_K_carry_61 rfl (by decide) ?_
        refine ar_aload_n (pc := 63) d_K_carry_63 rfl ?_
        refine ar_ifnull (pc := 64) 80 d_K_carry_64 (by decide) (fun h => by cases h) (fun _ _ => ?_)
        refine ar_iload (pc := 67) d_K_carry_67 rfl ?_
        refine ar_iconst (pc := 69) d_K_carry_69 ?_
        refine ar_icmp_eq (pc := 70) 80 d_K_carry_70 (by decide) ⟨by omega, by omega⟩ ⟨by omega, by omega⟩ (fun h_70 => by exfalso; omega) (fun h_70 => ?_)
        refine ar_aload_n (pc := 73) d_K_carry_73 rfl ?_
        refine ar_aload_n (pc := 74) d_K_carry_74 rfl ?_
        refine ar_iload (pc := 75) d_K_carry_75 rfl ?_
        refine ac_virt (pc := 77) (N := mt_K_takeTo) _ _ mv_K_takeTo ml_K_217 ck_11 d_K_carry_77 (ht hl h2) (by first | rfl | exact sh_wheel (by omega) | exact sh_milk (by omega)) rfl rfl (Nat.le_of_ble_eq_true rfl) (Nat.le_of_eq (Nat.zero_add _)) (Nat.le_of_eq (Nat.zero_add _)) (fun r_77 G_77 h_77 => ?_)
        obtain ⟨rfl, e_77⟩ := h_77
        subst G_77
        refine ar_iinc (pc := 80) d_K_carry_80 rfl rfl (by decide) ?_
        refine ar_goto (pc := 83) 39 d_K_carry_83 (by decide) ?_
        rotate_left
        -- leaves: stop 39
        · exact ar_loc ih1 ⟨rfl, rfl, li_i rfl (by omega), trivial⟩
      · rw [if_neg (fun z => h2 z.2)] at ih1
        refine ar_iload_n (pc := 39) d_K_carry_39 rfl ?_
        refine ar_aload_n (pc := 40) d_K_carry_40 rfl ?_
        refine ar_getIv (pc := 41) gf_K_115 d_K_carry_41 (by first | rfl | exact sh_wheel (by omega) | exact sh_milk (by omega)) e14 (fun r_41 => ?_)
        refine ar_icmp_ge (pc := 44) 86 d_K_carry_44 (by decide) ⟨by omega, by omega⟩ ⟨by omega, by omega⟩ (fun h_44 => by exfalso; omega) (fun h_44 => ?_)
        refine ar_aload_n (pc := 47) d_K_carry_47 rfl ?_
        refine ar_iload_n (pc := 48) d_K_carry_48 rfl ?_
        refine ac_virt (pc := 49) (N := mt_K_lyingWheel) _ _ mv_K_lyingWheel ml_K_125 ck_11 d_K_carry_49 hlw (by first | rfl | exact sh_wheel (by omega) | exact sh_milk (by omega)) rfl rfl (Nat.le_of_ble_eq_true rfl) (Nat.le_of_eq (Nat.zero_add _)) (Nat.le_of_eq (Nat.zero_add _)) (fun r_49 G_49 h_49 => ?_)
        obtain ⟨rfl, e_49⟩ := h_49
        subst G_49
        refine ar_astore_n (pc := 52) d_K_carry_52 rfl (by decide) ?_
        refine ar_aload_n (pc := 53) d_K_carry_53 rfl ?_
        refine ar_getR (pc := 54) gf_K_52 d_K_carry_54 (by first | rfl | exact sh_wheel (by omega) | exact sh_milk (by omega)) (hF _ _ _ rfl) ?_
        refine ar_iload_n (pc := 57) d_K_carry_57 rfl ?_
        refine ac_virt (pc := 58) (N := mt_Pl_shelfFor) _ _ mv_Pl_shelfFor ml_K_236 ck_4 d_K_carry_58 hsf (by first | rfl | exact sh_wheel (by omega) | exact sh_milk (by omega)) rfl rfl (Nat.le_of_ble_eq_true rfl) (Nat.le_of_eq (Nat.zero_add _)) (Nat.le_of_eq (Nat.zero_add _)) (fun r_58 G_58 h_58 => ?_)
        obtain ⟨rfl, e_58⟩ := h_58
        subst G_58
        refine ar_istore (pc := 61) d_K_carry_61 rfl (by decide) ?_
        refine ar_aload_n (pc := 63) d_K_carry_63 rfl ?_
        refine ar_ifnull (pc := 64) 80 d_K_carry_64 (by decide) (fun h => by cases h) (fun _ _ => ?_)
        refine ar_iload (pc := 67) d_K_carry_67 rfl ?_
        refine ar_iconst (pc := 69) d_K_carry_69 ?_
        refine ar_icmp_eq (pc := 70) 80 d_K_carry_70 (by decide) ⟨by omega, by omega⟩ ⟨by omega, by omega⟩ (fun h_70 => ?_) (fun h_70 => by exfalso; omega)
        refine ar_iinc (pc := 80) d_K_carry_80 rfl rfl (by decide) ?_
        refine ar_goto (pc := 83) 39 d_K_carry_83 (by decide) ?_
        rotate_left
        -- leaves: stop 39
        · exact ar_loc ih1 ⟨rfl, rfl, li_i rfl (by omega), trivial⟩
    · rw [if_neg (fun z => hl z.2)] at hlw
      rw [if_neg (fun z => hl z.1)] at ih1
      refine ar_iload_n (pc := 39) d_K_carry_39 rfl ?_
      refine ar_aload_n (pc := 40) d_K_carry_40 rfl ?_
      refine ar_getIv (pc := 41) gf_K_115 d_K_carry_41 (by first | rfl | exact sh_wheel (by omega) | exact sh_milk (by omega)) e14 (fun r_41 => ?_)
      refine ar_icmp_ge (pc := 44) 86 d_K_carry_44 (by decide) ⟨by omega, by omega⟩ ⟨by omega, by omega⟩ (fun h_44 => by exfalso; omega) (fun h_44 => ?_)
      refine ar_aload_n (pc := 47) d_K_carry_47 rfl ?_
      refine ar_iload_n (pc := 48) d_K_carry_48 rfl ?_
      refine ac_virt (pc := 49) (N := mt_K_lyingWheel) _ _ mv_K_lyingWheel ml_K_125 ck_11 d_K_carry_49 hlw (by first | rfl | exact sh_wheel (by omega) | exact sh_milk (by omega)) rfl rfl (Nat.le_of_ble_eq_true rfl) (Nat.le_of_eq (Nat.zero_add _)) (Nat.le_of_eq (Nat.zero_add _)) (fun r_49 G_49 h_49 => ?_)
      obtain ⟨rfl, e_49⟩ := h_49
      subst G_49
      refine ar_astore_n (pc := 52) d_K_carry_52 rfl (by decide) ?_
      refine ar_aload_n (pc := 53) d_K_carry_53 rfl ?_
      refine ar_getR (pc := 54) gf_K_52 d_K_carry_54 (by first | rfl | exact sh_wheel (by omega) | exact sh_milk (by omega)) (hF _ _ _ rfl) ?_
      refine ar_iload_n (pc := 57) d_K_carry_57 rfl ?_
      refine ac_virt (pc := 58) (N := mt_Pl_shelfFor) _ _ mv_Pl_shelfFor ml_K_236 ck_4 d_K_carry_58 hsf (by first | rfl | exact sh_wheel (by omega) | exact sh_milk (by omega)) rfl rfl (Nat.le_of_ble_eq_true rfl) (Nat.le_of_eq (Nat.zero_add _)) (Nat.le_of_eq (Nat.zero_add _)) (fun r_58 G_58 h_58 => ?_)
      obtain ⟨rfl, e_58⟩ := h_58
      subst G_58
      refine ar_istore (pc := 61) d_K_carry_61 rfl (by decide) ?_
      refine ar_aload_n (pc := 63) d_K_carry_63 rfl ?_
      refine ar_ifnull (pc := 64) 80 d_K_carry_64 (by decide) (fun _ => ?_) (fun _ h => by cases h)
      refine ar_iinc (pc := 80) d_K_carry_80 rfl rfl (by decide) ?_
      refine ar_goto (pc := 83) 39 d_K_carry_83 (by decide) ?_
      rotate_left
      -- leaves: stop 39
      · exact ar_loc ih1 ⟨rfl, rfl, li_i rfl (by omega), trivial⟩
theorem cm_K_carry (X : gx_T) (d : Nat) (G : mm_T) {wc c n : Nat} (hI : xk_I G wc c) (hwc : wc ≤ 40) (hc2 : c ≤ 200) (hkc : mm_I G 24 9 = n) (hn : n ≤ 40) (hk : mm_I G 24 10 ≠ 0 → mm_I G 24 11 = 0 → (∀ k, k < wc → -1 ≤ mm_I G 32 k ∧ mm_I G 32 k ≤ 23) ∧ mv_n G wc = n) : aw_M X (d + 5) mt_K_carry [av_r (some 0)] G 0 0 (fun r G' => ((mm_I G 24 10 ≠ 0 ∧ mm_I G 24 11 = 0) ∧ c + n ≤ 200) ∧ r = some (av_i n) ∧ G' = ms_I (ms_I (xcar G wc) 24 10 0) 24 9 0 ∨ ¬ ((mm_I G 24 10 ≠ 0 ∧ mm_I G 24 11 = 0) ∧ c + n ≤ 200) ∧ r = some (av_i (-1)) ∧ G' = G) := by
  have h := fun (h1 : mm_I G 24 10 ≠ 0) (h2 : mm_I G 24 11 = 0) (h3 : c + n ≤ 200) => lp_K_carry X d G (kc := (n : Int)) hI hwc ⟨by omega, by omega⟩ (hk h1 h2).1 (by rw [(hk h1 h2).2]; exact h3) h1 wc 0 (by omega)
  have hF := hI.1
  have hc := hI.2.2.2.1
  refine aw_enter pf_K_carry (Nat.le_of_ble_eq_true rfl) ?_
  refine ar_aload_n (pc := 0) d_K_carry_0 rfl ?_
  refine ar_getR (pc := 1) gf_K_52 d_K_carry_1 (by first | rfl | exact sh_wheel (by omega) | exact sh_milk (by omega)) (hF _ _ _ rfl) ?_
  refine ac_virt (pc := 4) (N := mt_Pl_canBeCarried) _ _ mv_Pl_canBeCarried ml_K_240 ck_4 d_K_carry_4 (cm_Pl_canBeCarried _ _ _) (by first | rfl | exact sh_wheel (by omega) | exact sh_milk (by omega)) rfl rfl (Nat.le_of_ble_eq_true rfl) (Nat.le_of_eq (Nat.zero_add _)) (Nat.le_of_eq (Nat.zero_add _)) (fun r_4 G_4 h_4 => ?_)
  obtain ⟨rfl, e_4⟩ := h_4
  subst G_4
  refine ar_if_eq (pc := 7) 27 d_K_carry_7 (by decide) ⟨by omega, by omega⟩ (fun h_7 => ?_) (fun h_7 => ?_)
  refine ar_iconst (pc := 27) d_K_carry_27 ?_
  refine ar_iret (pc := 28) d_K_carry_28 rfl ?_
  rotate_left
  refine ar_aload_n (pc := 10) d_K_carry_10 rfl ?_
  refine ar_getR (pc := 11) gf_K_38 d_K_carry_11 (by first | rfl | exact sh_wheel (by omega) | exact sh_milk (by omega)) (hF _ _ _ rfl) ?_
  refine ar_aload_n (pc := 14) d_K_carry_14 rfl ?_
  refine ar_getR (pc := 15) gf_K_52 d_K_carry_15 (by first | rfl | exact sh_wheel (by omega) | exact sh_milk (by omega)) (hF _ _ _ rfl) ?_
  refine ar_getIv (pc := 18) gf_K_243 d_K_carry_18 (by first | rfl | exact sh_wheel (by omega) | exact sh_milk (by omega)) hkc (fun r_18 => ?_)
  refine ac_virt (pc := 21) (N := mt_St_haveRoomFor) _ _ mv_St_haveRoomFor ml_K_118 ck_7 d_K_carry_21 (cm_St_haveRoomFor _ _ _ ⟨by omega, by omega⟩ (by omega)) (by first | rfl | exact sh_wheel (by omega) | exact sh_milk (by omega)) rfl rfl (Nat.le_of_ble_eq_true rfl) (Nat.le_of_eq (Nat.zero_add _)) (Nat.le_of_eq (Nat.zero_add _)) (fun r_21 G_21 h_21 => ?_)
  obtain ⟨rfl, e_21⟩ := h_21
  subst G_21
  refine ar_if_ne (pc := 24) 29 d_K_carry_24 (by decide) ⟨by omega, by omega⟩ (fun h_24 => ?_) (fun h_24 => ?_)
  refine ar_aload_n (pc := 29) d_K_carry_29 rfl ?_
  refine ar_getR (pc := 30) gf_K_52 d_K_carry_30 (by first | rfl | exact sh_wheel (by omega) | exact sh_milk (by omega)) (hF _ _ _ rfl) ?_
  refine ar_getIv (pc := 33) gf_K_243 d_K_carry_33 (by first | rfl | exact sh_wheel (by omega) | exact sh_milk (by omega)) hkc (fun r_33 => ?_)
  refine ar_istore_n (pc := 36) d_K_carry_36 rfl (by decide) ?_
  refine ar_iconst (pc := 37) d_K_carry_37 ?_
  refine ar_istore_n (pc := 38) d_K_carry_38 rfl (by decide) ?_
  rotate_left
  refine ar_iconst (pc := 27) d_K_carry_27 ?_
  refine ar_iret (pc := 28) d_K_carry_28 rfl ?_
  rotate_left
  -- leaves: ret 28, stop 39, ret 28
  · exact Or.inr ⟨by omega, rfl, rfl⟩
  · exact ar_mono (fun r G2 hr => Or.inl ⟨⟨by omega, by omega⟩, hr⟩) (ar_loc (h (by omega) (by omega) (by omega)) ⟨rfl, rfl, li_i rfl (by omega), trivial⟩)
  · exact Or.inr ⟨by omega, rfl, rfl⟩
