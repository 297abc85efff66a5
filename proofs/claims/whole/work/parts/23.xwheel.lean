/-! ===== a wheel of the class ===== -/
def mk_th (G : mm_T) (i : Nat) : Prop := 0 ≤ mm_I G 40 i ∧ mm_I G 40 i < mm_I G 0 13 ∧ 1 ≤ mm_I G 41 i ∧ mm_I G 41 i ≤ mm_I G (200 + (mm_I G 40 i).toNat) 1
theorem lp_K_isMilkThere (X : gx_T) (d : Nat) (G : mm_T) {u : Nat} (hF : fx_R G) (hW : fx_W G) (hu : u < 3) : ∀ n i, i + n = u → (∀ j, j < i → mm_I G 40 j ≠ mm_I G 40 u) → aw_W X mt_K_isMilkThere (d + 2) 2 [(0, some (av_r (some 0))), (1, some (av_i (u : Int))), (2, some (av_i (i : Int)))] [] G 0 0 (fun r G' => r = some (av_i (bv_p ((∀ j, j < u → mm_I G 40 j ≠ mm_I G 40 u) ∧ mk_th G u))) ∧ G' = G) := by
  have hW1 := hW.1
  intro n
  induction n with
  | zero =>
    intro i hi hno
    have hi : i = u := by omega
    subst hi
    refine ar_rngI fun rg => ?_
    have rm := rg 40 i
    have h := cm_K_milkAt X d G (m := mm_I G 40 i) hF hW rm
    by_cases hin : 0 ≤ mm_I G 40 i ∧ mm_I G 40 i < mm_I G 0 13
    · rw [if_pos hin] at h
      have t1 : (1 ≤ mm_I G 41 i ∧ mm_I G 41 i ≤ mm_I G (200 + (mm_I G 40 i).toNat) 1) → (1 : Int) = bv_p ((∀ j, j < i → mm_I G 40 j ≠ mm_I G 40 i) ∧ mk_th G i) := fun z => bv_1 ⟨hno, hin.1, hin.2, z⟩
      have t0 : ¬ (1 ≤ mm_I G 41 i ∧ mm_I G 41 i ≤ mm_I G (200 + (mm_I G 40 i).toNat) 1) → (0 : Int) = bv_p ((∀ j, j < i → mm_I G 40 j ≠ mm_I G 40 i) ∧ mk_th G i) := fun z => bv_0 (fun q => z q.2.2.2)
      refine ar_iload_n (pc := 2) d_K_isMilkThere_2 rfl ?_
      refine ar_iload_n (pc := 3) d_K_isMilkThere_3 rfl ?_
      refine ar_icmp_ge (pc := 4) 30 d_K_isMilkThere_4 (by decide) ⟨by omega, by omega⟩ ⟨by omega, by omega⟩ (fun h_4 => ?_) (fun h_4 => by exfalso; omega)
      refine ar_aload_n (pc := 30) d_K_isMilkThere_30 rfl ?_
      refine ar_aload_n (pc := 31) d_K_isMilkThere_31 rfl ?_
      refine ar_getR (pc := 32) gf_K_70 d_K_isMilkThere_32 (by first | rfl | exact sh_wheel (by omega) | exact sh_milk (by omega)) (hF _ _ _ rfl) ?_
      refine ar_iload_n (pc := 35) d_K_isMilkThere_35 rfl ?_
      refine ar_iald (pc := 36) d_K_isMilkThere_36 rfl (i) (by omega) (by omega) (fun r_36 => ?_)
      refine ac_virt (pc := 37) (N := mt_K_milkAt) _ _ mv_K_milkAt ml_K_199 ck_11 d_K_isMilkThere_37 h (by first | rfl | exact sh_wheel (by omega) | exact sh_milk (by omega)) rfl rfl (Nat.le_of_ble_eq_true rfl) (Nat.le_of_eq (Nat.zero_add _)) (Nat.le_of_eq (Nat.zero_add _)) (fun r_37 G_37 h_37 => ?_)
      obtain ⟨rfl, e_37⟩ := h_37
      subst G_37
      refine ar_astore_n (pc := 40) d_K_isMilkThere_40 rfl (by decide) ?_
      refine ar_aload_n (pc := 41) d_K_isMilkThere_41 rfl ?_
      refine ar_ifnull (pc := 42) 72 d_K_isMilkThere_42 (by decide) (fun h => by cases h) (fun _ _ => ?_)
      refine ar_aload_n (pc := 45) d_K_isMilkThere_45 rfl ?_
      refine ar_getR (pc := 46) gf_K_74 d_K_isMilkThere_46 (by first | rfl | exact sh_wheel (by omega) | exact sh_milk (by omega)) (hF _ _ _ rfl) ?_
      refine ar_iload_n (pc := 49) d_K_isMilkThere_49 rfl ?_
      refine ar_iald (pc := 50) d_K_isMilkThere_50 rfl (i) (by omega) (by omega) (fun r_50 => ?_)
      refine ar_iconst (pc := 51) d_K_isMilkThere_51 ?_
      refine ar_icmp_lt (pc := 52) 72 d_K_isMilkThere_52 (by decide) ⟨by omega, by omega⟩ ⟨by omega, by omega⟩ (fun h_52 => ?_) (fun h_52 => ?_)
      refine ar_iconst (pc := 72) d_K_isMilkThere_72 ?_
      refine ar_zret (pc := 73) d_K_isMilkThere_73 rfl (by omega) ?_
      rotate_left
      refine ar_aload_n (pc := 55) d_K_isMilkThere_55 rfl ?_
      refine ar_getR (pc := 56) gf_K_74 d_K_isMilkThere_56 (by first | rfl | exact sh_wheel (by omega) | exact sh_milk (by omega)) (hF _ _ _ rfl) ?_
      refine ar_iload_n (pc := 59) d_K_isMilkThere_59 rfl ?_
      refine ar_iald (pc := 60) d_K_isMilkThere_60 rfl (i) (by omega) (by omega) (fun r_60 => ?_)
      refine ar_aload_n (pc := 61) d_K_isMilkThere_61 rfl ?_
      refine ar_getI (pc := 62) gf_K_206 d_K_isMilkThere_62 (by first | rfl | exact sh_wheel (by omega) | exact sh_milk (by omega)) (fun r_62 => ?_)
      refine ar_icmp_gt (pc := 65) 72 d_K_isMilkThere_65 (by decide) ⟨by omega, by omega⟩ ⟨by omega, by omega⟩ (fun h_65 => ?_) (fun h_65 => ?_)
      refine ar_iconst (pc := 72) d_K_isMilkThere_72 ?_
      refine ar_zret (pc := 73) d_K_isMilkThere_73 rfl (by omega) ?_
      rotate_left
      refine ar_iconst (pc := 68) d_K_isMilkThere_68 ?_
      refine ar_goto (pc := 69) 73 d_K_isMilkThere_69 (by decide) ?_
      refine ar_zret (pc := 73) d_K_isMilkThere_73 rfl (by omega) ?_
      rotate_left
      -- leaves: ret 73, ret 73, ret 73
      all_goals (refine ⟨congrArg (fun x => some (av_i x)) ?_, rfl⟩)
      all_goals first | exact t0 (by omega) | exact t1 (by omega)
    · rw [if_neg hin] at h
      have t0 : (0 : Int) = bv_p ((∀ j, j < i → mm_I G 40 j ≠ mm_I G 40 i) ∧ mk_th G i) := bv_0 (fun q => hin ⟨q.2.1, q.2.2.1⟩)
      refine ar_iload_n (pc := 2) d_K_isMilkThere_2 rfl ?_
      refine ar_iload_n (pc := 3) d_K_isMilkThere_3 rfl ?_
      refine ar_icmp_ge (pc := 4) 30 d_K_isMilkThere_4 (by decide) ⟨by omega, by omega⟩ ⟨by omega, by omega⟩ (fun h_4 => ?_) (fun h_4 => by exfalso; omega)
      refine ar_aload_n (pc := 30) d_K_isMilkThere_30 rfl ?_
      refine ar_aload_n (pc := 31) d_K_isMilkThere_31 rfl ?_
      refine ar_getR (pc := 32) gf_K_70 d_K_isMilkThere_32 (by first | rfl | exact sh_wheel (by omega) | exact sh_milk (by omega)) (hF _ _ _ rfl) ?_
      refine ar_iload_n (pc := 35) d_K_isMilkThere_35 rfl ?_
      refine ar_iald (pc := 36) d_K_isMilkThere_36 rfl (i) (by omega) (by omega) (fun r_36 => ?_)
      refine ac_virt (pc := 37) (N := mt_K_milkAt) _ _ mv_K_milkAt ml_K_199 ck_11 d_K_isMilkThere_37 h (by first | rfl | exact sh_wheel (by omega) | exact sh_milk (by omega)) rfl rfl (Nat.le_of_ble_eq_true rfl) (Nat.le_of_eq (Nat.zero_add _)) (Nat.le_of_eq (Nat.zero_add _)) (fun r_37 G_37 h_37 => ?_)
      obtain ⟨rfl, e_37⟩ := h_37
      subst G_37
      refine ar_astore_n (pc := 40) d_K_isMilkThere_40 rfl (by decide) ?_
      refine ar_aload_n (pc := 41) d_K_isMilkThere_41 rfl ?_
      refine ar_ifnull (pc := 42) 72 d_K_isMilkThere_42 (by decide) (fun _ => ?_) (fun _ h => by cases h)
      refine ar_iconst (pc := 72) d_K_isMilkThere_72 ?_
      refine ar_zret (pc := 73) d_K_isMilkThere_73 rfl (by omega) ?_
      rotate_left
      -- leaves: ret 73
      · exact ⟨congrArg (fun x => some (av_i x)) t0, rfl⟩
  | succ n ih =>
    intro i hi hno
    have t0 : mm_I G 40 i = mm_I G 40 u → (0 : Int) = bv_p ((∀ j, j < u → mm_I G 40 j ≠ mm_I G 40 u) ∧ mk_th G u) := fun z => bv_0 (fun q => q.1 i (by omega) z)
    have nx := fun (z : mm_I G 40 i ≠ mm_I G 40 u) => ih (i + 1) (by omega) (fun j hj => by
      by_cases hji : j = i
      · rw [hji]; exact z
      · exact hno j (by omega))
    clear ih
    refine ar_iload_n (pc := 2) d_K_isMilkThere_2 rfl ?_
    refine ar_iload_n (pc := 3) d_K_isMilkThere_3 rfl ?_
    refine ar_icmp_ge (pc := 4) 30 d_K_isMilkThere_4 (by decide) ⟨by omega, by omega⟩ ⟨by omega, by omega⟩ (fun h_4 => by exfalso; omega) (fun h_4 => ?_)
    refine ar_aload_n (pc := 7) d_K_isMilkThere_7 rfl ?_
    refine ar_getR (pc := 8) gf_K_70 d_K_isMilkThere_8 (by first | rfl | exact sh_wheel (by omega) | exact sh_milk (by omega)) (hF _ _ _ rfl) ?_
    refine ar_iload_n (pc := 11) d_K_isMilkThere_11 rfl ?_
    refine ar_iald (pc := 12) d_K_isMilkThere_12 rfl (i) (by omega) (by omega) (fun r_12 => ?_)
    refine ar_aload_n (pc := 13) d_K_isMilkThere_13 rfl ?_
    refine ar_getR (pc := 14) gf_K_70 d_K_isMilkThere_14 (by first | rfl | exact sh_wheel (by omega) | exact sh_milk (by omega)) (hF _ _ _ rfl) ?_
    refine ar_iload_n (pc := 17) d_K_isMilkThere_17 rfl ?_
    refine ar_iald (pc := 18) d_K_isMilkThere_18 rfl (u) (by omega) (by omega) (fun r_18 => ?_)
    refine ar_icmp_ne (pc := 19) 24 d_K_isMilkThere_19 (by decide) ⟨by omega, by omega⟩ ⟨by omega, by omega⟩ (fun h_19 => ?_) (fun h_19 => ?_)
    refine ar_iinc (pc := 24) d_K_isMilkThere_24 rfl rfl (by decide) ?_
    refine ar_goto (pc := 27) 2 d_K_isMilkThere_27 (by decide) ?_
    rotate_left
    refine ar_iconst (pc := 22) d_K_isMilkThere_22 ?_
    refine ar_zret (pc := 23) d_K_isMilkThere_23 rfl (by omega) ?_
    rotate_left
    -- leaves: stop 2, ret 23
    · exact ar_loc (nx h_19) ⟨rfl, rfl, li_i rfl (by omega), trivial⟩
    · exact ⟨congrArg (fun x => some (av_i x)) (t0 h_19), rfl⟩
theorem cm_K_isMilkThere (X : gx_T) (d : Nat) (G : mm_T) {u : Nat} (hF : fx_R G) (hW : fx_W G) (hu : u < 3) : aw_M X (d + 2) mt_K_isMilkThere [av_r (some 0), av_i (u : Int)] G 0 0 (fun r G' => r = some (av_i (bv_p ((∀ j, j < u → mm_I G 40 j ≠ mm_I G 40 u) ∧ mk_th G u))) ∧ G' = G) := by
  refine aw_enter pf_K_isMilkThere (Nat.le_of_ble_eq_true rfl) ?_
  refine ar_iconst (pc := 0) d_K_isMilkThere_0 ?_
  refine ar_istore_n (pc := 1) d_K_isMilkThere_1 rfl (by decide) ?_
  rotate_left
  -- leaves: stop 2
  · exact ar_loc (lp_K_isMilkThere X d G hF hW hu u 0 (by omega) (fun j hj => by omega)) ⟨rfl, rfl, rfl, trivial⟩
theorem lp_K_areMilksThere (X : gx_T) (d : Nat) (G : mm_T) (hF : fx_R G) (hW : fx_W G) : ∀ n i, i + n = 3 → (∀ u, u < i → mm_I G 40 u = -1 ∨ ((∀ j, j < u → mm_I G 40 j ≠ mm_I G 40 u) ∧ mk_th G u)) → aw_W X mt_K_areMilksThere (d + 3) 2 [(0, some (av_r (some 0))), (1, some (av_i (i : Int)))] [] G 0 0 (fun r G' => r = some (av_i (bv_p (∀ u, u < 3 → mm_I G 40 u = -1 ∨ ((∀ j, j < u → mm_I G 40 j ≠ mm_I G 40 u) ∧ mk_th G u)))) ∧ G' = G) := by
  intro n
  induction n with
  | zero =>
    intro i hi hno
    have hi : i = 3 := by omega
    subst hi
    have t1 := bv_1 hno
    clear hno
    refine ar_iload_n (pc := 2) d_K_areMilksThere_2 rfl ?_
    refine ar_iconst (pc := 3) d_K_areMilksThere_3 ?_
    refine ar_icmp_ge (pc := 4) 33 d_K_areMilksThere_4 (by decide) ⟨by omega, by omega⟩ ⟨by omega, by omega⟩ (fun h_4 => ?_) (fun h_4 => by exfalso; omega)
    refine ar_iconst (pc := 33) d_K_areMilksThere_33 ?_
    refine ar_zret (pc := 34) d_K_areMilksThere_34 rfl (by omega) ?_
    rotate_left
    -- leaves: ret 34
    · exact ⟨congrArg (fun x => some (av_i x)) t1, rfl⟩
  | succ n ih =>
    intro i hi hno
    have h := cm_K_isMilkThere X d G (u := i) hF hW (by omega)
    have nx := fun (z : mm_I G 40 i = -1 ∨ ((∀ j, j < i → mm_I G 40 j ≠ mm_I G 40 i) ∧ mk_th G i)) => ih (i + 1) (by omega) (fun u hu => by
      by_cases hui : u = i
      · rw [hui]; exact z
      · exact hno u (by omega))
    have t0 : ¬ mm_I G 40 i = -1 → ¬ ((∀ j, j < i → mm_I G 40 j ≠ mm_I G 40 i) ∧ mk_th G i) → (0 : Int) = bv_p (∀ u, u < 3 → mm_I G 40 u = -1 ∨ ((∀ j, j < u → mm_I G 40 j ≠ mm_I G 40 u) ∧ mk_th G u)) := fun z1 z2 => bv_0 (fun q => (q i (by omega)).elim z1 z2)
    clear ih hno
    generalize ((∀ j, j < i → mm_I G 40 j ≠ mm_I G 40 i) ∧ mk_th G i) = P at h nx t0
    have r1 := bv_r P
    refine ar_iload_n (pc := 2) d_K_areMilksThere_2 rfl ?_
    refine ar_iconst (pc := 3) d_K_areMilksThere_3 ?_
    refine ar_icmp_ge (pc := 4) 33 d_K_areMilksThere_4 (by decide) ⟨by omega, by omega⟩ ⟨by omega, by omega⟩ (fun h_4 => by exfalso; omega) (fun h_4 => ?_)
    refine ar_aload_n (pc := 7) d_K_areMilksThere_7 rfl ?_
    refine ar_getR (pc := 8) gf_K_70 d_K_areMilksThere_8 (by first | rfl | exact sh_wheel (by omega) | exact sh_milk (by omega)) (hF _ _ _ rfl) ?_
    refine ar_iload_n (pc := 11) d_K_areMilksThere_11 rfl ?_
    refine ar_iald (pc := 12) d_K_areMilksThere_12 rfl (i) (by omega) (by omega) (fun r_12 => ?_)
    refine ar_iconst (pc := 13) d_K_areMilksThere_13 ?_
    refine ar_icmp_eq (pc := 14) 27 d_K_areMilksThere_14 (by decide) ⟨by omega, by omega⟩ ⟨by omega, by omega⟩ (fun h_14 => ?_) (fun h_14 => ?_)
    refine ar_iinc (pc := 27) d_K_areMilksThere_27 rfl rfl (by decide) ?_
    refine ar_goto (pc := 30) 2 d_K_areMilksThere_30 (by decide) ?_
    rotate_left
    refine ar_aload_n (pc := 17) d_K_areMilksThere_17 rfl ?_
    refine ar_iload_n (pc := 18) d_K_areMilksThere_18 rfl ?_
    refine ac_virt (pc := 19) (N := mt_K_isMilkThere) _ _ mv_K_isMilkThere ml_K_280 ck_11 d_K_areMilksThere_19 h (by first | rfl | exact sh_wheel (by omega) | exact sh_milk (by omega)) rfl rfl (Nat.le_of_ble_eq_true rfl) (Nat.le_of_eq (Nat.zero_add _)) (Nat.le_of_eq (Nat.zero_add _)) (fun r_19 G_19 h_19 => ?_)
    obtain ⟨rfl, e_19⟩ := h_19
    subst G_19
    refine ar_if_ne (pc := 22) 27 d_K_areMilksThere_22 (by decide) ⟨by omega, by omega⟩ (fun h_22 => ?_) (fun h_22 => ?_)
    refine ar_iinc (pc := 27) d_K_areMilksThere_27 rfl rfl (by decide) ?_
    refine ar_goto (pc := 30) 2 d_K_areMilksThere_30 (by decide) ?_
    rotate_left
    refine ar_iconst (pc := 25) d_K_areMilksThere_25 ?_
    refine ar_zret (pc := 26) d_K_areMilksThere_26 rfl (by omega) ?_
    rotate_left
    -- leaves: stop 2, stop 2, ret 26
    · exact ar_loc (nx (Or.inl h_14)) ⟨rfl, li_i rfl (by omega), trivial⟩
    · exact ar_loc (nx (Or.inr (bv_n h_22))) ⟨rfl, li_i rfl (by omega), trivial⟩
    · exact ⟨congrArg (fun x => some (av_i x)) (t0 h_14 (fun z => by rw [bv_t z] at h_22; omega)), rfl⟩
theorem cm_K_areMilksThere (X : gx_T) (d : Nat) (G : mm_T) (hF : fx_R G) (hW : fx_W G) : aw_M X (d + 3) mt_K_areMilksThere [av_r (some 0)] G 0 0 (fun r G' => r = some (av_i (bv_p (∀ u, u < 3 → mm_I G 40 u = -1 ∨ ((∀ j, j < u → mm_I G 40 j ≠ mm_I G 40 u) ∧ mk_th G u)))) ∧ G' = G) := by
  refine aw_enter pf_K_areMilksThere (Nat.le_of_ble_eq_true rfl) ?_
  refine ar_iconst (pc := 0) d_K_areMilksThere_0 ?_
  refine ar_istore_n (pc := 1) d_K_areMilksThere_1 rfl (by decide) ?_
  rotate_left
  -- leaves: stop 2
  · exact ar_loc (lp_K_areMilksThere X d G hF hW 3 0 (by omega) (fun j hj => by omega)) ⟨rfl, rfl, trivial⟩
/-- what a milk gives to wheel w -/
def xg_v (G : mm_T) (w : Nat) (m l : Int) : mm_T := if m = -1 then G else ms_I (ms_I (ms_I (ms_I G (200 + m.toNat) 1 (mm_I G (200 + m.toNat) 1 - l)) (200 + m.toNat) 2 (mm_I G (200 + m.toNat) 2 + 1)) (300 + w) 8 (mm_I G (300 + w) 8 + 100 * l)) (300 + w) 3 (b_ior (mm_I G (300 + w) 3) (b_ishl 1 m))
theorem lp_K_makeWheel (X : gx_T) (d : Nat) (G : mm_T) {w i : Nat} {m l s : Int} {Q : Option av_T → mm_T → Prop} (hF : fx_R G) (hW : fx_W G) (hw : w < 40) (hi : i < 3) (hm : mm_I G 40 i = m) (hl : mm_I G 41 i = l) (hp : m = -1 ∨ (0 ≤ m ∧ m < mm_I G 0 13 ∧ 1 ≤ l ∧ l ≤ mm_I G (200 + m.toNat) 1 ∧ mm_I G (200 + m.toNat) 1 ≤ 1000 ∧ 0 ≤ mm_I G (200 + m.toNat) 2 ∧ mm_I G (200 + m.toNat) 2 ≤ 400)) (hwt : 0 ≤ mm_I G (300 + w) 8 ∧ mm_I G (300 + w) 8 ≤ 300000)
    (kk : aw_W X mt_K_makeWheel (d + 2) 23 [(0, some (av_r (some 0))), (2, some (av_i s)), (3, some (av_i (w : Int))), (4, some (av_r (some (300 + w)))), (5, some (av_i ((i : Int) + 1)))] [] (xg_v G w m l) 0 0 Q) : aw_W X mt_K_makeWheel (d + 2) 23 [(0, some (av_r (some 0))), (2, some (av_i s)), (3, some (av_i (w : Int))), (4, some (av_r (some (300 + w)))), (5, some (av_i (i : Int)))] [] G 0 0 Q := by
  have hW1 := hW.1
  unfold xg_v at kk
  refine ar_rngI fun rg => ?_
  have rm := rg 40 i
  rw [hm] at rm
  have h := cm_K_milkAt X d G (m := m) hF hW rm
  by_cases hm1 : m = -1
  · rw [if_neg (by omega)] at h
    rw [if_pos hm1] at kk
    refine ar_iload (pc := 23) d_K_makeWheel_23 rfl ?_
    refine ar_iconst (pc := 25) d_K_makeWheel_25 ?_
    refine ar_icmp_ge (pc := 26) 120 d_K_makeWheel_26 (by decide) ⟨by omega, by omega⟩ ⟨by omega, by omega⟩ (fun h_26 => by exfalso; omega) (fun h_26 => ?_)
    refine ar_aload_n (pc := 29) d_K_makeWheel_29 rfl ?_
    refine ar_aload_n (pc := 30) d_K_makeWheel_30 rfl ?_
    refine ar_getR (pc := 31) gf_K_70 d_K_makeWheel_31 (by first | rfl | exact sh_wheel (by omega) | exact sh_milk (by omega)) (hF _ _ _ rfl) ?_
    refine ar_iload (pc := 34) d_K_makeWheel_34 rfl ?_
    refine ar_ialdv (pc := 36) d_K_makeWheel_36 rfl (i) (by omega) (by omega) hm (fun r_36 => ?_)
    refine ac_virt (pc := 37) (N := mt_K_milkAt) _ _ mv_K_milkAt ml_K_199 ck_11 d_K_makeWheel_37 h (by first | rfl | exact sh_wheel (by omega) | exact sh_milk (by omega)) rfl rfl (Nat.le_of_ble_eq_true rfl) (Nat.le_of_eq (Nat.zero_add _)) (Nat.le_of_eq (Nat.zero_add _)) (fun r_37 G_37 h_37 => ?_)
    obtain ⟨rfl, e_37⟩ := h_37
    subst G_37
    refine ar_astore (pc := 40) d_K_makeWheel_40 rfl (by decide) ?_
    refine ar_aload (pc := 42) d_K_makeWheel_42 rfl ?_
    refine ar_ifnull (pc := 44) 114 d_K_makeWheel_44 (by decide) (fun _ => ?_) (fun _ h => by cases h)
    refine ar_iinc (pc := 114) d_K_makeWheel_114 rfl rfl (by decide) ?_
    refine ar_goto (pc := 117) 23 d_K_makeWheel_117 (by decide) ?_
    rotate_left
    -- leaves: stop 23
    · exact ar_loc kk ⟨rfl, rfl, rfl, rfl, rfl, trivial⟩
  · have hp : 0 ≤ m ∧ m < mm_I G 0 13 ∧ 1 ≤ l ∧ l ≤ mm_I G (200 + m.toNat) 1 ∧ mm_I G (200 + m.toNat) 1 ≤ 1000 ∧ 0 ≤ mm_I G (200 + m.toNat) 2 ∧ mm_I G (200 + m.toNat) 2 ≤ 400 := by omega
    rw [if_pos (by omega)] at h
    rw [if_neg hm1] at kk
    have hbi : i3_in (b_ior (mm_I G (300 + w) 3) (b_ishl 1 m)) := ib_in _
    refine ar_iload (pc := 23) d_K_makeWheel_23 rfl ?_
    refine ar_iconst (pc := 25) d_K_makeWheel_25 ?_
    refine ar_icmp_ge (pc := 26) 120 d_K_makeWheel_26 (by decide) ⟨by omega, by omega⟩ ⟨by omega, by omega⟩ (fun h_26 => by exfalso; omega) (fun h_26 => ?_)
    refine ar_aload_n (pc := 29) d_K_makeWheel_29 rfl ?_
    refine ar_aload_n (pc := 30) d_K_makeWheel_30 rfl ?_
    refine ar_getR (pc := 31) gf_K_70 d_K_makeWheel_31 (by first | rfl | exact sh_wheel (by omega) | exact sh_milk (by omega)) (hF _ _ _ rfl) ?_
    refine ar_iload (pc := 34) d_K_makeWheel_34 rfl ?_
    refine ar_ialdv (pc := 36) d_K_makeWheel_36 rfl (i) (by omega) (by omega) hm (fun r_36 => ?_)
    refine ac_virt (pc := 37) (N := mt_K_milkAt) _ _ mv_K_milkAt ml_K_199 ck_11 d_K_makeWheel_37 h (by first | rfl | exact sh_wheel (by omega) | exact sh_milk (by omega)) rfl rfl (Nat.le_of_ble_eq_true rfl) (Nat.le_of_eq (Nat.zero_add _)) (Nat.le_of_eq (Nat.zero_add _)) (fun r_37 G_37 h_37 => ?_)
    obtain ⟨rfl, e_37⟩ := h_37
    subst G_37
    refine ar_astore (pc := 40) d_K_makeWheel_40 rfl (by decide) ?_
    refine ar_aload (pc := 42) d_K_makeWheel_42 rfl ?_
    refine ar_ifnull (pc := 44) 114 d_K_makeWheel_44 (by decide) (fun h => by cases h) (fun _ _ => ?_)
    refine ar_aload (pc := 47) d_K_makeWheel_47 rfl ?_
    refine ar_dup (pc := 49) d_K_makeWheel_49 rfl ?_
    refine ar_getI (pc := 50) gf_K_206 d_K_makeWheel_50 (by first | rfl | exact sh_wheel (by omega) | exact sh_milk (by omega)) (fun r_50 => ?_)
    refine ar_aload_n (pc := 53) d_K_makeWheel_53 rfl ?_
    refine ar_getR (pc := 54) gf_K_74 d_K_makeWheel_54 (by first | rfl | exact sh_wheel (by omega) | exact sh_milk (by omega)) (hF _ _ _ rfl) ?_
    refine ar_iload (pc := 57) d_K_makeWheel_57 rfl ?_
    refine ar_ialdv (pc := 59) d_K_makeWheel_59 rfl (i) (by omega) (by omega) hl (fun r_59 => ?_)
    refine ar_isub (pc := 60) d_K_makeWheel_60 ?_
    refine ar_putI (pc := 61) gf_K_206 d_K_makeWheel_61 rfl (by first | rfl | exact sh_wheel (by omega) | exact sh_milk (by omega)) ⟨by omega, by omega⟩ ?_
    refine ar_aload (pc := 64) d_K_makeWheel_64 rfl ?_
    refine ar_dup (pc := 66) d_K_makeWheel_66 rfl ?_
    refine ar_getIv (pc := 67) gf_K_209 d_K_makeWheel_67 (by first | rfl | exact sh_wheel (by omega) | exact sh_milk (by omega)) (show _ = mm_I G (200 + m.toNat) 2 from mi_n (by omega)) (fun r_67 => ?_)
    refine ar_iconst (pc := 70) d_K_makeWheel_70 ?_
    refine ar_iadd (pc := 71) d_K_makeWheel_71 ?_
    refine ar_putI (pc := 72) gf_K_209 d_K_makeWheel_72 rfl (by first | rfl | exact sh_wheel (by omega) | exact sh_milk (by omega)) ⟨by omega, by omega⟩ ?_
    refine ar_aload (pc := 75) d_K_makeWheel_75 rfl ?_
    refine ar_dup (pc := 77) d_K_makeWheel_77 rfl ?_
    refine ar_getIv (pc := 78) gf_K_185 d_K_makeWheel_78 (by first | rfl | exact sh_wheel (by omega) | exact sh_milk (by omega)) (show _ = mm_I G (300 + w) 8 from (mi_n (by omega)).trans (mi_n (by omega))) (fun r_78 => ?_)
    refine ar_bipush (pc := 81) d_K_makeWheel_81 (by decide) ?_
    refine ar_aload_n (pc := 83) d_K_makeWheel_83 rfl ?_
    refine ar_getR (pc := 84) gf_K_74 d_K_makeWheel_84 (by first | rfl | exact sh_wheel (by omega) | exact sh_milk (by omega)) (hF _ _ _ rfl) ?_
    refine ar_iload (pc := 87) d_K_makeWheel_87 rfl ?_
    refine ar_ialdv (pc := 89) d_K_makeWheel_89 rfl (i) (by omega) (by omega) (show _ = l from (mi_n (by omega)).trans ((mi_n (by omega)).trans hl)) (fun r_89 => ?_)
    refine ar_imul (pc := 90) d_K_makeWheel_90 ?_
    refine ar_iadd (pc := 91) d_K_makeWheel_91 ?_
    refine ar_putI (pc := 92) gf_K_185 d_K_makeWheel_92 rfl (by first | rfl | exact sh_wheel (by omega) | exact sh_milk (by omega)) ⟨by omega, by omega⟩ ?_
    refine ar_aload (pc := 95) d_K_makeWheel_95 rfl ?_
    refine ar_dup (pc := 97) d_K_makeWheel_97 rfl ?_
    refine ar_getIv (pc := 98) gf_K_286 d_K_makeWheel_98 (by first | rfl | exact sh_wheel (by omega) | exact sh_milk (by omega)) (show _ = mm_I G (300 + w) 3 from (mi_n (by omega)).trans ((mi_n (by omega)).trans (mi_n (by omega)))) (fun r_98 => ?_)
    refine ar_iconst (pc := 101) d_K_makeWheel_101 ?_
    refine ar_aload_n (pc := 102) d_K_makeWheel_102 rfl ?_
    refine ar_getR (pc := 103) gf_K_70 d_K_makeWheel_103 (by first | rfl | exact sh_wheel (by omega) | exact sh_milk (by omega)) (hF _ _ _ rfl) ?_
    refine ar_iload (pc := 106) d_K_makeWheel_106 rfl ?_
    refine ar_ialdv (pc := 108) d_K_makeWheel_108 rfl (i) (by omega) (by omega) (show _ = m from (mi_n (by omega)).trans ((mi_n (by omega)).trans ((mi_n (by omega)).trans hm))) (fun r_108 => ?_)
    refine ar_ishl (pc := 109) d_K_makeWheel_109 ?_
    refine ar_ior (pc := 110) d_K_makeWheel_110 ?_
    refine ar_putI (pc := 111) gf_K_286 d_K_makeWheel_111 rfl (by first | rfl | exact sh_wheel (by omega) | exact sh_milk (by omega)) hbi ?_
    refine ar_iinc (pc := 114) d_K_makeWheel_114 rfl rfl (by decide) ?_
    refine ar_goto (pc := 117) 23 d_K_makeWheel_117 (by decide) ?_
    rotate_left
    -- leaves: stop 23
    · exact ar_loc kk ⟨rfl, rfl, rfl, rfl, rfl, trivial⟩
theorem cm_Wh_init (X : gx_T) (d : Nat) (G : mm_T) {w : Nat} {n k t : Int} (hw : w < 40) (hn : i3_in n) (hk : i3_in k) (ht : i3_in t) : aw_M X (d + 1) mt_Wh_init [av_r (some (300 + w)), av_i n, av_i k, av_i t] G 0 0 (fun r G' => r = none ∧ G' = ms_I (ms_I (ms_I (ms_I (ms_I G (300 + w) 4 (-1)) (300 + w) 5 (-1)) (300 + w) 0 n) (300 + w) 1 k) (300 + w) 2 t) := by
  refine aw_enter pf_Wh_init (Nat.le_of_ble_eq_true rfl) ?_
  refine ar_aload_n (pc := 0) d_Wh_init_0 rfl ?_
  refine ac_obj (pc := 1) ml_Wh_3 d_Wh_init_1 (Nat.le_of_ble_eq_true rfl) ?_
  refine ar_aload_n (pc := 4) d_Wh_init_4 rfl ?_
  refine ar_iconst (pc := 5) d_Wh_init_5 ?_
  refine ar_putI (pc := 6) gf_Wh_9 d_Wh_init_6 rfl (by first | rfl | exact sh_wheel (by omega) | exact sh_milk (by omega)) ⟨by omega, by omega⟩ ?_
  refine ar_aload_n (pc := 9) d_Wh_init_9 rfl ?_
  refine ar_iconst (pc := 10) d_Wh_init_10 ?_
  refine ar_putI (pc := 11) gf_Wh_15 d_Wh_init_11 rfl (by first | rfl | exact sh_wheel (by omega) | exact sh_milk (by omega)) ⟨by omega, by omega⟩ ?_
  refine ar_aload_n (pc := 14) d_Wh_init_14 rfl ?_
  refine ar_iload_n (pc := 15) d_Wh_init_15 rfl ?_
  refine ar_putFI (pc := 16) gf_Wh_18 d_Wh_init_16 rfl rfl rfl (by first | rfl | exact sh_wheel (by omega) | exact sh_milk (by omega)) ⟨by omega, by omega⟩ ?_
  refine ar_aload_n (pc := 19) d_Wh_init_19 rfl ?_
  refine ar_iload_n (pc := 20) d_Wh_init_20 rfl ?_
  refine ar_putFI (pc := 21) gf_Wh_21 d_Wh_init_21 rfl rfl rfl (by first | rfl | exact sh_wheel (by omega) | exact sh_milk (by omega)) ⟨by omega, by omega⟩ ?_
  refine ar_aload_n (pc := 24) d_Wh_init_24 rfl ?_
  refine ar_iload_n (pc := 25) d_Wh_init_25 rfl ?_
  refine ar_putFI (pc := 26) gf_Wh_24 d_Wh_init_26 rfl rfl rfl (by first | rfl | exact sh_wheel (by omega) | exact sh_milk (by omega)) ⟨by omega, by omega⟩ ?_
  refine ar_ret (pc := 29) d_Wh_init_29 rfl ?_
  rotate_left
  -- leaves: ret 29
  · exact ⟨rfl, rfl⟩
