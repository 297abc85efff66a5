/-! ===== the class cuts tokens ===== -/
theorem cm_Ta_b (X : gx_T) (d : Nat) (G : mm_T) {B : Nat → Int} {z i : Nat} (hF : fx_R G) (hz : mm_I G 33 1 = z) (bb : bb_B B z) (hB : tb_v G = B) (hi : i ≤ 2000) : aw_M X (d + 1) mt_Ta_byteAt [av_r (some 33), av_i (i : Int)] G 0 0 (fun r G' => r = some (av_i (B i)) ∧ G' = G) := by
  have h := cm_Ta_at X d G (i := i) hF hi (by have := bb.1; omega)
  rw [hB] at h; exact h
theorem cm_To_behindBlanks (X : gx_T) (d : Nat) (G : mm_T) {B : Nat → Int} {z a : Nat} (hF : fx_R G) (hz : mm_I G 33 1 = z) (bb : bb_B B z) (hB : tb_v G = B) (ha : a ≤ z) : aw_M X (d + 2) mt_To_behindBlanks [av_r (some 33), av_i (a : Int)] G 0 0 (fun r G' => r = some (av_i (sk_b B z a : Nat)) ∧ G' = G) := by
  subst hB
  have h := lp_To_behindBlanks X d G (a := a) hF hz bb.1 (bb_r bb) (z - a) a (by omega) (by omega) (fun k k1 k2 => by omega)
  refine aw_enter pf_To_behindBlanks (Nat.le_of_ble_eq_true rfl) ?_
  refine ar_iload_n (pc := 0) d_To_behindBlanks_0 rfl ?_
  refine ar_istore_n (pc := 1) d_To_behindBlanks_1 rfl (by decide) ?_
  rotate_left
  -- leaves: stop 2
  · exact ar_mono (fun r G' h => by obtain ⟨⟨j, h1, h2, h3, h4, h5⟩, e⟩ := h; exact ⟨by rw [h1, sk_bu bb ha h2 h3 h4 h5], e⟩) (ar_loc h ⟨rfl, rfl, trivial⟩)
theorem sm_1 (a b : Int) : sm_s a b = 1 ↔ is_l a = 1 ∧ is_l b = 1 ∨ is_d a = 1 ∧ is_d b = 1 := by
  unfold sm_s
  split
  · next h => exact ⟨fun _ => h, fun _ => rfl⟩
  · next h => exact ⟨fun q => by omega, fun q => absurd q h⟩
theorem sm_01 (a b : Int) : sm_s a b = 0 ∨ sm_s a b = 1 := by unfold sm_s; split <;> omega
theorem tl_u {B : Nat → Int} {z a i : Nat} (bb : bb_B B z) (ha : a < z) (h1 : a < i) (h2 : i ≤ z) (h3 : ∀ k, a < k → k < i → sm_s (B a) (B k) = 1) (h4 : i = z ∨ sm_s (B a) (B i) ≠ 1) : tl_n B z a = i - a := by
  unfold tl_n
  by_cases hl : is_l (B a) = 1
  · have hd : ¬ is_d (B a) = 1 := by rw [is_d1]; rw [is_l1] at hl; omega
    rw [if_pos hl]
    have e9 : rn_z is_l B z a = i := by
      refine rn_zu bb (by omega) (by omega) h2 (fun k k1 k2 => ?_) ?_
      · by_cases e : k = a
        · rw [e]; exact hl
        · rcases (sm_1 _ _).mp (h3 k (by omega) k2) with h | h
          · exact h.2
          · exact absurd h.1 hd
      · rcases h4 with h4 | h4
        · rw [h4, bb.2.2 z (by omega)]; decide
        · intro q; exact h4 ((sm_1 _ _).mpr (Or.inl ⟨hl, q⟩))
    rw [e9]
  · rw [if_neg hl]
    by_cases hd : is_d (B a) = 1
    · rw [if_pos hd]
      have e9 : rn_z is_d B z a = i := by
        refine rn_zu bb (by omega) (by omega) h2 (fun k k1 k2 => ?_) ?_
        · by_cases e : k = a
          · rw [e]; exact hd
          · rcases (sm_1 _ _).mp (h3 k (by omega) k2) with h | h
            · exact absurd h.1 hl
            · exact h.2
        · rcases h4 with h4 | h4
          · rw [h4, bb.2.2 z (by omega)]; decide
          · intro q; exact h4 ((sm_1 _ _).mpr (Or.inr ⟨hd, q⟩))
      rw [e9]
    · rw [if_neg hd]
      by_cases e : i = a + 1
      · omega
      · rcases (sm_1 _ _).mp (h3 (a + 1) (by omega) (by omega)) with h | h
        · exact absurd h.1 hl
        · exact absurd h.1 hd
theorem lp_To_lengthAt (X : gx_T) (d : Nat) (G : mm_T) {B : Nat → Int} {z a : Nat} (hF : fx_R G) (hz : mm_I G 33 1 = z) (bb : bb_B B z) (hB : tb_v G = B) (ha : a < z) : ∀ n i, i + n = z → a < i → (∀ k, a < k → k < i → sm_s (B a) (B k) = 1) → aw_W X mt_To_lengthAt (d + 3) 10 [(0, some (av_r (some 33))), (1, some (av_i (a : Int))), (2, some (av_i (B a))), (3, some (av_i (i : Int)))] [] G 0 0 (fun r G' => r = some (av_i (tl_n B z a : Nat)) ∧ G' = G) := by
  intro n
  induction n with
  | zero =>
    intro i hi h1 h2
    have hi : i = z := by omega
    subst hi
    have e := tl_u bb ha h1 (Nat.le_refl _) h2 (Or.inl rfl)
    have z5 := bb.1
    refine ar_iload_n (pc := 10) d_To_lengthAt_10 rfl ?_
    refine ar_aload_n (pc := 11) d_To_lengthAt_11 rfl ?_
    refine ar_getIv (pc := 12) gf_To_38 d_To_lengthAt_12 (by first | rfl | exact sh_wheel (by omega) | exact sh_milk (by omega)) hz (fun r_12 => ?_)
    refine ar_icmp_ge (pc := 15) 36 d_To_lengthAt_15 (by decide) ⟨by omega, by omega⟩ ⟨by omega, by omega⟩ (fun h_15 => ?_) (fun h_15 => by exfalso; omega)
    refine ar_iload_n (pc := 36) d_To_lengthAt_36 rfl ?_
    refine ar_iload_n (pc := 37) d_To_lengthAt_37 rfl ?_
    refine ar_isub (pc := 38) d_To_lengthAt_38 ?_
    refine ar_iret (pc := 39) d_To_lengthAt_39 rfl ?_
    rotate_left
    -- leaves: ret 39
    · rw [e]; exact ⟨congrArg (fun x => some (av_i x)) (by omega), rfl⟩
  | succ n ih =>
    intro i hi h1 h2
    have z5 := bb.1
    have c := cm_Ta_b X (d + 1) G (i := i) hF hz bb hB (by omega)
    have ra := bb_r bb a
    have ri := bb_r bb i
    have cs := cm_To_isSameSort X d G (a := B a) (b := B i) ⟨by omega, by omega⟩ ⟨by omega, by omega⟩
    have i1 := ih (i + 1) (by omega) (by omega)
    clear ih
    by_cases hs : sm_s (B a) (B i) = 1
    · have i1 := i1 (fun k k1 k2 => by by_cases e : k = i; rw [e]; exact hs; exact h2 k k1 (by omega))
      refine ar_iload_n (pc := 10) d_To_lengthAt_10 rfl ?_
      refine ar_aload_n (pc := 11) d_To_lengthAt_11 rfl ?_
      refine ar_getIv (pc := 12) gf_To_38 d_To_lengthAt_12 (by first | rfl | exact sh_wheel (by omega) | exact sh_milk (by omega)) hz (fun r_12 => ?_)
      refine ar_icmp_ge (pc := 15) 36 d_To_lengthAt_15 (by decide) ⟨by omega, by omega⟩ ⟨by omega, by omega⟩ (fun h_15 => by exfalso; omega) (fun h_15 => ?_)
      refine ar_iload_n (pc := 18) d_To_lengthAt_18 rfl ?_
      refine ar_aload_n (pc := 19) d_To_lengthAt_19 rfl ?_
      refine ar_iload_n (pc := 20) d_To_lengthAt_20 rfl ?_
      refine ac_virt (pc := 21) (N := mt_Ta_byteAt) _ _ mv_Ta_byteAt ml_To_43 ck_8 d_To_lengthAt_21 c (by first | rfl | exact sh_wheel (by omega) | exact sh_milk (by omega)) rfl rfl (Nat.le_of_ble_eq_true rfl) (Nat.le_of_eq (Nat.zero_add _)) (Nat.le_of_eq (Nat.zero_add _)) (fun r_21 G_21 h_21 => ?_)
      obtain ⟨rfl, e_21⟩ := h_21
      subst G_21
      refine ac_stat (pc := 24) (N := mt_To_isSameSort) _ _ sv_To_isSameSort ml_To_61 d_To_lengthAt_24 cs rfl rfl (Nat.le_of_ble_eq_true rfl) (Nat.le_of_eq (Nat.zero_add _)) (Nat.le_of_eq (Nat.zero_add _)) (fun r_24 G_24 h_24 => ?_)
      obtain ⟨rfl, e_24⟩ := h_24
      subst G_24
      refine ar_if_eq (pc := 27) 36 d_To_lengthAt_27 (by decide) ⟨by omega, by omega⟩ (fun h_27 => by exfalso; omega) (fun h_27 => ?_)
      refine ar_iinc (pc := 30) d_To_lengthAt_30 rfl rfl (by decide) ?_
      refine ar_goto (pc := 33) 10 d_To_lengthAt_33 (by decide) ?_
      rotate_left
      -- leaves: stop 10
      · exact ar_loc i1 ⟨rfl, rfl, rfl, li_i rfl (by omega), trivial⟩
    · have e := tl_u bb ha h1 (by omega) h2 (Or.inr hs)
      have s0 := sm_01 (B a) (B i)
      clear i1
      refine ar_iload_n (pc := 10) d_To_lengthAt_10 rfl ?_
      refine ar_aload_n (pc := 11) d_To_lengthAt_11 rfl ?_
      refine ar_getIv (pc := 12) gf_To_38 d_To_lengthAt_12 (by first | rfl | exact sh_wheel (by omega) | exact sh_milk (by omega)) hz (fun r_12 => ?_)
      refine ar_icmp_ge (pc := 15) 36 d_To_lengthAt_15 (by decide) ⟨by omega, by omega⟩ ⟨by omega, by omega⟩ (fun h_15 => by exfalso; omega) (fun h_15 => ?_)
      refine ar_iload_n (pc := 18) d_To_lengthAt_18 rfl ?_
      refine ar_aload_n (pc := 19) d_To_lengthAt_19 rfl ?_
      refine ar_iload_n (pc := 20) d_To_lengthAt_20 rfl ?_
      refine ac_virt (pc := 21) (N := mt_Ta_byteAt) _ _ mv_Ta_byteAt ml_To_43 ck_8 d_To_lengthAt_21 c (by first | rfl | exact sh_wheel (by omega) | exact sh_milk (by omega)) rfl rfl (Nat.le_of_ble_eq_true rfl) (Nat.le_of_eq (Nat.zero_add _)) (Nat.le_of_eq (Nat.zero_add _)) (fun r_21 G_21 h_21 => ?_)
      obtain ⟨rfl, e_21⟩ := h_21
      subst G_21
      refine ac_stat (pc := 24) (N := mt_To_isSameSort) _ _ sv_To_isSameSort ml_To_61 d_To_lengthAt_24 cs rfl rfl (Nat.le_of_ble_eq_true rfl) (Nat.le_of_eq (Nat.zero_add _)) (Nat.le_of_eq (Nat.zero_add _)) (fun r_24 G_24 h_24 => ?_)
      obtain ⟨rfl, e_24⟩ := h_24
      subst G_24
      refine ar_if_eq (pc := 27) 36 d_To_lengthAt_27 (by decide) ⟨by omega, by omega⟩ (fun h_27 => ?_) (fun h_27 => by exfalso; omega)
      refine ar_iload_n (pc := 36) d_To_lengthAt_36 rfl ?_
      refine ar_iload_n (pc := 37) d_To_lengthAt_37 rfl ?_
      refine ar_isub (pc := 38) d_To_lengthAt_38 ?_
      refine ar_iret (pc := 39) d_To_lengthAt_39 rfl ?_
      rotate_left
      -- leaves: ret 39
      · rw [e]; exact ⟨congrArg (fun x => some (av_i x)) (by omega), rfl⟩
theorem cm_To_lengthAt (X : gx_T) (d : Nat) (G : mm_T) {B : Nat → Int} {z a : Nat} (hF : fx_R G) (hz : mm_I G 33 1 = z) (bb : bb_B B z) (hB : tb_v G = B) (ha : a < z) : aw_M X (d + 3) mt_To_lengthAt [av_r (some 33), av_i (a : Int)] G 0 0 (fun r G' => r = some (av_i (tl_n B z a : Nat)) ∧ G' = G) := by
  have h := lp_To_lengthAt X d G hF hz bb hB ha (z - (a + 1)) (a + 1) (by omega) (by omega) (fun k k1 k2 => by omega)
  have z5 := bb.1
  have c := cm_Ta_b X (d + 1) G (i := a) hF hz bb hB (by omega)
  refine aw_enter pf_To_lengthAt (Nat.le_of_ble_eq_true rfl) ?_
  refine ar_aload_n (pc := 0) d_To_lengthAt_0 rfl ?_
  refine ar_iload_n (pc := 1) d_To_lengthAt_1 rfl ?_
  refine ac_virt (pc := 2) (N := mt_Ta_byteAt) _ _ mv_Ta_byteAt ml_To_43 ck_8 d_To_lengthAt_2 c (by first | rfl | exact sh_wheel (by omega) | exact sh_milk (by omega)) rfl rfl (Nat.le_of_ble_eq_true rfl) (Nat.le_of_eq (Nat.zero_add _)) (Nat.le_of_eq (Nat.zero_add _)) (fun r_2 G_2 h_2 => ?_)
  obtain ⟨rfl, e_2⟩ := h_2
  subst G_2
  refine ar_istore_n (pc := 5) d_To_lengthAt_5 rfl (by decide) ?_
  refine ar_iload_n (pc := 6) d_To_lengthAt_6 rfl ?_
  refine ar_iconst (pc := 7) d_To_lengthAt_7 ?_
  refine ar_iadd (pc := 8) d_To_lengthAt_8 ?_
  refine ar_istore_n (pc := 9) d_To_lengthAt_9 rfl (by decide) ?_
  rotate_left
  -- leaves: stop 10
  · exact ar_loc h ⟨rfl, rfl, rfl, li_i rfl (by omega), trivial⟩
theorem lp_To_numberOf (X : gx_T) (d : Nat) (G : mm_T) {B : Nat → Int} {z a : Nat} (hF : fx_R G) (hz : mm_I G 33 1 = z) (bb : bb_B B z) (hB : tb_v G = B) (ha : a < z) (hd : is_d (B a) = 1) (h6 : tl_n B z a ≤ 6) : ∀ n i, i + n = tl_n B z a → aw_W X mt_To_numberOf (d + 2) 4 [(0, some (av_r (some 33))), (1, some (av_i (a : Int))), (2, some (av_i (nb_v B a i))), (3, some (av_i (i : Int)))] [] G 0 0 (fun r G' => r = some (av_i (nb_v B a (tl_n B z a))) ∧ G' = G) := by
  obtain ⟨d1, d2⟩ := tl_d bb ha hd
  have z5 := bb.1
  intro n
  induction n with
  | zero =>
    intro i hi
    have hi : i = tl_n B z a := by omega
    subst hi
    have c := cm_Ta_b X d G (i := a + tl_n B z a) hF hz bb hB (by omega)
    rw [show ((a + tl_n B z a : Nat) : Int) = (a : Int) + (tl_n B z a : Int) by omega] at c
    have ri := bb_r bb (a + tl_n B z a)
    have cd := cm_To_isDigit X d G (b := B (a + tl_n B z a)) ⟨by omega, by omega⟩
    have h01 := is_d01 (B (a + tl_n B z a))
    generalize tl_n B z a = l at *
    refine ar_iload_n (pc := 4) d_To_numberOf_4 rfl ?_
    refine ar_bipush (pc := 5) d_To_numberOf_5 (by decide) ?_
    refine ar_icmp_ge (pc := 7) 45 d_To_numberOf_7 (by decide) ⟨by omega, by omega⟩ ⟨by omega, by omega⟩ (fun h_7 => ?_) (fun h_7 => ?_)
    refine ar_iload_n (pc := 45) d_To_numberOf_45 rfl ?_
    refine ar_iret (pc := 46) d_To_numberOf_46 rfl ?_
    rotate_left
    refine ar_aload_n (pc := 10) d_To_numberOf_10 rfl ?_
    refine ar_iload_n (pc := 11) d_To_numberOf_11 rfl ?_
    refine ar_iload_n (pc := 12) d_To_numberOf_12 rfl ?_
    refine ar_iadd (pc := 13) d_To_numberOf_13 ?_
    refine ac_virt (pc := 14) (N := mt_Ta_byteAt) _ _ mv_Ta_byteAt ml_To_43 ck_8 d_To_numberOf_14 c (by first | rfl | exact sh_wheel (by omega) | exact sh_milk (by omega)) rfl rfl (Nat.le_of_ble_eq_true rfl) (Nat.le_of_eq (Nat.zero_add _)) (Nat.le_of_eq (Nat.zero_add _)) (fun r_14 G_14 h_14 => ?_)
    obtain ⟨rfl, e_14⟩ := h_14
    subst G_14
    refine ac_stat (pc := 17) (N := mt_To_isDigit) _ _ sv_To_isDigit ml_To_55 d_To_numberOf_17 cd rfl rfl (Nat.le_of_ble_eq_true rfl) (Nat.le_of_eq (Nat.zero_add _)) (Nat.le_of_eq (Nat.zero_add _)) (fun r_17 G_17 h_17 => ?_)
    obtain ⟨rfl, e_17⟩ := h_17
    subst G_17
    refine ar_if_eq (pc := 20) 45 d_To_numberOf_20 (by decide) ⟨by omega, by omega⟩ (fun h_20 => ?_) (fun h_20 => by exfalso; omega)
    refine ar_iload_n (pc := 45) d_To_numberOf_45 rfl ?_
    refine ar_iret (pc := 46) d_To_numberOf_46 rfl ?_
    rotate_left
    -- leaves: ret 46, ret 46
    all_goals exact ⟨rfl, rfl⟩
  | succ n ih =>
    intro i hi
    have c := cm_Ta_b X d G (i := a + i) hF hz bb hB (by omega)
    rw [show ((a + i : Nat) : Int) = (a : Int) + (i : Int) by omega] at c
    have ri := bb_r bb (a + i)
    have cd := cm_To_isDigit X d G (b := B (a + i)) ⟨by omega, by omega⟩
    have h1 := d1 i (by omega)
    have i1 := ih (i + 1) (by omega)
    rw [nb_v] at i1
    have rn := nb_r (B := B) (a := a) i (by omega) (fun k hk => (is_d1 _).mp (d1 k (by omega)))
    clear ih
    refine ar_iload_n (pc := 4) d_To_numberOf_4 rfl ?_
    refine ar_bipush (pc := 5) d_To_numberOf_5 (by decide) ?_
    refine ar_icmp_ge (pc := 7) 45 d_To_numberOf_7 (by decide) ⟨by omega, by omega⟩ ⟨by omega, by omega⟩ (fun h_7 => by exfalso; omega) (fun h_7 => ?_)
    refine ar_aload_n (pc := 10) d_To_numberOf_10 rfl ?_
    refine ar_iload_n (pc := 11) d_To_numberOf_11 rfl ?_
    refine ar_iload_n (pc := 12) d_To_numberOf_12 rfl ?_
    refine ar_iadd (pc := 13) d_To_numberOf_13 ?_
    refine ac_virt (pc := 14) (N := mt_Ta_byteAt) _ _ mv_Ta_byteAt ml_To_43 ck_8 d_To_numberOf_14 c (by first | rfl | exact sh_wheel (by omega) | exact sh_milk (by omega)) rfl rfl (Nat.le_of_ble_eq_true rfl) (Nat.le_of_eq (Nat.zero_add _)) (Nat.le_of_eq (Nat.zero_add _)) (fun r_14 G_14 h_14 => ?_)
    obtain ⟨rfl, e_14⟩ := h_14
    subst G_14
    refine ac_stat (pc := 17) (N := mt_To_isDigit) _ _ sv_To_isDigit ml_To_55 d_To_numberOf_17 cd rfl rfl (Nat.le_of_ble_eq_true rfl) (Nat.le_of_eq (Nat.zero_add _)) (Nat.le_of_eq (Nat.zero_add _)) (fun r_17 G_17 h_17 => ?_)
    obtain ⟨rfl, e_17⟩ := h_17
    subst G_17
    refine ar_if_eq (pc := 20) 45 d_To_numberOf_20 (by decide) ⟨by omega, by omega⟩ (fun h_20 => by exfalso; omega) (fun h_20 => ?_)
    refine ar_iload_n (pc := 23) d_To_numberOf_23 rfl ?_
    refine ar_bipush (pc := 24) d_To_numberOf_24 (by decide) ?_
    refine ar_imul (pc := 26) d_To_numberOf_26 ?_
    refine ar_aload_n (pc := 27) d_To_numberOf_27 rfl ?_
    refine ar_iload_n (pc := 28) d_To_numberOf_28 rfl ?_
    refine ar_iload_n (pc := 29) d_To_numberOf_29 rfl ?_
    refine ar_iadd (pc := 30) d_To_numberOf_30 ?_
    refine ac_virt (pc := 31) (N := mt_Ta_byteAt) _ _ mv_Ta_byteAt ml_To_43 ck_8 d_To_numberOf_31 c (by first | rfl | exact sh_wheel (by omega) | exact sh_milk (by omega)) rfl rfl (Nat.le_of_ble_eq_true rfl) (Nat.le_of_eq (Nat.zero_add _)) (Nat.le_of_eq (Nat.zero_add _)) (fun r_31 G_31 h_31 => ?_)
    obtain ⟨rfl, e_31⟩ := h_31
    subst G_31
    refine ar_iadd (pc := 34) d_To_numberOf_34 ?_
    refine ar_bipush (pc := 35) d_To_numberOf_35 (by decide) ?_
    refine ar_isub (pc := 37) d_To_numberOf_37 ?_
    refine ar_istore_n (pc := 38) d_To_numberOf_38 rfl (by decide) ?_
    refine ar_iinc (pc := 39) d_To_numberOf_39 rfl rfl (by decide) ?_
    refine ar_goto (pc := 42) 4 d_To_numberOf_42 (by decide) ?_
    rotate_left
    -- leaves: stop 4
    · exact ar_loc i1 ⟨rfl, rfl, li_i rfl (by omega), li_i rfl (by omega), trivial⟩
theorem cm_To_numberOf (X : gx_T) (d : Nat) (G : mm_T) {B : Nat → Int} {z a : Nat} (hF : fx_R G) (hz : mm_I G 33 1 = z) (bb : bb_B B z) (hB : tb_v G = B) (ha : a < z) (hd : is_d (B a) = 1) (h6 : tl_n B z a ≤ 6) : aw_M X (d + 2) mt_To_numberOf [av_r (some 33), av_i (a : Int)] G 0 0 (fun r G' => r = some (av_i (nb_v B a (tl_n B z a))) ∧ G' = G) := by
  have h := lp_To_numberOf X d G hF hz bb hB ha hd h6 (tl_n B z a) 0 (by omega)
  refine aw_enter pf_To_numberOf (Nat.le_of_ble_eq_true rfl) ?_
  refine ar_iconst (pc := 0) d_To_numberOf_0 ?_
  refine ar_istore_n (pc := 1) d_To_numberOf_1 rfl (by decide) ?_
  refine ar_iconst (pc := 2) d_To_numberOf_2 ?_
  refine ar_istore_n (pc := 3) d_To_numberOf_3 rfl (by decide) ?_
  rotate_left
  -- leaves: stop 4
  · exact ar_loc h ⟨rfl, rfl, rfl, rfl, trivial⟩
theorem lp_To_isWord (X : gx_T) (d : Nat) (G : mm_T) {B : Nat → Int} {z a l w : Nat} (hF : fx_R G) (hz : mm_I G 33 1 = z) (bb : bb_B B z) (hB : tb_v G = B) (ha : a < z) (hl : l ≤ 8) (hf : ∀ i, i < l → 97 ≤ B (a + i) ∧ B (a + i) ≤ 122) (hw : w < 18) : ∀ n i, i + n = 8 → (∀ k, k < i → (if k < l then B (a + k) else 32) = tx_v (8 * w + k)) → aw_W X mt_To_isWord (d + 5) 3 [(0, some (av_i (w : Int))), (1, some (av_r (some 33))), (2, some (av_i (a : Int))), (3, some (av_i (l : Int))), (4, some (av_i (i : Int)))] [] G 0 0 (fun r G' => r = some (av_i (if wv_n (fun i => B (a + i)) l = wk_c.getD w 0 then 1 else 0)) ∧ G' = G) := by
  have key := wk_eq (f := fun i => B (a + i)) hl hf hw
  have z5 := bb.1
  intro n
  induction n with
  | zero =>
    intro i hi h
    have hi : i = 8 := by omega
    subst hi
    have h1 := key.mp h
    clear key
    refine ar_iload (pc := 3) d_To_isWord_3 rfl ?_
    refine ar_bipush (pc := 5) d_To_isWord_5 (by decide) ?_
    refine ar_icmp_ge (pc := 7) 56 d_To_isWord_7 (by decide) ⟨by omega, by omega⟩ ⟨by omega, by omega⟩ (fun h_7 => ?_) (fun h_7 => by exfalso; omega)
    refine ar_iconst (pc := 56) d_To_isWord_56 ?_
    refine ar_zret (pc := 57) d_To_isWord_57 rfl (by omega) ?_
    rotate_left
    -- leaves: ret 57
    · rw [if_pos h1]; exact ⟨rfl, rfl⟩
  | succ n ih =>
    intro i hi h
    have i1 := fun (q : (if i < l then B (a + i) else 32) = tx_v (8 * w + i)) => ih (i + 1) (by omega) (fun k hk => by by_cases e : k = i; rw [e]; exact q; exact h k (by omega))
    have c := cm_Ta_b X (d + 3) G (i := a + i) hF hz bb hB (by omega)
    rw [show ((a + i : Nat) : Int) = (a : Int) + (i : Int) by omega] at c
    have ri := bb_r bb (a + i)
    have n1 : ¬ (if i < l then B (a + i) else 32) = tx_v (8 * w + i) → (if wv_n (fun i => B (a + i)) l = wk_c.getD w 0 then (1 : Int) else 0) = 0 := fun q => if_neg (fun e => q (key.mpr e i (by omega)))
    clear ih key h
    generalize (if wv_n (fun i => B (a + i)) l = wk_c.getD w 0 then (1 : Int) else 0) = P at *
    by_cases hil : i < l
    · rw [if_pos hil] at i1 n1
      refine ar_iload (pc := 3) d_To_isWord_3 rfl ?_
      refine ar_bipush (pc := 5) d_To_isWord_5 (by decide) ?_
      refine ar_icmp_ge (pc := 7) 56 d_To_isWord_7 (by decide) ⟨by omega, by omega⟩ ⟨by omega, by omega⟩ (fun h_7 => by exfalso; omega) (fun h_7 => ?_)
      refine ar_iload (pc := 10) d_To_isWord_10 rfl ?_
      refine ar_iload_n (pc := 12) d_To_isWord_12 rfl ?_
      refine ar_icmp_ge (pc := 13) 27 d_To_isWord_13 (by decide) ⟨by omega, by omega⟩ ⟨by omega, by omega⟩ (fun h_13 => by exfalso; omega) (fun h_13 => ?_)
      refine ar_aload_n (pc := 16) d_To_isWord_16 rfl ?_
      refine ar_iload_n (pc := 17) d_To_isWord_17 rfl ?_
      refine ar_iload (pc := 18) d_To_isWord_18 rfl ?_
      refine ar_iadd (pc := 20) d_To_isWord_20 ?_
      refine ac_virt (pc := 21) (N := mt_Ta_byteAt) _ _ mv_Ta_byteAt ml_To_43 ck_8 d_To_isWord_21 c (by first | rfl | exact sh_wheel (by omega) | exact sh_milk (by omega)) rfl rfl (Nat.le_of_ble_eq_true rfl) (Nat.le_of_eq (Nat.zero_add _)) (Nat.le_of_eq (Nat.zero_add _)) (fun r_21 G_21 h_21 => ?_)
      obtain ⟨rfl, e_21⟩ := h_21
      subst G_21
      refine ar_goto (pc := 24) 29 d_To_isWord_24 (by decide) ?_
      refine ar_istore (pc := 29) d_To_isWord_29 rfl (by decide) ?_
      refine ar_iload (pc := 31) d_To_isWord_31 rfl ?_
      refine ar_ldcT (pc := 33) rfl d_To_isWord_33 ?_
      refine ar_iload_n (pc := 35) d_To_isWord_35 rfl ?_
      refine ar_bipush (pc := 36) d_To_isWord_36 (by decide) ?_
      refine ar_imul (pc := 38) d_To_isWord_38 ?_
      refine ar_iload (pc := 39) d_To_isWord_39 rfl ?_
      refine ar_iadd (pc := 41) d_To_isWord_41 ?_
      refine ac_chr (pc := 42) rfl d_To_isWord_42 (8*w+i) (by omega) (by omega) (Nat.le_of_ble_eq_true rfl) (fun r_42 => ?_)
      refine ar_icmp_eq (pc := 45) 50 d_To_isWord_45 (by decide) ⟨by omega, by omega⟩ ⟨by omega, by omega⟩ (fun h_45 => ?_) (fun h_45 => ?_)
      refine ar_iinc (pc := 50) d_To_isWord_50 rfl rfl (by decide) ?_
      refine ar_goto (pc := 53) 3 d_To_isWord_53 (by decide) ?_
      rotate_left
      refine ar_iconst (pc := 48) d_To_isWord_48 ?_
      refine ar_zret (pc := 49) d_To_isWord_49 rfl (by omega) ?_
      rotate_left
      -- leaves: stop 3, ret 49
      · exact ar_loc (i1 (by omega)) ⟨rfl, rfl, rfl, rfl, li_i rfl (by omega), trivial⟩
      · rw [n1 (by omega)]; exact ⟨rfl, rfl⟩
    · rw [if_neg hil] at i1 n1
      refine ar_iload (pc := 3) d_To_isWord_3 rfl ?_
      refine ar_bipush (pc := 5) d_To_isWord_5 (by decide) ?_
      refine ar_icmp_ge (pc := 7) 56 d_To_isWord_7 (by decide) ⟨by omega, by omega⟩ ⟨by omega, by omega⟩ (fun h_7 => by exfalso; omega) (fun h_7 => ?_)
      refine ar_iload (pc := 10) d_To_isWord_10 rfl ?_
      refine ar_iload_n (pc := 12) d_To_isWord_12 rfl ?_
      refine ar_icmp_ge (pc := 13) 27 d_To_isWord_13 (by decide) ⟨by omega, by omega⟩ ⟨by omega, by omega⟩ (fun h_13 => ?_) (fun h_13 => by exfalso; omega)
      refine ar_bipush (pc := 27) d_To_isWord_27 (by decide) ?_
      refine ar_istore (pc := 29) d_To_isWord_29 rfl (by decide) ?_
      refine ar_iload (pc := 31) d_To_isWord_31 rfl ?_
      refine ar_ldcT (pc := 33) rfl d_To_isWord_33 ?_
      refine ar_iload_n (pc := 35) d_To_isWord_35 rfl ?_
      refine ar_bipush (pc := 36) d_To_isWord_36 (by decide) ?_
      refine ar_imul (pc := 38) d_To_isWord_38 ?_
      refine ar_iload (pc := 39) d_To_isWord_39 rfl ?_
      refine ar_iadd (pc := 41) d_To_isWord_41 ?_
      refine ac_chr (pc := 42) rfl d_To_isWord_42 (8*w+i) (by omega) (by omega) (Nat.le_of_ble_eq_true rfl) (fun r_42 => ?_)
      refine ar_icmp_eq (pc := 45) 50 d_To_isWord_45 (by decide) ⟨by omega, by omega⟩ ⟨by omega, by omega⟩ (fun h_45 => ?_) (fun h_45 => ?_)
      refine ar_iinc (pc := 50) d_To_isWord_50 rfl rfl (by decide) ?_
      refine ar_goto (pc := 53) 3 d_To_isWord_53 (by decide) ?_
      rotate_left
      refine ar_iconst (pc := 48) d_To_isWord_48 ?_
      refine ar_zret (pc := 49) d_To_isWord_49 rfl (by omega) ?_
      rotate_left
      -- leaves: stop 3, ret 49
      · exact ar_loc (i1 (by omega)) ⟨rfl, rfl, rfl, rfl, li_i rfl (by omega), trivial⟩
      · rw [n1 (by omega)]; exact ⟨rfl, rfl⟩
theorem cm_To_isWord (X : gx_T) (d : Nat) (G : mm_T) {B : Nat → Int} {z a l w : Nat} (hF : fx_R G) (hz : mm_I G 33 1 = z) (bb : bb_B B z) (hB : tb_v G = B) (ha : a < z) (hl : l ≤ 8) (hf : ∀ i, i < l → 97 ≤ B (a + i) ∧ B (a + i) ≤ 122) (hw : w < 18) : aw_M X (d + 5) mt_To_isWord [av_i (w : Int), av_r (some 33), av_i (a : Int), av_i (l : Int)] G 0 0 (fun r G' => r = some (av_i (if wv_n (fun i => B (a + i)) l = wk_c.getD w 0 then 1 else 0)) ∧ G' = G) := by
  have h := lp_To_isWord X d G hF hz bb hB ha hl hf hw 8 0 (by omega) (fun k hk => by omega)
  refine aw_enter pf_To_isWord (Nat.le_of_ble_eq_true rfl) ?_
  refine ar_iconst (pc := 0) d_To_isWord_0 ?_
  refine ar_istore (pc := 1) d_To_isWord_1 rfl (by decide) ?_
  rotate_left
  -- leaves: stop 3
  · exact ar_loc h ⟨rfl, rfl, rfl, rfl, rfl, trivial⟩
theorem lp_To_wordAt (X : gx_T) (d : Nat) (G : mm_T) {B : Nat → Int} {z a l : Nat} (hF : fx_R G) (hz : mm_I G 33 1 = z) (bb : bb_B B z) (hB : tb_v G = B) (ha : a < z) (hl : l ≤ 8) (hf : ∀ i, i < l → 97 ≤ B (a + i) ∧ B (a + i) ≤ 122) : ∀ n w, w + n = 18 → (∀ k, k < w → wv_n (fun i => B (a + i)) l ≠ wk_c.getD k 0) → aw_W X mt_To_wordAt (d + 6) 2 [(0, some (av_r (some 33))), (1, some (av_i (a : Int))), (2, some (av_i (l : Int))), (3, some (av_i (w : Int)))] [] G 0 0 (fun r G' => r = some (av_i (wk_v (wv_n (fun i => B (a + i)) l))) ∧ G' = G) := by
  intro n
  induction n with
  | zero =>
    intro w hw h
    have hw : w = 18 := by omega
    subst hw
    rw [wk_no h]
    refine ar_iload_n (pc := 2) d_To_wordAt_2 rfl ?_
    refine ar_bipush (pc := 3) d_To_wordAt_3 (by decide) ?_
    refine ar_icmp_ge (pc := 5) 26 d_To_wordAt_5 (by decide) ⟨by omega, by omega⟩ ⟨by omega, by omega⟩ (fun h_5 => ?_) (fun h_5 => by exfalso; omega)
    refine ar_sipush (pc := 26) d_To_wordAt_26 (by decide) ?_
    refine ar_iret (pc := 29) d_To_wordAt_29 rfl ?_
    rotate_left
    -- leaves: ret 29
    · exact ⟨rfl, rfl⟩
  | succ n ih =>
    intro w hw h
    have c := cm_To_isWord X d G hF hz bb hB ha hl hf (w := w) (by omega)
    have i1 := fun (q : wv_n (fun i => B (a + i)) l ≠ wk_c.getD w 0) => ih (w + 1) (by omega) (fun k hk => by by_cases e : k = w; rw [e]; exact q; exact h k (by omega))
    have e1 := (wk_is (V := wv_n (fun i => B (a + i)) l) (w := w) (by omega)).mpr
    clear ih h
    generalize wv_n (fun i => B (a + i)) l = V at *
    by_cases hv : V = wk_c.getD w 0
    · rw [if_pos hv] at c
      refine ar_iload_n (pc := 2) d_To_wordAt_2 rfl ?_
      refine ar_bipush (pc := 3) d_To_wordAt_3 (by decide) ?_
      refine ar_icmp_ge (pc := 5) 26 d_To_wordAt_5 (by decide) ⟨by omega, by omega⟩ ⟨by omega, by omega⟩ (fun h_5 => by exfalso; omega) (fun h_5 => ?_)
      refine ar_iload_n (pc := 8) d_To_wordAt_8 rfl ?_
      refine ar_aload_n (pc := 9) d_To_wordAt_9 rfl ?_
      refine ar_iload_n (pc := 10) d_To_wordAt_10 rfl ?_
      refine ar_iload_n (pc := 11) d_To_wordAt_11 rfl ?_
      refine ac_stat (pc := 12) (N := mt_To_isWord) _ _ sv_To_isWord ml_To_65 d_To_wordAt_12 c rfl rfl (Nat.le_of_ble_eq_true rfl) (Nat.le_of_eq (Nat.zero_add _)) (Nat.le_of_eq (Nat.zero_add _)) (fun r_12 G_12 h_12 => ?_)
      obtain ⟨rfl, e_12⟩ := h_12
      subst G_12
      refine ar_if_eq (pc := 15) 20 d_To_wordAt_15 (by decide) ⟨by omega, by omega⟩ (fun h_15 => by exfalso; omega) (fun h_15 => ?_)
      refine ar_iload_n (pc := 18) d_To_wordAt_18 rfl ?_
      refine ar_iret (pc := 19) d_To_wordAt_19 rfl ?_
      rotate_left
      -- leaves: ret 19
      · rw [e1 hv]; exact ⟨rfl, rfl⟩
    · rw [if_neg hv] at c
      refine ar_iload_n (pc := 2) d_To_wordAt_2 rfl ?_
      refine ar_bipush (pc := 3) d_To_wordAt_3 (by decide) ?_
      refine ar_icmp_ge (pc := 5) 26 d_To_wordAt_5 (by decide) ⟨by omega, by omega⟩ ⟨by omega, by omega⟩ (fun h_5 => by exfalso; omega) (fun h_5 => ?_)
      refine ar_iload_n (pc := 8) d_To_wordAt_8 rfl ?_
      refine ar_aload_n (pc := 9) d_To_wordAt_9 rfl ?_
      refine ar_iload_n (pc := 10) d_To_wordAt_10 rfl ?_
      refine ar_iload_n (pc := 11) d_To_wordAt_11 rfl ?_
      refine ac_stat (pc := 12) (N := mt_To_isWord) _ _ sv_To_isWord ml_To_65 d_To_wordAt_12 c rfl rfl (Nat.le_of_ble_eq_true rfl) (Nat.le_of_eq (Nat.zero_add _)) (Nat.le_of_eq (Nat.zero_add _)) (fun r_12 G_12 h_12 => ?_)
      obtain ⟨rfl, e_12⟩ := h_12
      subst G_12
      refine ar_if_eq (pc := 15) 20 d_To_wordAt_15 (by decide) ⟨by omega, by omega⟩ (fun h_15 => ?_) (fun h_15 => by exfalso; omega)
      refine ar_iinc (pc := 20) d_To_wordAt_20 rfl rfl (by decide) ?_
      refine ar_goto (pc := 23) 2 d_To_wordAt_23 (by decide) ?_
      rotate_left
      -- leaves: stop 2
      · exact ar_loc (i1 hv) ⟨rfl, rfl, rfl, li_i rfl (by omega), trivial⟩
theorem cm_To_wordAt (X : gx_T) (d : Nat) (G : mm_T) {B : Nat → Int} {z a l : Nat} (hF : fx_R G) (hz : mm_I G 33 1 = z) (bb : bb_B B z) (hB : tb_v G = B) (ha : a < z) (hl : l ≤ 8) (hf : ∀ i, i < l → 97 ≤ B (a + i) ∧ B (a + i) ≤ 122) : aw_M X (d + 6) mt_To_wordAt [av_r (some 33), av_i (a : Int), av_i (l : Int)] G 0 0 (fun r G' => r = some (av_i (wk_v (wv_n (fun i => B (a + i)) l))) ∧ G' = G) := by
  have h := lp_To_wordAt X d G hF hz bb hB ha hl hf 18 0 (by omega) (fun k hk => by omega)
  refine aw_enter pf_To_wordAt (Nat.le_of_ble_eq_true rfl) ?_
  refine ar_iconst (pc := 0) d_To_wordAt_0 ?_
  refine ar_istore_n (pc := 1) d_To_wordAt_1 rfl (by decide) ?_
  rotate_left
  -- leaves: stop 2
  · exact ar_loc h ⟨rfl, rfl, rfl, rfl, trivial⟩
theorem is_s01 (b : Int) : is_s b = 0 ∨ is_s b = 1 := by unfold is_s; split <;> omega
theorem cm_To_kindOf (X : gx_T) (d : Nat) (G : mm_T) {B : Nat → Int} {z a : Nat} (hF : fx_R G) (hz : mm_I G 33 1 = z) (bb : bb_B B z) (hB : tb_v G = B) (ha : a ≤ z) : aw_M X (d + 7) mt_To_kindOf [av_r (some 33), av_i (a : Int)] G 0 0 (fun r G' => r = some (av_i (tk_k B z a)) ∧ G' = G) := by
  have z5 := bb.1
  have ra := bb_r bb a
  have c2 := cm_Ta_b X (d + 5) G (i := a) hF hz bb hB (by omega)
  by_cases h1 : B a = -1
  · have e : tk_k B z a = 301 := by unfold tk_k; rw [if_pos h1]
    rw [e]
    refine aw_enter pf_To_kindOf (Nat.le_of_ble_eq_true rfl) ?_
    refine ar_aload_n (pc := 0) d_To_kindOf_0 rfl ?_
    refine ar_iload_n (pc := 1) d_To_kindOf_1 rfl ?_
    refine ac_virt (pc := 2) (N := mt_Ta_byteAt) _ _ mv_Ta_byteAt ml_To_43 ck_8 d_To_kindOf_2 c2 (by first | rfl | exact sh_wheel (by omega) | exact sh_milk (by omega)) rfl rfl (Nat.le_of_ble_eq_true rfl) (Nat.le_of_eq (Nat.zero_add _)) (Nat.le_of_eq (Nat.zero_add _)) (fun r_2 G_2 h_2 => ?_)
    obtain ⟨rfl, e_2⟩ := h_2
    subst G_2
    refine ar_istore_n (pc := 5) d_To_kindOf_5 rfl (by decide) ?_
    refine ar_iload_n (pc := 6) d_To_kindOf_6 rfl ?_
    refine ar_iconst (pc := 7) d_To_kindOf_7 ?_
    refine ar_icmp_ne (pc := 8) 15 d_To_kindOf_8 (by decide) ⟨by omega, by omega⟩ ⟨by omega, by omega⟩ (fun h_8 => by exfalso; omega) (fun h_8 => ?_)
    refine ar_sipush (pc := 11) d_To_kindOf_11 (by decide) ?_
    refine ar_iret (pc := 14) d_To_kindOf_14 rfl ?_
    rotate_left
    -- leaves: ret 14
    · exact ⟨rfl, rfl⟩
  · have haz : a < z := by
      by_cases q : a < z
      · exact q
      · exact absurd (bb.2.2 a (by omega)) h1
    have c17 := cm_To_lengthAt X (d + 3) G hF hz bb hB haz
    have tp := tl_pos bb haz
    have cl := cm_To_isLetter X (d + 5) G (b := B a) ⟨by omega, by omega⟩
    have cd := cm_To_isDigit X (d + 5) G (b := B a) ⟨by omega, by omega⟩
    have cs := cm_To_isSign X (d + 5) G (b := B a) ⟨by omega, by omega⟩
    have l01 := is_l01 (B a)
    have d01 := is_d01 (B a)
    have s01 := is_s01 (B a)
    by_cases h2 : is_l (B a) = 1
    · obtain ⟨t1, -⟩ := tl_l bb haz h2
      by_cases h3 : 8 < tl_n B z a
      · have e : tk_k B z a = 300 := by unfold tk_k; rw [if_neg h1, if_pos h2, if_pos h3]
        rw [e]
        generalize tl_n B z a = l at *
        refine aw_enter pf_To_kindOf (Nat.le_of_ble_eq_true rfl) ?_
        refine ar_aload_n (pc := 0) d_To_kindOf_0 rfl ?_
        refine ar_iload_n (pc := 1) d_To_kindOf_1 rfl ?_
        refine ac_virt (pc := 2) (N := mt_Ta_byteAt) _ _ mv_Ta_byteAt ml_To_43 ck_8 d_To_kindOf_2 c2 (by first | rfl | exact sh_wheel (by omega) | exact sh_milk (by omega)) rfl rfl (Nat.le_of_ble_eq_true rfl) (Nat.le_of_eq (Nat.zero_add _)) (Nat.le_of_eq (Nat.zero_add _)) (fun r_2 G_2 h_2 => ?_)
        obtain ⟨rfl, e_2⟩ := h_2
        subst G_2
        refine ar_istore_n (pc := 5) d_To_kindOf_5 rfl (by decide) ?_
        refine ar_iload_n (pc := 6) d_To_kindOf_6 rfl ?_
        refine ar_iconst (pc := 7) d_To_kindOf_7 ?_
        refine ar_icmp_ne (pc := 8) 15 d_To_kindOf_8 (by decide) ⟨by omega, by omega⟩ ⟨by omega, by omega⟩ (fun h_8 => ?_) (fun h_8 => by exfalso; omega)
        refine ar_aload_n (pc := 15) d_To_kindOf_15 rfl ?_
        refine ar_iload_n (pc := 16) d_To_kindOf_16 rfl ?_
        refine ac_stat (pc := 17) (N := mt_To_lengthAt) _ _ sv_To_lengthAt ml_To_35 d_To_kindOf_17 c17 rfl rfl (Nat.le_of_ble_eq_true rfl) (Nat.le_of_eq (Nat.zero_add _)) (Nat.le_of_eq (Nat.zero_add _)) (fun r_17 G_17 h_17 => ?_)
        obtain ⟨rfl, e_17⟩ := h_17
        subst G_17
        refine ar_istore_n (pc := 20) d_To_kindOf_20 rfl (by decide) ?_
        refine ar_iload_n (pc := 21) d_To_kindOf_21 rfl ?_
        refine ac_stat (pc := 22) (N := mt_To_isLetter) _ _ sv_To_isLetter ml_To_47 d_To_kindOf_22 cl rfl rfl (Nat.le_of_ble_eq_true rfl) (Nat.le_of_eq (Nat.zero_add _)) (Nat.le_of_eq (Nat.zero_add _)) (fun r_22 G_22 h_22 => ?_)
        obtain ⟨rfl, e_22⟩ := h_22
        subst G_22
        refine ar_if_eq (pc := 25) 47 d_To_kindOf_25 (by decide) ⟨by omega, by omega⟩ (fun h_25 => by exfalso; omega) (fun h_25 => ?_)
        refine ar_iload_n (pc := 28) d_To_kindOf_28 rfl ?_
        refine ar_bipush (pc := 29) d_To_kindOf_29 (by decide) ?_
        refine ar_icmp_le (pc := 31) 40 d_To_kindOf_31 (by decide) ⟨by omega, by omega⟩ ⟨by omega, by omega⟩ (fun h_31 => by exfalso; omega) (fun h_31 => ?_)
        refine ar_sipush (pc := 34) d_To_kindOf_34 (by decide) ?_
        refine ar_goto (pc := 37) 46 d_To_kindOf_37 (by decide) ?_
        refine ar_iret (pc := 46) d_To_kindOf_46 rfl ?_
        rotate_left
        -- leaves: ret 46
        · exact ⟨rfl, rfl⟩
      · have e : tk_k B z a = wk_v (wv_n (fun i => B (a + i)) (tl_n B z a)) := by unfold tk_k; rw [if_neg h1, if_pos h2, if_neg h3]
        have c43 := cm_To_wordAt X d G hF hz bb hB haz (l := tl_n B z a) (by omega) (fun i hi => (is_l1 _).mp (t1 i hi))
        rw [e]
        generalize tl_n B z a = l at *
        refine aw_enter pf_To_kindOf (Nat.le_of_ble_eq_true rfl) ?_
        refine ar_aload_n (pc := 0) d_To_kindOf_0 rfl ?_
        refine ar_iload_n (pc := 1) d_To_kindOf_1 rfl ?_
        refine ac_virt (pc := 2) (N := mt_Ta_byteAt) _ _ mv_Ta_byteAt ml_To_43 ck_8 d_To_kindOf_2 c2 (by first | rfl | exact sh_wheel (by omega) | exact sh_milk (by omega)) rfl rfl (Nat.le_of_ble_eq_true rfl) (Nat.le_of_eq (Nat.zero_add _)) (Nat.le_of_eq (Nat.zero_add _)) (fun r_2 G_2 h_2 => ?_)
        obtain ⟨rfl, e_2⟩ := h_2
        subst G_2
        refine ar_istore_n (pc := 5) d_To_kindOf_5 rfl (by decide) ?_
        refine ar_iload_n (pc := 6) d_To_kindOf_6 rfl ?_
        refine ar_iconst (pc := 7) d_To_kindOf_7 ?_
        refine ar_icmp_ne (pc := 8) 15 d_To_kindOf_8 (by decide) ⟨by omega, by omega⟩ ⟨by omega, by omega⟩ (fun h_8 => ?_) (fun h_8 => by exfalso; omega)
        refine ar_aload_n (pc := 15) d_To_kindOf_15 rfl ?_
        refine ar_iload_n (pc := 16) d_To_kindOf_16 rfl ?_
        refine ac_stat (pc := 17) (N := mt_To_lengthAt) _ _ sv_To_lengthAt ml_To_35 d_To_kindOf_17 c17 rfl rfl (Nat.le_of_ble_eq_true rfl) (Nat.le_of_eq (Nat.zero_add _)) (Nat.le_of_eq (Nat.zero_add _)) (fun r_17 G_17 h_17 => ?_)
        obtain ⟨rfl, e_17⟩ := h_17
        subst G_17
        refine ar_istore_n (pc := 20) d_To_kindOf_20 rfl (by decide) ?_
        refine ar_iload_n (pc := 21) d_To_kindOf_21 rfl ?_
        refine ac_stat (pc := 22) (N := mt_To_isLetter) _ _ sv_To_isLetter ml_To_47 d_To_kindOf_22 cl rfl rfl (Nat.le_of_ble_eq_true rfl) (Nat.le_of_eq (Nat.zero_add _)) (Nat.le_of_eq (Nat.zero_add _)) (fun r_22 G_22 h_22 => ?_)
        obtain ⟨rfl, e_22⟩ := h_22
        subst G_22
        refine ar_if_eq (pc := 25) 47 d_To_kindOf_25 (by decide) ⟨by omega, by omega⟩ (fun h_25 => by exfalso; omega) (fun h_25 => ?_)
        refine ar_iload_n (pc := 28) d_To_kindOf_28 rfl ?_
        refine ar_bipush (pc := 29) d_To_kindOf_29 (by decide) ?_
        refine ar_icmp_le (pc := 31) 40 d_To_kindOf_31 (by decide) ⟨by omega, by omega⟩ ⟨by omega, by omega⟩ (fun h_31 => ?_) (fun h_31 => by exfalso; omega)
        refine ar_aload_n (pc := 40) d_To_kindOf_40 rfl ?_
        refine ar_iload_n (pc := 41) d_To_kindOf_41 rfl ?_
        refine ar_iload_n (pc := 42) d_To_kindOf_42 rfl ?_
        refine ac_stat (pc := 43) (N := mt_To_wordAt) _ _ sv_To_wordAt ml_To_51 d_To_kindOf_43 c43 rfl rfl (Nat.le_of_ble_eq_true rfl) (Nat.le_of_eq (Nat.zero_add _)) (Nat.le_of_eq (Nat.zero_add _)) (fun r_43 G_43 h_43 => ?_)
        obtain ⟨rfl, e_43⟩ := h_43
        subst G_43
        refine ar_iret (pc := 46) d_To_kindOf_46 rfl ?_
        rotate_left
        -- leaves: ret 46
        · exact ⟨rfl, rfl⟩
    · by_cases h3 : is_d (B a) = 1
      · have c64 := cm_Ta_b X (d + 5) G (i := a + tl_n B z a) hF hz bb hB (by omega)
        rw [show ((a + tl_n B z a : Nat) : Int) = (a : Int) + (tl_n B z a : Int) by omega] at c64
        have rb := bb_r bb (a + tl_n B z a)
        have c67 := cm_To_isLetter X (d + 5) G (b := B (a + tl_n B z a)) ⟨by omega, by omega⟩
        have e : tk_k B z a = if 6 < tl_n B z a ∨ is_l (B (a + tl_n B z a)) = 1 then 300 else 302 := by unfold tk_k; rw [if_neg h1, if_neg h2, if_pos h3]
        rw [e]
        have l02 := is_l01 (B (a + tl_n B z a))
        generalize tl_n B z a = l at *
        refine aw_enter pf_To_kindOf (Nat.le_of_ble_eq_true rfl) ?_
        refine ar_aload_n (pc := 0) d_To_kindOf_0 rfl ?_
        refine ar_iload_n (pc := 1) d_To_kindOf_1 rfl ?_
        refine ac_virt (pc := 2) (N := mt_Ta_byteAt) _ _ mv_Ta_byteAt ml_To_43 ck_8 d_To_kindOf_2 c2 (by first | rfl | exact sh_wheel (by omega) | exact sh_milk (by omega)) rfl rfl (Nat.le_of_ble_eq_true rfl) (Nat.le_of_eq (Nat.zero_add _)) (Nat.le_of_eq (Nat.zero_add _)) (fun r_2 G_2 h_2 => ?_)
        obtain ⟨rfl, e_2⟩ := h_2
        subst G_2
        refine ar_istore_n (pc := 5) d_To_kindOf_5 rfl (by decide) ?_
        refine ar_iload_n (pc := 6) d_To_kindOf_6 rfl ?_
        refine ar_iconst (pc := 7) d_To_kindOf_7 ?_
        refine ar_icmp_ne (pc := 8) 15 d_To_kindOf_8 (by decide) ⟨by omega, by omega⟩ ⟨by omega, by omega⟩ (fun h_8 => ?_) (fun h_8 => by exfalso; omega)
        refine ar_aload_n (pc := 15) d_To_kindOf_15 rfl ?_
        refine ar_iload_n (pc := 16) d_To_kindOf_16 rfl ?_
        refine ac_stat (pc := 17) (N := mt_To_lengthAt) _ _ sv_To_lengthAt ml_To_35 d_To_kindOf_17 c17 rfl rfl (Nat.le_of_ble_eq_true rfl) (Nat.le_of_eq (Nat.zero_add _)) (Nat.le_of_eq (Nat.zero_add _)) (fun r_17 G_17 h_17 => ?_)
        obtain ⟨rfl, e_17⟩ := h_17
        subst G_17
        refine ar_istore_n (pc := 20) d_To_kindOf_20 rfl (by decide) ?_
        refine ar_iload_n (pc := 21) d_To_kindOf_21 rfl ?_
        refine ac_stat (pc := 22) (N := mt_To_isLetter) _ _ sv_To_isLetter ml_To_47 d_To_kindOf_22 cl rfl rfl (Nat.le_of_ble_eq_true rfl) (Nat.le_of_eq (Nat.zero_add _)) (Nat.le_of_eq (Nat.zero_add _)) (fun r_22 G_22 h_22 => ?_)
        obtain ⟨rfl, e_22⟩ := h_22
        subst G_22
        refine ar_if_eq (pc := 25) 47 d_To_kindOf_25 (by decide) ⟨by omega, by omega⟩ (fun h_25 => ?_) (fun h_25 => by exfalso; omega)
        refine ar_iload_n (pc := 47) d_To_kindOf_47 rfl ?_
        refine ac_stat (pc := 48) (N := mt_To_isDigit) _ _ sv_To_isDigit ml_To_55 d_To_kindOf_48 cd rfl rfl (Nat.le_of_ble_eq_true rfl) (Nat.le_of_eq (Nat.zero_add _)) (Nat.le_of_eq (Nat.zero_add _)) (fun r_48 G_48 h_48 => ?_)
        obtain ⟨rfl, e_48⟩ := h_48
        subst G_48
        refine ar_if_eq (pc := 51) 83 d_To_kindOf_51 (by decide) ⟨by omega, by omega⟩ (fun h_51 => by exfalso; omega) (fun h_51 => ?_)
        refine ar_iload_n (pc := 54) d_To_kindOf_54 rfl ?_
        refine ar_bipush (pc := 55) d_To_kindOf_55 (by decide) ?_
        refine ar_icmp_gt (pc := 57) 73 d_To_kindOf_57 (by decide) ⟨by omega, by omega⟩ ⟨by omega, by omega⟩ (fun h_57 => ?_) (fun h_57 => ?_)
        refine ar_sipush (pc := 73) d_To_kindOf_73 (by decide) ?_
        refine ar_goto (pc := 76) 82 d_To_kindOf_76 (by decide) ?_
        refine ar_iret (pc := 82) d_To_kindOf_82 rfl ?_
        rotate_left
        refine ar_aload_n (pc := 60) d_To_kindOf_60 rfl ?_
        refine ar_iload_n (pc := 61) d_To_kindOf_61 rfl ?_
        refine ar_iload_n (pc := 62) d_To_kindOf_62 rfl ?_
        refine ar_iadd (pc := 63) d_To_kindOf_63 ?_
        refine ac_virt (pc := 64) (N := mt_Ta_byteAt) _ _ mv_Ta_byteAt ml_To_43 ck_8 d_To_kindOf_64 c64 (by first | rfl | exact sh_wheel (by omega) | exact sh_milk (by omega)) rfl rfl (Nat.le_of_ble_eq_true rfl) (Nat.le_of_eq (Nat.zero_add _)) (Nat.le_of_eq (Nat.zero_add _)) (fun r_64 G_64 h_64 => ?_)
        obtain ⟨rfl, e_64⟩ := h_64
        subst G_64
        refine ac_stat (pc := 67) (N := mt_To_isLetter) _ _ sv_To_isLetter ml_To_47 d_To_kindOf_67 c67 rfl rfl (Nat.le_of_ble_eq_true rfl) (Nat.le_of_eq (Nat.zero_add _)) (Nat.le_of_eq (Nat.zero_add _)) (fun r_67 G_67 h_67 => ?_)
        obtain ⟨rfl, e_67⟩ := h_67
        subst G_67
        refine ar_if_eq (pc := 70) 79 d_To_kindOf_70 (by decide) ⟨by omega, by omega⟩ (fun h_70 => ?_) (fun h_70 => ?_)
        refine ar_sipush (pc := 79) d_To_kindOf_79 (by decide) ?_
        refine ar_iret (pc := 82) d_To_kindOf_82 rfl ?_
        rotate_left
        refine ar_sipush (pc := 73) d_To_kindOf_73 (by decide) ?_
        refine ar_goto (pc := 76) 82 d_To_kindOf_76 (by decide) ?_
        refine ar_iret (pc := 82) d_To_kindOf_82 rfl ?_
        rotate_left
        -- leaves: ret 82, ret 82, ret 82
        all_goals (refine ⟨?_, rfl⟩)
        all_goals first | rw [if_pos (by omega)] | rw [if_neg (by omega)]
      · have e : tk_k B z a = if is_s (B a) = 1 then B a else 300 := by unfold tk_k; rw [if_neg h1, if_neg h2, if_neg h3]
        rw [e]
        generalize tl_n B z a = l at *
        refine aw_enter pf_To_kindOf (Nat.le_of_ble_eq_true rfl) ?_
        refine ar_aload_n (pc := 0) d_To_kindOf_0 rfl ?_
        refine ar_iload_n (pc := 1) d_To_kindOf_1 rfl ?_
        refine ac_virt (pc := 2) (N := mt_Ta_byteAt) _ _ mv_Ta_byteAt ml_To_43 ck_8 d_To_kindOf_2 c2 (by first | rfl | exact sh_wheel (by omega) | exact sh_milk (by omega)) rfl rfl (Nat.le_of_ble_eq_true rfl) (Nat.le_of_eq (Nat.zero_add _)) (Nat.le_of_eq (Nat.zero_add _)) (fun r_2 G_2 h_2 => ?_)
        obtain ⟨rfl, e_2⟩ := h_2
        subst G_2
        refine ar_istore_n (pc := 5) d_To_kindOf_5 rfl (by decide) ?_
        refine ar_iload_n (pc := 6) d_To_kindOf_6 rfl ?_
        refine ar_iconst (pc := 7) d_To_kindOf_7 ?_
        refine ar_icmp_ne (pc := 8) 15 d_To_kindOf_8 (by decide) ⟨by omega, by omega⟩ ⟨by omega, by omega⟩ (fun h_8 => ?_) (fun h_8 => by exfalso; omega)
        refine ar_aload_n (pc := 15) d_To_kindOf_15 rfl ?_
        refine ar_iload_n (pc := 16) d_To_kindOf_16 rfl ?_
        refine ac_stat (pc := 17) (N := mt_To_lengthAt) _ _ sv_To_lengthAt ml_To_35 d_To_kindOf_17 c17 rfl rfl (Nat.le_of_ble_eq_true rfl) (Nat.le_of_eq (Nat.zero_add _)) (Nat.le_of_eq (Nat.zero_add _)) (fun r_17 G_17 h_17 => ?_)
        obtain ⟨rfl, e_17⟩ := h_17
        subst G_17
        refine ar_istore_n (pc := 20) d_To_kindOf_20 rfl (by decide) ?_
        refine ar_iload_n (pc := 21) d_To_kindOf_21 rfl ?_
        refine ac_stat (pc := 22) (N := mt_To_isLetter) _ _ sv_To_isLetter ml_To_47 d_To_kindOf_22 cl rfl rfl (Nat.le_of_ble_eq_true rfl) (Nat.le_of_eq (Nat.zero_add _)) (Nat.le_of_eq (Nat.zero_add _)) (fun r_22 G_22 h_22 => ?_)
        obtain ⟨rfl, e_22⟩ := h_22
        subst G_22
        refine ar_if_eq (pc := 25) 47 d_To_kindOf_25 (by decide) ⟨by omega, by omega⟩ (fun h_25 => ?_) (fun h_25 => by exfalso; omega)
        refine ar_iload_n (pc := 47) d_To_kindOf_47 rfl ?_
        refine ac_stat (pc := 48) (N := mt_To_isDigit) _ _ sv_To_isDigit ml_To_55 d_To_kindOf_48 cd rfl rfl (Nat.le_of_ble_eq_true rfl) (Nat.le_of_eq (Nat.zero_add _)) (Nat.le_of_eq (Nat.zero_add _)) (fun r_48 G_48 h_48 => ?_)
        obtain ⟨rfl, e_48⟩ := h_48
        subst G_48
        refine ar_if_eq (pc := 51) 83 d_To_kindOf_51 (by decide) ⟨by omega, by omega⟩ (fun h_51 => ?_) (fun h_51 => by exfalso; omega)
        refine ar_iload_n (pc := 83) d_To_kindOf_83 rfl ?_
        refine ac_stat (pc := 84) (N := mt_To_isSign) _ _ sv_To_isSign ml_To_58 d_To_kindOf_84 cs rfl rfl (Nat.le_of_ble_eq_true rfl) (Nat.le_of_eq (Nat.zero_add _)) (Nat.le_of_eq (Nat.zero_add _)) (fun r_84 G_84 h_84 => ?_)
        obtain ⟨rfl, e_84⟩ := h_84
        subst G_84
        refine ar_if_eq (pc := 87) 94 d_To_kindOf_87 (by decide) ⟨by omega, by omega⟩ (fun h_87 => ?_) (fun h_87 => ?_)
        refine ar_sipush (pc := 94) d_To_kindOf_94 (by decide) ?_
        refine ar_iret (pc := 97) d_To_kindOf_97 rfl ?_
        rotate_left
        refine ar_iload_n (pc := 90) d_To_kindOf_90 rfl ?_
        refine ar_goto (pc := 91) 97 d_To_kindOf_91 (by decide) ?_
        refine ar_iret (pc := 97) d_To_kindOf_97 rfl ?_
        rotate_left
        -- leaves: ret 97, ret 97
        all_goals (refine ⟨?_, rfl⟩)
        all_goals first | rw [if_pos (by omega)] | rw [if_neg (by omega)]
