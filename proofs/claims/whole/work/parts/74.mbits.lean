/-! ===== plan of the reference: sets as bits, costs ===== -/
theorem in_t : ∀ x : Fin 1024, ∀ k : Fin 10, b_iand (b_ishr (x.val : Int) (k.val : Int)) 1 = if Nat.testBit x.val k.val then 1 else 0 := by decide +kernel
def tb_i (x k : Nat) : Int := if Nat.testBit x k then 1 else 0
theorem in_v {x k : Nat} (hx : x < 1024) (hk : k < 10) : b_iand (b_ishr (x : Int) (k : Int)) 1 = tb_i x k := in_t ⟨x, hx⟩ ⟨k, hk⟩
theorem tb_01 (x k : Nat) : tb_i x k = 0 ∨ tb_i x k = 1 := by unfold tb_i; split <;> omega
theorem cm_Mo_isIn (X : gx_T) (d : Nat) (G : mm_T) {x k : Nat} (hx : x < 1024) (hk : k < 10) : aw_M X (d + 1) mt_Mo_isIn [av_r (some 60), av_i (x : Int), av_i (k : Int)] G 0 0 (fun r G' => r = some (av_i (tb_i x k)) ∧ G' = G) := by
  have e := in_v hx hk
  have h01 := tb_01 x k
  rcases h01 with q | q
  · rw [q] at e ⊢
    refine aw_enter pf_Mo_isIn (Nat.le_of_ble_eq_true rfl) ?_
    refine ar_iload_n (pc := 0) d_Mo_isIn_0 rfl ?_
    refine ar_iload_n (pc := 1) d_Mo_isIn_1 rfl ?_
    refine ar_ishr (pc := 2) d_Mo_isIn_2 ?_
    refine ar_iconst (pc := 3) d_Mo_isIn_3 ?_
    refine ar_iand (pc := 4) d_Mo_isIn_4 ?_
    rw [e]
    refine ar_iconst (pc := 5) d_Mo_isIn_5 ?_
    refine ar_icmp_ne (pc := 6) 13 d_Mo_isIn_6 (by decide) ⟨by omega, by omega⟩ ⟨by omega, by omega⟩ (fun h_6 => ?_) (fun h_6 => by exfalso; omega)
    refine ar_iconst (pc := 13) d_Mo_isIn_13 ?_
    refine ar_zret (pc := 14) d_Mo_isIn_14 rfl (by omega) ?_
    rotate_left
    -- leaves: ret 14
    · exact ⟨rfl, rfl⟩
  · rw [q] at e ⊢
    refine aw_enter pf_Mo_isIn (Nat.le_of_ble_eq_true rfl) ?_
    refine ar_iload_n (pc := 0) d_Mo_isIn_0 rfl ?_
    refine ar_iload_n (pc := 1) d_Mo_isIn_1 rfl ?_
    refine ar_ishr (pc := 2) d_Mo_isIn_2 ?_
    refine ar_iconst (pc := 3) d_Mo_isIn_3 ?_
    refine ar_iand (pc := 4) d_Mo_isIn_4 ?_
    rw [e]
    refine ar_iconst (pc := 5) d_Mo_isIn_5 ?_
    refine ar_icmp_ne (pc := 6) 13 d_Mo_isIn_6 (by decide) ⟨by omega, by omega⟩ ⟨by omega, by omega⟩ (fun h_6 => by exfalso; omega) (fun h_6 => ?_)
    refine ar_iconst (pc := 9) d_Mo_isIn_9 ?_
    refine ar_goto (pc := 10) 14 d_Mo_isIn_10 (by decide) ?_
    refine ar_zret (pc := 14) d_Mo_isIn_14 rfl (by omega) ?_
    rotate_left
    -- leaves: ret 14
    · exact ⟨rfl, rfl⟩
def mc_v (x : Nat) : Nat → Int
  | 0 => 0
  | k + 1 => mc_v x k + tb_i x k
theorem mc_r (x : Nat) : ∀ k, 0 ≤ mc_v x k ∧ mc_v x k ≤ k := by
  intro k
  induction k with
  | zero => exact ⟨Int.le_refl _, Int.le_refl _⟩
  | succ k ih => rw [mc_v]; have := tb_01 x k; omega
theorem lp_Mo_many (X : gx_T) (d : Nat) (G : mm_T) {x : Nat} (hx : x < 1024) : ∀ m k, k + m = 10 → aw_W X mt_Mo_many (d + 1) 4 [(0, some (av_i (x : Int))), (1, some (av_i (mc_v x k))), (2, some (av_i (k : Int)))] [] G 0 0 (fun r G' => r = some (av_i (mc_v x 10)) ∧ G' = G) := by
  intro m
  induction m with
  | zero =>
    intro k hk
    have hk : k = 10 := by omega
    subst hk
    refine ar_iload_n (pc := 4) d_Mo_many_4 rfl ?_
    refine ar_bipush (pc := 5) d_Mo_many_5 (by decide) ?_
    refine ar_icmp_ge (pc := 7) 24 d_Mo_many_7 (by decide) ⟨by omega, by omega⟩ ⟨by omega, by omega⟩ (fun h_7 => ?_) (fun h_7 => by exfalso; omega)
    refine ar_iload_n (pc := 24) d_Mo_many_24 rfl ?_
    refine ar_iret (pc := 25) d_Mo_many_25 rfl ?_
    rotate_left
    -- leaves: ret 25
    · exact ⟨rfl, rfl⟩
  | succ m ih =>
    intro k hk
    have i1 := ih (k + 1) (by omega)
    rw [mc_v] at i1
    have e := in_v hx (show k < 10 by omega)
    clear ih
    refine ar_iload_n (pc := 4) d_Mo_many_4 rfl ?_
    refine ar_bipush (pc := 5) d_Mo_many_5 (by decide) ?_
    refine ar_icmp_ge (pc := 7) 24 d_Mo_many_7 (by decide) ⟨by omega, by omega⟩ ⟨by omega, by omega⟩ (fun h_7 => by exfalso; omega) (fun h_7 => ?_)
    refine ar_iload_n (pc := 10) d_Mo_many_10 rfl ?_
    refine ar_iload_n (pc := 11) d_Mo_many_11 rfl ?_
    refine ar_iload_n (pc := 12) d_Mo_many_12 rfl ?_
    refine ar_ishr (pc := 13) d_Mo_many_13 ?_
    refine ar_iconst (pc := 14) d_Mo_many_14 ?_
    refine ar_iand (pc := 15) d_Mo_many_15 ?_
    rw [e]
    refine ar_iadd (pc := 16) d_Mo_many_16 ?_
    refine ar_istore_n (pc := 17) d_Mo_many_17 rfl (by decide) ?_
    refine ar_iinc (pc := 18) d_Mo_many_18 rfl rfl (by decide) ?_
    refine ar_goto (pc := 21) 4 d_Mo_many_21 (by decide) ?_
    rotate_left
    -- leaves: stop 4
    · exact ar_loc i1 ⟨rfl, rfl, li_i rfl (by omega), trivial⟩
theorem cm_Mo_many (X : gx_T) (d : Nat) (G : mm_T) {x : Nat} (hx : x < 1024) : aw_M X (d + 1) mt_Mo_many [av_i (x : Int)] G 0 0 (fun r G' => r = some (av_i (mc_v x 10)) ∧ G' = G) := by
  have lp := lp_Mo_many X d G hx 10 0 (by omega)
  refine aw_enter pf_Mo_many (Nat.le_of_ble_eq_true rfl) ?_
  refine ar_iconst (pc := 0) d_Mo_many_0 ?_
  refine ar_istore_n (pc := 1) d_Mo_many_1 rfl (by decide) ?_
  refine ar_iconst (pc := 2) d_Mo_many_2 ?_
  refine ar_istore_n (pc := 3) d_Mo_many_3 rfl (by decide) ?_
  rotate_left
  -- leaves: stop 4
  · exact ar_loc lp ⟨rfl, rfl, rfl, trivial⟩
theorem cm_Mo_far (X : gx_T) (d : Nat) (G : mm_T) {a b : Int} (ha : i3_in a) (hb : i3_in b) : aw_M X (d + 1) mt_Mo_far [av_i a, av_i b] G 0 0 (fun r G' => r = some (av_i (if a < b then b - a else a - b)) ∧ G' = G) := by
  refine aw_enter pf_Mo_far (Nat.le_of_ble_eq_true rfl) ?_
  refine ar_iload_n (pc := 0) d_Mo_far_0 rfl ?_
  refine ar_iload_n (pc := 1) d_Mo_far_1 rfl ?_
  refine ar_icmp_ge (pc := 2) 11 d_Mo_far_2 (by decide) ⟨by omega, by omega⟩ ⟨by omega, by omega⟩ (fun h_2 => ?_) (fun h_2 => ?_)
  refine ar_iload_n (pc := 11) d_Mo_far_11 rfl ?_
  refine ar_iload_n (pc := 12) d_Mo_far_12 rfl ?_
  refine ar_isub (pc := 13) d_Mo_far_13 ?_
  refine ar_iret (pc := 14) d_Mo_far_14 rfl ?_
  rotate_left
  refine ar_iload_n (pc := 5) d_Mo_far_5 rfl ?_
  refine ar_iload_n (pc := 6) d_Mo_far_6 rfl ?_
  refine ar_isub (pc := 7) d_Mo_far_7 ?_
  refine ar_goto (pc := 8) 14 d_Mo_far_8 (by decide) ?_
  refine ar_iret (pc := 14) d_Mo_far_14 rfl ?_
  rotate_left
  -- leaves: ret 14, ret 14
  all_goals (refine ⟨?_, rfl⟩)
  all_goals first | rw [if_pos (by omega)] | rw [if_neg (by omega)]
def tw_v : Nat → Int
  | 0 => 1
  | j + 1 => tw_v j * 24
theorem tw_r : ∀ j, j ≤ 10 → 1 ≤ tw_v j ∧ tw_v j ≤ 63403380965376 := by
  intro j hj
  have hj : j = 0 ∨ j = 1 ∨ j = 2 ∨ j = 3 ∨ j = 4 ∨ j = 5 ∨ j = 6 ∨ j = 7 ∨ j = 8 ∨ j = 9 ∨ j = 10 := by omega
  rcases hj with rfl | rfl | rfl | rfl | rfl | rfl | rfl | rfl | rfl | rfl | rfl <;> exact ⟨by decide, by decide⟩
theorem tw_a : ∀ i j, tw_v (i + j) = tw_v i * tw_v j := by
  intro i j
  induction j with
  | zero => rw [Nat.add_zero, tw_v, Int.mul_one]
  | succ j ih => rw [← Nat.add_assoc, tw_v, tw_v, ih, Int.mul_assoc]
/-- a cost -/
def co_v (n h k s : Nat) : Int := tw_v n * wy_v h s + tw_v (n - 1 - k) * s
theorem wy_w (h s : Nat) : wy_v h s = 20 * (if (h : Int) / 6 < (s : Int) / 6 then (s : Int) / 6 - (h : Int) / 6 else (h : Int) / 6 - (s : Int) / 6) + (if (h : Int) % 6 < (s : Int) % 6 then (s : Int) % 6 - (h : Int) % 6 else (h : Int) % 6 - (s : Int) % 6) := by
  unfold wy_v
  by_cases q1 : h / 6 < s / 6
  · rw [if_pos q1, if_pos (show (h : Int) / 6 < (s : Int) / 6 by omega)]
    by_cases q2 : h % 6 < s % 6
    · rw [if_pos q2, if_pos (show (h : Int) % 6 < (s : Int) % 6 by omega)]; omega
    · rw [if_neg q2, if_neg (show ¬ (h : Int) % 6 < (s : Int) % 6 by omega)]; omega
  · rw [if_neg q1, if_neg (show ¬ (h : Int) / 6 < (s : Int) / 6 by omega)]
    by_cases q2 : h % 6 < s % 6
    · rw [if_pos q2, if_pos (show (h : Int) % 6 < (s : Int) % 6 by omega)]; omega
    · rw [if_neg q2, if_neg (show ¬ (h : Int) % 6 < (s : Int) % 6 by omega)]; omega
theorem lp_cost2 (X : gx_T) (d : Nat) {G : mm_T} {n k s h : Nat} (hn : n ≤ 10) (hk : k < n) (hs : s < 24) (hh : h < 24) : ∀ m j, j + m = k + 1 → aw_W X mt_Mo_costOf (d + 2) 50 [(1, some (av_i (k : Int))), (2, some (av_i (s : Int))), (3, some (av_i (h : Int))), (4, some (av_l (tw_v (n - 1 - k)))), (6, some (av_l (tw_v (n - 1 - k + j)))), (8, some (av_i (j : Int)))] [] G 0 0 (fun r G' => r = some (av_l (co_v n h k s)) ∧ G' = G) := by
  intro m
  induction m with
  | zero =>
    intro j hj
    have hj : j = k + 1 := by omega
    subst hj
    have c82 := cm_Mo_far X d G (a := (h : Int) / 6) (b := (s : Int) / 6) ⟨by omega, by omega⟩ ⟨by omega, by omega⟩
    have c94 := cm_Mo_far X d G (a := (h : Int) % 6) (b := (s : Int) % 6) ⟨by omega, by omega⟩ ⟨by omega, by omega⟩
    have wr := wy_r hh hs
    have ww := wy_w h s
    rw [show n - 1 - k + (k + 1) = n by omega]
    generalize (if (h : Int) / 6 < (s : Int) / 6 then (s : Int) / 6 - (h : Int) / 6 else (h : Int) / 6 - (s : Int) / 6) = F1 at *
    generalize (if (h : Int) % 6 < (s : Int) % 6 then (s : Int) % 6 - (h : Int) % 6 else (h : Int) % 6 - (s : Int) % 6) = F2 at *
    refine ar_iload (pc := 50) d_Mo_costOf_50 rfl ?_
    refine ar_iload_n (pc := 52) d_Mo_costOf_52 rfl ?_
    refine ar_icmp_gt (pc := 53) 70 d_Mo_costOf_53 (by decide) ⟨by omega, by omega⟩ ⟨by omega, by omega⟩ (fun h_53 => ?_) (fun h_53 => by exfalso; omega)
    refine ar_lload (pc := 70) d_Mo_costOf_70 rfl ?_
    refine ar_bipush (pc := 72) d_Mo_costOf_72 (by decide) ?_
    refine ar_iload_n (pc := 74) d_Mo_costOf_74 rfl ?_
    refine ar_bipush (pc := 75) d_Mo_costOf_75 (by decide) ?_
    refine ar_idivp (pc := 77) d_Mo_costOf_77 (by omega) (by omega) (by omega) (by omega) ?_
    refine ar_iload_n (pc := 78) d_Mo_costOf_78 rfl ?_
    refine ar_bipush (pc := 79) d_Mo_costOf_79 (by decide) ?_
    refine ar_idivp (pc := 81) d_Mo_costOf_81 (by omega) (by omega) (by omega) (by omega) ?_
    refine ac_stat (pc := 82) (N := mt_Mo_far) _ _ sv_Mo_far ml_Mo_362 d_Mo_costOf_82 c82 rfl rfl (Nat.le_of_ble_eq_true rfl) (Nat.le_of_eq (Nat.zero_add _)) (Nat.le_of_eq (Nat.zero_add _)) (fun r_82 G_82 h_82 => ?_)
    obtain ⟨rfl, e_82⟩ := h_82
    subst G_82
    refine ar_imul (pc := 85) d_Mo_costOf_85 ?_
    refine ar_iload_n (pc := 86) d_Mo_costOf_86 rfl ?_
    refine ar_bipush (pc := 87) d_Mo_costOf_87 (by decide) ?_
    refine ar_irem (pc := 89) d_Mo_costOf_89 (by omega) (by omega) (by omega) (by omega) ?_
    refine ar_iload_n (pc := 90) d_Mo_costOf_90 rfl ?_
    refine ar_bipush (pc := 91) d_Mo_costOf_91 (by decide) ?_
    refine ar_irem (pc := 93) d_Mo_costOf_93 (by omega) (by omega) (by omega) (by omega) ?_
    refine ac_stat (pc := 94) (N := mt_Mo_far) _ _ sv_Mo_far ml_Mo_362 d_Mo_costOf_94 c94 rfl rfl (Nat.le_of_ble_eq_true rfl) (Nat.le_of_eq (Nat.zero_add _)) (Nat.le_of_eq (Nat.zero_add _)) (fun r_94 G_94 h_94 => ?_)
    obtain ⟨rfl, e_94⟩ := h_94
    subst G_94
    refine ar_iadd (pc := 97) d_Mo_costOf_97 ?_
    rw [← ww]
    refine ar_i2l (pc := 98) d_Mo_costOf_98 ⟨by omega, by omega⟩ ?_
    refine ar_lmul (pc := 99) d_Mo_costOf_99 ?_
    refine ar_lload (pc := 100) d_Mo_costOf_100 rfl ?_
    refine ar_iload_n (pc := 102) d_Mo_costOf_102 rfl ?_
    refine ar_i2l (pc := 103) d_Mo_costOf_103 ⟨by omega, by omega⟩ ?_
    refine ar_lmul (pc := 104) d_Mo_costOf_104 ?_
    refine ar_ladd (pc := 105) d_Mo_costOf_105 ?_
    refine ar_lret (pc := 106) d_Mo_costOf_106 rfl ?_
    rotate_left
    -- leaves: ret 106
    · exact ⟨rfl, rfl⟩
  | succ m ih =>
    intro j hj
    have i1 := ih (j + 1) (by omega)
    rw [← Nat.add_assoc, tw_v] at i1
    clear ih
    refine ar_iload (pc := 50) d_Mo_costOf_50 rfl ?_
    refine ar_iload_n (pc := 52) d_Mo_costOf_52 rfl ?_
    refine ar_icmp_gt (pc := 53) 70 d_Mo_costOf_53 (by decide) ⟨by omega, by omega⟩ ⟨by omega, by omega⟩ (fun h_53 => by exfalso; omega) (fun h_53 => ?_)
    refine ar_lload (pc := 56) d_Mo_costOf_56 rfl ?_
    refine ar_ldc2 (pc := 58) (24) kj_Mo_360 d_Mo_costOf_58 (by decide) ?_
    refine ar_lmul (pc := 61) d_Mo_costOf_61 ?_
    refine ar_lstore (pc := 62) d_Mo_costOf_62 rfl (by decide) ?_
    refine ar_iinc (pc := 64) d_Mo_costOf_64 rfl rfl (by decide) ?_
    refine ar_goto (pc := 67) 50 d_Mo_costOf_67 (by decide) ?_
    rotate_left
    -- leaves: stop 50
    · exact ar_loc i1 ⟨rfl, rfl, rfl, rfl, rfl, li_i rfl (by omega), trivial⟩
theorem lp_cost1 (X : gx_T) (d : Nat) {G : mm_T} {n k s h : Nat} (hg : mm_I G 60 54 = n) (hn : n ≤ 10) (hk : k < n) (hs : s < 24) (hh : h < 24) : ∀ m j, j + m = n → k < j → aw_W X mt_Mo_costOf (d + 2) 20 [(0, some (av_r (some 60))), (1, some (av_i (k : Int))), (2, some (av_i (s : Int))), (3, some (av_i (h : Int))), (4, some (av_l (tw_v (j - 1 - k)))), (6, some (av_i (j : Int)))] [] G 0 0 (fun r G' => r = some (av_l (co_v n h k s)) ∧ G' = G) := by
  intro m
  induction m with
  | zero =>
    intro j hj hkj
    have hj : j = n := by omega
    subst hj
    have lp := lp_cost2 X d (G := G) hn hk hs hh (k + 1) 0 (by omega)
    rw [Nat.add_zero] at lp
    refine ar_iload (pc := 20) d_Mo_costOf_20 rfl ?_
    refine ar_aload_n (pc := 22) d_Mo_costOf_22 rfl ?_
    refine ar_getIv (pc := 23) gf_Mo_357 d_Mo_costOf_23 (by first | rfl | exact sh_wheel (by omega) | exact sh_milk (by omega)) hg (fun r_23 => ?_)
    refine ar_icmp_ge (pc := 26) 43 d_Mo_costOf_26 (by decide) ⟨by omega, by omega⟩ ⟨by omega, by omega⟩ (fun h_26 => ?_) (fun h_26 => by exfalso; omega)
    refine ar_lload (pc := 43) d_Mo_costOf_43 rfl ?_
    refine ar_lstore (pc := 45) d_Mo_costOf_45 rfl (by decide) ?_
    refine ar_iconst (pc := 47) d_Mo_costOf_47 ?_
    refine ar_istore (pc := 48) d_Mo_costOf_48 rfl (by decide) ?_
    rotate_left
    -- leaves: stop 50
    · exact ar_loc lp ⟨rfl, rfl, rfl, rfl, rfl, rfl, trivial⟩
  | succ m ih =>
    intro j hj hkj
    have i1 := ih (j + 1) (by omega) (by omega)
    rw [show j + 1 - 1 - k = (j - 1 - k) + 1 by omega, tw_v] at i1
    clear ih
    refine ar_iload (pc := 20) d_Mo_costOf_20 rfl ?_
    refine ar_aload_n (pc := 22) d_Mo_costOf_22 rfl ?_
    refine ar_getIv (pc := 23) gf_Mo_357 d_Mo_costOf_23 (by first | rfl | exact sh_wheel (by omega) | exact sh_milk (by omega)) hg (fun r_23 => ?_)
    refine ar_icmp_ge (pc := 26) 43 d_Mo_costOf_26 (by decide) ⟨by omega, by omega⟩ ⟨by omega, by omega⟩ (fun h_26 => by exfalso; omega) (fun h_26 => ?_)
    refine ar_lload (pc := 29) d_Mo_costOf_29 rfl ?_
    refine ar_ldc2 (pc := 31) (24) kj_Mo_360 d_Mo_costOf_31 (by decide) ?_
    refine ar_lmul (pc := 34) d_Mo_costOf_34 ?_
    refine ar_lstore (pc := 35) d_Mo_costOf_35 rfl (by decide) ?_
    refine ar_iinc (pc := 37) d_Mo_costOf_37 rfl rfl (by decide) ?_
    refine ar_goto (pc := 40) 20 d_Mo_costOf_40 (by decide) ?_
    rotate_left
    -- leaves: stop 20
    · exact ar_loc i1 ⟨rfl, rfl, rfl, rfl, rfl, li_i rfl (by omega), trivial⟩
theorem cm_Mo_costOf (X : gx_T) (d : Nat) {G : mm_T} {n k s h w : Nat} (hF : fx_R G) (hg : mm_I G 60 54 = n) (hn : n ≤ 10) (hk : k < n) (hs : s < 24) (hw : mm_I G 95 k = (w : Nat)) (hw40 : w < 40) (hsh : mm_I G 67 w = (h : Nat)) (hh : h < 24) : aw_M X (d + 2) mt_Mo_costOf [av_r (some 60), av_i (k : Int), av_i (s : Int)] G 0 0 (fun r G' => r = some (av_l (co_v n h k s)) ∧ G' = G) := by
  have lp := lp_cost1 X d (h := h) hg hn hk hs hh (n - (k + 1)) (k + 1) (by omega) (by omega)
  rw [show k + 1 - 1 - k = 0 by omega] at lp
  refine aw_enter pf_Mo_costOf (Nat.le_of_ble_eq_true rfl) ?_
  refine ar_aload_n (pc := 0) d_Mo_costOf_0 rfl ?_
  refine ar_getR (pc := 1) gf_Mo_28 d_Mo_costOf_1 (by first | rfl | exact sh_wheel (by omega) | exact sh_milk (by omega)) (hF _ _ _ rfl) ?_
  refine ar_aload_n (pc := 4) d_Mo_costOf_4 rfl ?_
  refine ar_getR (pc := 5) gf_Mo_117 d_Mo_costOf_5 (by first | rfl | exact sh_wheel (by omega) | exact sh_milk (by omega)) (hF _ _ _ rfl) ?_
  refine ar_iload_n (pc := 8) d_Mo_costOf_8 rfl ?_
  refine ar_ialdv (pc := 9) d_Mo_costOf_9 rfl (k) (by omega) (by omega) hw (fun r_9 => ?_)
  refine ar_ialdv (pc := 10) d_Mo_costOf_10 rfl (w) (by omega) (by omega) hsh (fun r_10 => ?_)
  refine ar_istore_n (pc := 11) d_Mo_costOf_11 rfl (by decide) ?_
  refine ar_lconst (pc := 12) 1 d_Mo_costOf_12 (by decide) ?_
  refine ar_lstore (pc := 13) d_Mo_costOf_13 rfl (by decide) ?_
  refine ar_iload_n (pc := 15) d_Mo_costOf_15 rfl ?_
  refine ar_iconst (pc := 16) d_Mo_costOf_16 ?_
  refine ar_iadd (pc := 17) d_Mo_costOf_17 ?_
  refine ar_istore (pc := 18) d_Mo_costOf_18 rfl (by decide) ?_
  rotate_left
  -- leaves: stop 20
  · exact ar_loc lp ⟨rfl, rfl, rfl, rfl, rfl, li_i rfl (by omega), trivial⟩
/-- the sum of a set's prices on one shelf: -1 if one is not allowed -/
def on_v (q : Nat → Int) (x : Nat) : Nat → Int
  | 0 => 0
  | k + 1 => on_v q x k + if Nat.testBit x k then q k else 0
def on_A (q : Nat → Int) (x n : Nat) : Prop := ∀ k, k < n → Nat.testBit x k = true → 0 ≤ q k
theorem lp_Mo_onOne (X : gx_T) (d : Nat) {G : mm_T} {n x s : Nat} {q : Nat → Int} (hF : fx_R G) (hg : mm_I G 60 54 = n) (hn : n ≤ 10) (hx : x < 1024) (hs : s < 24) (hq : ∀ k, k < n → mm_J G 100 (10 * s + k) = q k) : ∀ m k, k + m = n → (∀ j, j < k → Nat.testBit x j = true → 0 ≤ q j) → aw_W X mt_Mo_onOne (d + 2) 5 [(0, some (av_r (some 60))), (1, some (av_i (x : Int))), (2, some (av_i (s : Int))), (3, some (av_l (on_v q x k))), (5, some (av_i (k : Int)))] [] G 0 0 (fun r G' => ((on_A q x n ∧ r = some (av_l (on_v q x n))) ∨ (¬ on_A q x n ∧ r = some (av_l (-1)))) ∧ G' = G) := by
  intro m
  induction m with
  | zero =>
    intro k hk hA
    have hk : k = n := by omega
    subst hk
    refine ar_iload (pc := 5) d_Mo_onOne_5 rfl ?_
    refine ar_aload_n (pc := 7) d_Mo_onOne_7 rfl ?_
    refine ar_getIv (pc := 8) gf_Mo_357 d_Mo_onOne_8 (by first | rfl | exact sh_wheel (by omega) | exact sh_milk (by omega)) hg (fun r_8 => ?_)
    refine ar_icmp_ge (pc := 11) 63 d_Mo_onOne_11 (by decide) ⟨by omega, by omega⟩ ⟨by omega, by omega⟩ (fun h_11 => ?_) (fun h_11 => by exfalso; omega)
    refine ar_lload_n (pc := 63) d_Mo_onOne_63 rfl ?_
    refine ar_lret (pc := 64) d_Mo_onOne_64 rfl ?_
    rotate_left
    -- leaves: ret 64
    · exact ⟨Or.inl ⟨hA, rfl⟩, rfl⟩
  | succ m ih =>
    intro k hk hA
    have c18 := cm_Mo_isIn X d G hx (show k < 10 by omega)
    have i1 := fun h => ih (k + 1) (by omega) h
    rw [on_v] at i1
    have eq1 := hq k (by omega)
    clear ih
    by_cases hb : Nat.testBit x k = true
    · have e1 : tb_i x k = 1 := by unfold tb_i; rw [if_pos hb]
      rw [e1] at c18
      rw [if_pos hb] at i1
      by_cases h0 : 0 ≤ q k
      · have g := i1 (fun j hj hjb => by by_cases e : j = k; rw [e]; exact h0; exact hA j (by omega) hjb)
        clear i1
        refine ar_iload (pc := 5) d_Mo_onOne_5 rfl ?_
        refine ar_aload_n (pc := 7) d_Mo_onOne_7 rfl ?_
        refine ar_getIv (pc := 8) gf_Mo_357 d_Mo_onOne_8 (by first | rfl | exact sh_wheel (by omega) | exact sh_milk (by omega)) hg (fun r_8 => ?_)
        refine ar_icmp_ge (pc := 11) 63 d_Mo_onOne_11 (by decide) ⟨by omega, by omega⟩ ⟨by omega, by omega⟩ (fun h_11 => by exfalso; omega) (fun h_11 => ?_)
        refine ar_aload_n (pc := 14) d_Mo_onOne_14 rfl ?_
        refine ar_iload_n (pc := 15) d_Mo_onOne_15 rfl ?_
        refine ar_iload (pc := 16) d_Mo_onOne_16 rfl ?_
        refine ac_virt (pc := 18) (N := mt_Mo_isIn) _ _ mv_Mo_isIn ml_Mo_366 ck_12 d_Mo_onOne_18 c18 (by first | rfl | exact sh_wheel (by omega) | exact sh_milk (by omega)) rfl rfl (Nat.le_of_ble_eq_true rfl) (Nat.le_of_eq (Nat.zero_add _)) (Nat.le_of_eq (Nat.zero_add _)) (fun r_18 G_18 h_18 => ?_)
        obtain ⟨rfl, e_18⟩ := h_18
        subst G_18
        refine ar_if_ne (pc := 21) 27 d_Mo_onOne_21 (by decide) ⟨by omega, by omega⟩ (fun h_21 => ?_) (fun h_21 => by exfalso; omega)
        refine ar_aload_n (pc := 27) d_Mo_onOne_27 rfl ?_
        refine ar_getR (pc := 28) gf_Mo_133 d_Mo_onOne_28 (by first | rfl | exact sh_wheel (by omega) | exact sh_milk (by omega)) (hF _ _ _ rfl) ?_
        refine ar_bipush (pc := 31) d_Mo_onOne_31 (by decide) ?_
        refine ar_iload_n (pc := 33) d_Mo_onOne_33 rfl ?_
        refine ar_imul (pc := 34) d_Mo_onOne_34 ?_
        refine ar_iload (pc := 35) d_Mo_onOne_35 rfl ?_
        refine ar_iadd (pc := 37) d_Mo_onOne_37 ?_
        refine ar_laldv (pc := 38) d_Mo_onOne_38 rfl (10*s+k) (by omega) (by omega) eq1 (fun r_38 => ?_)
        refine ar_lstore (pc := 39) d_Mo_onOne_39 rfl (by decide) ?_
        refine ar_lload (pc := 41) d_Mo_onOne_41 rfl ?_
        refine ar_lconst (pc := 43) 0 d_Mo_onOne_43 (by decide) ?_
        refine ar_lge (pc := 44) 52 d_Mo_onOne_44 d_Mo_onOne_45 (by decide) r_38 ⟨by omega, by omega⟩ (fun h_44 => ?_) (fun h_44 => ?_)
        refine ar_lload_n (pc := 52) d_Mo_onOne_52 rfl ?_
        refine ar_lload (pc := 53) d_Mo_onOne_53 rfl ?_
        refine ar_ladd (pc := 55) d_Mo_onOne_55 ?_
        refine ar_lstore_n (pc := 56) d_Mo_onOne_56 rfl (by decide) ?_
        refine ar_iinc (pc := 57) d_Mo_onOne_57 rfl rfl (by decide) ?_
        refine ar_goto (pc := 60) 5 d_Mo_onOne_60 (by decide) ?_
        rotate_left
        rotate_left
        -- leaves: stop 5, stop 48
        · exact ar_loc g ⟨rfl, rfl, rfl, rfl, li_i rfl (by omega), trivial⟩
        · exfalso; omega
      · have nA : ¬ on_A q x n := fun z => h0 (z k (by omega) hb)
        clear i1
        refine ar_iload (pc := 5) d_Mo_onOne_5 rfl ?_
        refine ar_aload_n (pc := 7) d_Mo_onOne_7 rfl ?_
        refine ar_getIv (pc := 8) gf_Mo_357 d_Mo_onOne_8 (by first | rfl | exact sh_wheel (by omega) | exact sh_milk (by omega)) hg (fun r_8 => ?_)
        refine ar_icmp_ge (pc := 11) 63 d_Mo_onOne_11 (by decide) ⟨by omega, by omega⟩ ⟨by omega, by omega⟩ (fun h_11 => by exfalso; omega) (fun h_11 => ?_)
        refine ar_aload_n (pc := 14) d_Mo_onOne_14 rfl ?_
        refine ar_iload_n (pc := 15) d_Mo_onOne_15 rfl ?_
        refine ar_iload (pc := 16) d_Mo_onOne_16 rfl ?_
        refine ac_virt (pc := 18) (N := mt_Mo_isIn) _ _ mv_Mo_isIn ml_Mo_366 ck_12 d_Mo_onOne_18 c18 (by first | rfl | exact sh_wheel (by omega) | exact sh_milk (by omega)) rfl rfl (Nat.le_of_ble_eq_true rfl) (Nat.le_of_eq (Nat.zero_add _)) (Nat.le_of_eq (Nat.zero_add _)) (fun r_18 G_18 h_18 => ?_)
        obtain ⟨rfl, e_18⟩ := h_18
        subst G_18
        refine ar_if_ne (pc := 21) 27 d_Mo_onOne_21 (by decide) ⟨by omega, by omega⟩ (fun h_21 => ?_) (fun h_21 => by exfalso; omega)
        refine ar_aload_n (pc := 27) d_Mo_onOne_27 rfl ?_
        refine ar_getR (pc := 28) gf_Mo_133 d_Mo_onOne_28 (by first | rfl | exact sh_wheel (by omega) | exact sh_milk (by omega)) (hF _ _ _ rfl) ?_
        refine ar_bipush (pc := 31) d_Mo_onOne_31 (by decide) ?_
        refine ar_iload_n (pc := 33) d_Mo_onOne_33 rfl ?_
        refine ar_imul (pc := 34) d_Mo_onOne_34 ?_
        refine ar_iload (pc := 35) d_Mo_onOne_35 rfl ?_
        refine ar_iadd (pc := 37) d_Mo_onOne_37 ?_
        refine ar_laldv (pc := 38) d_Mo_onOne_38 rfl (10*s+k) (by omega) (by omega) eq1 (fun r_38 => ?_)
        refine ar_lstore (pc := 39) d_Mo_onOne_39 rfl (by decide) ?_
        refine ar_lload (pc := 41) d_Mo_onOne_41 rfl ?_
        refine ar_lconst (pc := 43) 0 d_Mo_onOne_43 (by decide) ?_
        refine ar_lge (pc := 44) 52 d_Mo_onOne_44 d_Mo_onOne_45 (by decide) r_38 ⟨by omega, by omega⟩ (fun h_44 => ?_) (fun h_44 => ?_)
        rotate_left
        refine ar_ldc2 (pc := 48) (-1) kj_Mo_369 d_Mo_onOne_48 (by decide) ?_
        refine ar_lret (pc := 51) d_Mo_onOne_51 rfl ?_
        rotate_left
        -- leaves: stop 52, ret 51
        · exfalso; omega
        · exact ⟨Or.inr ⟨nA, rfl⟩, rfl⟩
    · have e1 : tb_i x k = 0 := by unfold tb_i; rw [if_neg hb]
      rw [e1] at c18
      rw [if_neg hb, Int.add_zero] at i1
      have g := i1 (fun j hj hjb => by by_cases e : j = k; rw [e] at hjb; exact absurd hjb hb; exact hA j (by omega) hjb)
      clear i1
      refine ar_iload (pc := 5) d_Mo_onOne_5 rfl ?_
      refine ar_aload_n (pc := 7) d_Mo_onOne_7 rfl ?_
      refine ar_getIv (pc := 8) gf_Mo_357 d_Mo_onOne_8 (by first | rfl | exact sh_wheel (by omega) | exact sh_milk (by omega)) hg (fun r_8 => ?_)
      refine ar_icmp_ge (pc := 11) 63 d_Mo_onOne_11 (by decide) ⟨by omega, by omega⟩ ⟨by omega, by omega⟩ (fun h_11 => by exfalso; omega) (fun h_11 => ?_)
      refine ar_aload_n (pc := 14) d_Mo_onOne_14 rfl ?_
      refine ar_iload_n (pc := 15) d_Mo_onOne_15 rfl ?_
      refine ar_iload (pc := 16) d_Mo_onOne_16 rfl ?_
      refine ac_virt (pc := 18) (N := mt_Mo_isIn) _ _ mv_Mo_isIn ml_Mo_366 ck_12 d_Mo_onOne_18 c18 (by first | rfl | exact sh_wheel (by omega) | exact sh_milk (by omega)) rfl rfl (Nat.le_of_ble_eq_true rfl) (Nat.le_of_eq (Nat.zero_add _)) (Nat.le_of_eq (Nat.zero_add _)) (fun r_18 G_18 h_18 => ?_)
      obtain ⟨rfl, e_18⟩ := h_18
      subst G_18
      refine ar_if_ne (pc := 21) 27 d_Mo_onOne_21 (by decide) ⟨by omega, by omega⟩ (fun h_21 => by exfalso; omega) (fun h_21 => ?_)
      refine ar_goto (pc := 24) 57 d_Mo_onOne_24 (by decide) ?_
      refine ar_iinc (pc := 57) d_Mo_onOne_57 rfl rfl (by decide) ?_
      refine ar_goto (pc := 60) 5 d_Mo_onOne_60 (by decide) ?_
      rotate_left
      -- leaves: stop 5
      · exact ar_loc g ⟨rfl, rfl, rfl, rfl, li_i rfl (by omega), trivial⟩
theorem cm_Mo_onOne (X : gx_T) (d : Nat) {G : mm_T} {n x s : Nat} {q : Nat → Int} (hF : fx_R G) (hg : mm_I G 60 54 = n) (hn : n ≤ 10) (hx : x < 1024) (hs : s < 24) (hq : ∀ k, k < n → mm_J G 100 (10 * s + k) = q k) : aw_M X (d + 2) mt_Mo_onOne [av_r (some 60), av_i (x : Int), av_i (s : Int)] G 0 0 (fun r G' => ((on_A q x n ∧ r = some (av_l (on_v q x n))) ∨ (¬ on_A q x n ∧ r = some (av_l (-1)))) ∧ G' = G) := by
  have lp := lp_Mo_onOne X d hF hg hn hx hs hq n 0 (by omega) (fun j hj => by omega)
  refine aw_enter pf_Mo_onOne (Nat.le_of_ble_eq_true rfl) ?_
  refine ar_lconst (pc := 0) 0 d_Mo_onOne_0 (by decide) ?_
  refine ar_lstore_n (pc := 1) d_Mo_onOne_1 rfl (by decide) ?_
  refine ar_iconst (pc := 2) d_Mo_onOne_2 ?_
  refine ar_istore (pc := 3) d_Mo_onOne_3 rfl (by decide) ?_
  rotate_left
  -- leaves: stop 5
  · exact ar_loc lp ⟨rfl, rfl, rfl, rfl, rfl, trivial⟩
