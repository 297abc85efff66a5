/-! ===== the invariant at the start; the law ===== -/
def ay_P (G G0 : mm_T) : Prop := ∀ a, 54 ≤ a → mm_A G a = mm_A G0 a
theorem ay_R {G G0 : mm_T} {a k : Nat} {v : Option Nat} (h : ay_P G G0) : ay_P (ms_R G a k v) G0 := h
theorem ay_I {G G0 : mm_T} {a k : Nat} {v : Int} (h : ay_P G G0) : ay_P (ms_I G a k v) G0 := h
theorem ay_N {G G0 : mm_T} {b : Nat} (hb : b < 54) (h : ay_P G G0) : ay_P (ms_N G b) G0 := fun a ha => by
  show (if a = b then true else mm_A G a) = _
  rw [if_neg (by omega)]; exact h a ha
theorem nk_A (G : mm_T) : ay_P (nk_G G) G := by
  unfold nk_G
  repeat (first | with_reducible apply ay_R | (with_reducible refine ay_N (by decide) ?_) | with_reducible apply ay_I)
  exact fun _ _ => rfl
/-- nothing is made yet -/
def zm_G : mm_T := (fun _ => false, fun _ _ => 0, fun _ _ => 0, fun _ _ => none)
theorem n2_o (G : mm_T) : mm_R (n2_G G) 0 11 = some 42 ∧ mm_R (n2_G G) 0 12 = some 48 := ⟨rfl, rfl⟩
theorem gi_0 : gi_G (n2_G zm_G) 0 0 0 0 0 0 := by
  have nz : nz_P zm_G := fun _ _ => Or.inl rfl
  have hF := n2_fx zm_G
  have z : ∀ a j, ¬ (a = 35 ∧ j = 7) → ¬ (a = 60 ∧ j = 37) → mm_I (n2_G zm_G) a j = 0 := fun a j h1 h2 => n2_0 nz h1 h2
  have h7 := n2_7 zm_G
  have ho := n2_o zm_G
  have ha : ∀ a, 107 ≤ a → mm_A (n2_G zm_G) a = false := fun a h => n2_a zm_G a h
  generalize n2_G zm_G = G at *
  have row : ∀ a, a ≠ 35 → a ≠ 60 → mm_I G a = fun _ => 0 := fun a h1 h2 => funext fun j => z a j (by omega) (by omega)
  refine ⟨hF, ⟨z 0 15 (by omega) (by omega), z 60 0 (by omega) (by omega), by omega, by omega⟩, ⟨by rw [row 2 (by omega) (by omega), row 61 (by omega) (by omega)], by rw [row 3 (by omega) (by omega), row 62 (by omega) (by omega)], fun k hk => by rw [z 2 k (by omega) (by omega)]; omega, fun k hk => by rw [z 3 k (by omega) (by omega)]; omega⟩, ⟨by rw [z 35 6 (by omega) (by omega), z 60 36 (by omega) (by omega)], by rw [h7.1, h7.2]⟩, ⟨z 33 1 (by omega) (by omega), z 60 35 (by omega) (by omega), by omega, by rw [row 34 (by omega) (by omega), row 87 (by omega) (by omega)], fun k => by rw [z 34 k (by omega) (by omega)]; omega⟩, ⟨by rw [row 8 (by omega) (by omega), row 91 (by omega) (by omega)], by rw [row 9 (by omega) (by omega), row 92 (by omega) (by omega)], by rw [row 10 (by omega) (by omega), row 93 (by omega) (by omega)], by rw [row 11 (by omega) (by omega), row 94 (by omega) (by omega)], fun k hk => by rw [z 8 k (by omega) (by omega)]; omega⟩, ⟨z 0 13 (by omega) (by omega), z 60 3 (by omega) (by omega), by omega, fun k hk => by omega, fun k _ _ => ha _ (by omega), fun k hk => ?_⟩, ⟨z 0 14 (by omega) (by omega), z 60 4 (by omega) (by omega), by omega, z 12 4 (by omega) (by omega), z 60 5 (by omega) (by omega), by omega⟩, ⟨fun k hk => by omega, fun k _ _ => ha _ (by omega)⟩, fun k hk => by omega, ⟨fun k hk => ?_, fun k hk => by omega, fun k _ _ => ⟨z 70 k (by omega) (by omega), z 68 k (by omega) (by omega), z 69 k (by omega) (by omega), z 72 k (by omega) (by omega)⟩⟩, fun t ht => ⟨by rw [z 4 t (by omega) (by omega)]; rfl, by rw [z 4 t (by omega) (by omega)]; omega⟩, ⟨fun k => Or.inl (z 74 k (by omega) (by omega)), fun k hk => by omega, fun k _ _ m _ => z 74 _ (by omega) (by omega)⟩, ⟨by rw [row 13 (by omega) (by omega), row 75 (by omega) (by omega)], by rw [row 14 (by omega) (by omega), row 76 (by omega) (by omega)], by rw [row 15 (by omega) (by omega), row 77 (by omega) (by omega)], by rw [row 16 (by omega) (by omega), row 78 (by omega) (by omega)], fun k hk => by omega⟩, ⟨z 17 6 (by omega) (by omega), z 60 62 (by omega) (by omega), by omega, ⟨by rw [row 18 (by omega) (by omega), row 101 (by omega) (by omega)], by rw [row 19 (by omega) (by omega), row 102 (by omega) (by omega)], by rw [row 20 (by omega) (by omega), row 103 (by omega) (by omega)], by rw [row 21 (by omega) (by omega), row 104 (by omega) (by omega)], by rw [row 22 (by omega) (by omega), row 105 (by omega) (by omega)]⟩, fun k hk => by omega⟩, ⟨0, ⟨z 60 55 (by omega) (by omega), z 24 9 (by omega) (by omega), by omega⟩, ⟨fun x => absurd (z 60 53 (by omega) (by omega)) x, fun x => absurd (z 24 10 (by omega) (by omega)) x.1⟩, fun _ => rfl, fun x => absurd (z 24 10 (by omega) (by omega)) x⟩, ⟨mm_I G 43, fun _ => 0, fun _ => 0, 0, ⟨by omega, rfl, fun j hj => by omega⟩, Or.inl ⟨ho.1, ho.2, ⟨rfl, fun j hj => by omega, fun j hj => by omega⟩, z 42 6 (by omega) (by omega)⟩, ⟨fun j hj => z 81 j (by omega) (by omega), fun j hj => by omega, fun k hk => absurd hk (Nat.not_lt_zero k)⟩, z 60 26 (by omega) (by omega)⟩⟩
  · rw [z (200 + k) 0 (by omega) (by omega), z (200 + k) 1 (by omega) (by omega), z (200 + k) 2 (by omega) (by omega), z 63 k (by omega) (by omega), z 64 k (by omega) (by omega), z 65 k (by omega) (by omega)]
    exact ⟨⟨rfl, rfl, rfl⟩, by omega, by omega, by omega, fun _ => rfl⟩
  · unfold gi_n
    rw [z 66 k (by omega) (by omega), z 67 k (by omega) (by omega), z 68 k (by omega) (by omega), z 69 k (by omega) (by omega), z 70 k (by omega) (by omega), z 71 k (by omega) (by omega), z 72 k (by omega) (by omega), z 73 k (by omega) (by omega)]
    omega
theorem b_and31 (x : Int) : 0 ≤ b_iand x 31 ∧ b_iand x 31 ≤ 31 := by
  unfold b_iand
  rw [show Int32.ofInt 31 = 31 from rfl, pk_and _ 5 (by decide), nI_toInt (by omega)]
  omega
theorem lp_law (X : gx_T) (d : Nat) (hX : X.1 ≤ 4608) : ∀ m i mc wc G, X.1 < i + 9 * m → i ≤ 5000 → gi_J mc wc G → aw_W X mt_Law (d + 60) 18 [(0, some (av_r (some 998))), (1, some (av_r (some 0))), (2, some (av_r (some 60))), (3, some (av_i (i : Int)))] [] G ((30 - mc) + (40 - wc)) (3 * (30 - mc) + 10 * (40 - wc)) (fun r _ => r = some (av_i 1)) := by
  intro m
  induction m with
  | zero =>
    intro i mc wc G hm h5 hJ
    refine ar_iload_n (pc := 18) d_Law_18 rfl ?_
    refine ar_aload_n (pc := 19) d_Law_19 rfl ?_
    refine ar_slen (pc := 20) d_Law_20 ?_
    refine ar_bipush (pc := 21) d_Law_21 (by decide) ?_
    refine ar_isub (pc := 23) d_Law_23 ?_
    refine ar_icmp_gt (pc := 24) 929 d_Law_24 (by decide) ⟨by omega, by omega⟩ ⟨by omega, by omega⟩ (fun h_24 => ?_) (fun h_24 => by exfalso; omega)
    refine ar_iconst (pc := 929) d_Law_929 ?_
    refine ar_zret (pc := 930) d_Law_930 rfl (by omega) ?_
    rotate_left
    -- leaves: ret 930
    · rfl
  | succ m ih =>
    intro i mc wc G hm h5 hJ
    by_cases hi : i + 9 ≤ X.1
    · have kk : lk_C X d i := by
        intro mc' wc' G' hJ'
        have q := ih (i + 9) mc' wc' G' (by omega) (by omega) hJ'
        clear ih
        refine ar_iinc (pc := 923) d_Law_923 rfl rfl (by decide) ?_
        refine ar_goto (pc := 926) 18 d_Law_926 (by decide) ?_
        rotate_left
        -- leaves: stop 18
        exact ar_loc q ⟨rfl, rfl, rfl, li_i rfl (by omega), trivial⟩
      clear ih
      have hb := b_and31 (X.2 i).toInt
      refine ar_iload_n (pc := 18) d_Law_18 rfl ?_
      refine ar_aload_n (pc := 19) d_Law_19 rfl ?_
      refine ar_slen (pc := 20) d_Law_20 ?_
      refine ar_bipush (pc := 21) d_Law_21 (by decide) ?_
      refine ar_isub (pc := 23) d_Law_23 ?_
      refine ar_icmp_gt (pc := 24) 929 d_Law_24 (by decide) ⟨by omega, by omega⟩ ⟨by omega, by omega⟩ (fun h_24 => by exfalso; omega) (fun h_24 => ?_)
      refine ar_aload_n (pc := 27) d_Law_27 rfl ?_
      refine ar_iload_n (pc := 28) d_Law_28 rfl ?_
      refine ar_sld (pc := 29) d_Law_29 (i) (by omega) (by omega) (by omega) (fun r_29 => ?_)
      refine ar_bipush (pc := 30) d_Law_30 (by decide) ?_
      refine ar_iand (pc := 32) d_Law_32 ?_
      generalize b_iand (X.2 i).toInt 31 = x at hb
      refine ar_case (x = 0) (fun hs_33_0 => ?_) (fun hn_33_0 => ?_)
      refine ar_tableIn (pc := 33) 144 d_Law_33 ⟨by omega, by omega⟩ (by omega) (by omega) (by rw [hs_33_0]; try rfl) (by decide) ?_
      rotate_left
      refine ar_case (x = 1) (fun hs_33_1 => ?_) (fun hn_33_1 => ?_)
      refine ar_tableIn (pc := 33) 177 d_Law_33 ⟨by omega, by omega⟩ (by omega) (by omega) (by rw [hs_33_1]; try rfl) (by decide) ?_
      rotate_left
      refine ar_case (x = 2) (fun hs_33_2 => ?_) (fun hn_33_2 => ?_)
      refine ar_tableIn (pc := 33) 210 d_Law_33 ⟨by omega, by omega⟩ (by omega) (by omega) (by rw [hs_33_2]; try rfl) (by decide) ?_
      rotate_left
      refine ar_case (x = 3) (fun hs_33_3 => ?_) (fun hn_33_3 => ?_)
      refine ar_tableIn (pc := 33) 243 d_Law_33 ⟨by omega, by omega⟩ (by omega) (by omega) (by rw [hs_33_3]; try rfl) (by decide) ?_
      rotate_left
      refine ar_case (x = 4) (fun hs_33_4 => ?_) (fun hn_33_4 => ?_)
      refine ar_tableIn (pc := 33) 342 d_Law_33 ⟨by omega, by omega⟩ (by omega) (by omega) (by rw [hs_33_4]; try rfl) (by decide) ?_
      rotate_left
      refine ar_case (x = 5) (fun hs_33_5 => ?_) (fun hn_33_5 => ?_)
      refine ar_tableIn (pc := 33) 365 d_Law_33 ⟨by omega, by omega⟩ (by omega) (by omega) (by rw [hs_33_5]; try rfl) (by decide) ?_
      rotate_left
      refine ar_case (x = 6) (fun hs_33_6 => ?_) (fun hn_33_6 => ?_)
      refine ar_tableIn (pc := 33) 428 d_Law_33 ⟨by omega, by omega⟩ (by omega) (by omega) (by rw [hs_33_6]; try rfl) (by decide) ?_
      rotate_left
      refine ar_case (x = 7) (fun hs_33_7 => ?_) (fun hn_33_7 => ?_)
      refine ar_tableIn (pc := 33) 451 d_Law_33 ⟨by omega, by omega⟩ (by omega) (by omega) (by rw [hs_33_7]; try rfl) (by decide) ?_
      rotate_left
      refine ar_case (x = 8) (fun hs_33_8 => ?_) (fun hn_33_8 => ?_)
      refine ar_tableIn (pc := 33) 464 d_Law_33 ⟨by omega, by omega⟩ (by omega) (by omega) (by rw [hs_33_8]; try rfl) (by decide) ?_
      rotate_left
      refine ar_case (x = 9) (fun hs_33_9 => ?_) (fun hn_33_9 => ?_)
      refine ar_tableIn (pc := 33) 487 d_Law_33 ⟨by omega, by omega⟩ (by omega) (by omega) (by rw [hs_33_9]; try rfl) (by decide) ?_
      rotate_left
      refine ar_case (x = 10) (fun hs_33_10 => ?_) (fun hn_33_10 => ?_)
      refine ar_tableIn (pc := 33) 510 d_Law_33 ⟨by omega, by omega⟩ (by omega) (by omega) (by rw [hs_33_10]; try rfl) (by decide) ?_
      rotate_left
      refine ar_case (x = 11) (fun hs_33_11 => ?_) (fun hn_33_11 => ?_)
      refine ar_tableIn (pc := 33) 543 d_Law_33 ⟨by omega, by omega⟩ (by omega) (by omega) (by rw [hs_33_11]; try rfl) (by decide) ?_
      rotate_left
      refine ar_case (x = 12) (fun hs_33_12 => ?_) (fun hn_33_12 => ?_)
      refine ar_tableIn (pc := 33) 576 d_Law_33 ⟨by omega, by omega⟩ (by omega) (by omega) (by rw [hs_33_12]; try rfl) (by decide) ?_
      rotate_left
      refine ar_case (x = 13) (fun hs_33_13 => ?_) (fun hn_33_13 => ?_)
      refine ar_tableIn (pc := 33) 629 d_Law_33 ⟨by omega, by omega⟩ (by omega) (by omega) (by rw [hs_33_13]; try rfl) (by decide) ?_
      rotate_left
      refine ar_case (x = 14) (fun hs_33_14 => ?_) (fun hn_33_14 => ?_)
      refine ar_tableIn (pc := 33) 662 d_Law_33 ⟨by omega, by omega⟩ (by omega) (by omega) (by rw [hs_33_14]; try rfl) (by decide) ?_
      rotate_left
      refine ar_case (x = 15) (fun hs_33_15 => ?_) (fun hn_33_15 => ?_)
      refine ar_tableIn (pc := 33) 695 d_Law_33 ⟨by omega, by omega⟩ (by omega) (by omega) (by rw [hs_33_15]; try rfl) (by decide) ?_
      rotate_left
      refine ar_case (x = 16) (fun hs_33_16 => ?_) (fun hn_33_16 => ?_)
      refine ar_tableIn (pc := 33) 708 d_Law_33 ⟨by omega, by omega⟩ (by omega) (by omega) (by rw [hs_33_16]; try rfl) (by decide) ?_
      rotate_left
      refine ar_case (x = 17) (fun hs_33_17 => ?_) (fun hn_33_17 => ?_)
      refine ar_tableIn (pc := 33) 731 d_Law_33 ⟨by omega, by omega⟩ (by omega) (by omega) (by rw [hs_33_17]; try rfl) (by decide) ?_
      rotate_left
      refine ar_case (x = 18) (fun hs_33_18 => ?_) (fun hn_33_18 => ?_)
      refine ar_tableIn (pc := 33) 744 d_Law_33 ⟨by omega, by omega⟩ (by omega) (by omega) (by rw [hs_33_18]; try rfl) (by decide) ?_
      rotate_left
      refine ar_case (x = 19) (fun hs_33_19 => ?_) (fun hn_33_19 => ?_)
      refine ar_tableIn (pc := 33) 787 d_Law_33 ⟨by omega, by omega⟩ (by omega) (by omega) (by rw [hs_33_19]; try rfl) (by decide) ?_
      rotate_left
      refine ar_case (x = 20) (fun hs_33_20 => ?_) (fun hn_33_20 => ?_)
      refine ar_tableIn (pc := 33) 810 d_Law_33 ⟨by omega, by omega⟩ (by omega) (by omega) (by rw [hs_33_20]; try rfl) (by decide) ?_
      rotate_left
      refine ar_case (x = 21) (fun hs_33_21 => ?_) (fun hn_33_21 => ?_)
      refine ar_tableIn (pc := 33) 843 d_Law_33 ⟨by omega, by omega⟩ (by omega) (by omega) (by rw [hs_33_21]; try rfl) (by decide) ?_
      rotate_left
      refine ar_case (x = 22) (fun hs_33_22 => ?_) (fun hn_33_22 => ?_)
      refine ar_tableIn (pc := 33) 876 d_Law_33 ⟨by omega, by omega⟩ (by omega) (by omega) (by rw [hs_33_22]; try rfl) (by decide) ?_
      rotate_left
      refine ar_case (x = 23) (fun hs_33_23 => ?_) (fun hn_33_23 => ?_)
      refine ar_tableIn (pc := 33) 900 d_Law_33 ⟨by omega, by omega⟩ (by omega) (by omega) (by rw [hs_33_23]; try rfl) (by decide) ?_
      rotate_left
      refine ar_tableOut (pc := 33) 923 d_Law_33 ⟨by omega, by omega⟩ (by omega) (by decide) ?_
      rotate_left
      -- leaves: stop 144, stop 177, stop 210, stop 243, stop 342, stop 365, stop 428, stop 451, stop 464, stop 487, stop 510, stop 543, stop 576, stop 629, stop 662, stop 695, stop 708, stop 731, stop 744, stop 787, stop 810, stop 843, stop 876, stop 900, stop 923
      · exact lc_air X d hi hX hJ kk
      · exact lc_damp X d hi hX hJ kk
      · exact lc_milk X d hi hX hJ kk
      · exact lc_wheel X d hi hX hJ kk
      · exact lc_sell X d hi hX hJ kk
      · exact lc_feed X d hi hX hJ kk
      · exact lc_end X d hi hX hJ kk
      · exact lc_orders X d hi hX hJ kk
      · exact lc_fault X d hi hX hJ kk
      · exact lc_days X d hi hX hJ kk
      · exact lc_of X d hi hX hJ kk
      · exact lc_from X d hi hX hJ kk
      · exact lc_band X d hi hX hJ kk
      · exact lc_suits X d hi hX hJ kk
      · exact lc_move X d hi hX hJ kk
      · exact lc_plan X d hi hX hJ kk
      · exact lc_planned X d hi hX hJ kk
      · exact lc_carry X d hi hX hJ kk
      · exact lc_mark X d hi hX hJ kk
      · exact lc_untell X d hi hX hJ kk
      · exact lc_grade X d hi hX hJ kk
      · exact lc_beside X d hi hX hJ kk
      · exact lc_reached X d hi hX hJ kk
      · exact lc_about X d hi hX hJ kk
      · exact kk _ _ _ hJ
    · clear ih
      refine ar_iload_n (pc := 18) d_Law_18 rfl ?_
      refine ar_aload_n (pc := 19) d_Law_19 rfl ?_
      refine ar_slen (pc := 20) d_Law_20 ?_
      refine ar_bipush (pc := 21) d_Law_21 (by decide) ?_
      refine ar_isub (pc := 23) d_Law_23 ?_
      refine ar_icmp_gt (pc := 24) 929 d_Law_24 (by decide) ⟨by omega, by omega⟩ ⟨by omega, by omega⟩ (fun h_24 => ?_) (fun h_24 => by exfalso; omega)
      refine ar_iconst (pc := 929) d_Law_929 ?_
      refine ar_zret (pc := 930) d_Law_930 rfl (by omega) ?_
      rotate_left
      -- leaves: ret 930
      · rfl
theorem lw_all (X : gx_T) (d : Nat) (hX : X.1 ≤ 4608) : aw_W X mt_Law (d + 60) 0 [(0, some (av_r (some 998)))] [] zm_G 171 63419 (fun r _ => r = some (av_i 1)) := by
  have q := lp_law X d hX 513 0 0 0 (n2_G zm_G) (by omega) (by omega) ⟨0, 0, 0, 0, gi_0⟩
  have a60 : mm_A (nk_G (ms_N zm_G 0)) 60 = false := by rw [nk_A _ 60 (by omega)]; rfl
  have ci := cm_K_init X (d + 56) (ms_N zm_G 0) (fun a h1 h2 => by rw [an_n (by omega)]; rfl)
  have mi := cm_Mo_init X (d + 58) (ms_N (nk_G (ms_N zm_G 0)) 60) (fun a h1 h2 => by rw [an_n (by omega), nk_A _ a (by omega), an_n (by omega)]; rfl)
  refine ac_new (pc := 0) 0 ck_11 kl_Law_7 in_K it_K d_Law_0 rfl rfl ?_
  refine ar_dup (pc := 3) d_Law_3 rfl ?_
  refine ac_init (pc := 4) (N := mt_K_init) 117 58257 iv_K_init ml_Law_9 d_Law_4 ci rfl rfl (Nat.le_of_ble_eq_true rfl) (by omega) (by omega) (fun r_4 G_4 h_4 => ?_)
  obtain ⟨rfl, e_4⟩ := h_4
  subst G_4
  refine ar_astore_n (pc := 7) d_Law_7 rfl (by decide) ?_
  refine ac_new (pc := 8) 60 ck_12 kl_Law_10 in_Mo it_Mo d_Law_8 rfl a60 ?_
  refine ar_dup (pc := 11) d_Law_11 rfl ?_
  refine ac_init (pc := 12) (N := mt_Mo_init) 70 490 iv_Mo_init ml_Law_12 d_Law_12 mi rfl rfl (Nat.le_of_ble_eq_true rfl) (by omega) (by omega) (fun r_12 G_12 h_12 => ?_)
  obtain ⟨rfl, e_12⟩ := h_12
  subst G_12
  refine ar_astore_n (pc := 15) d_Law_15 rfl (by decide) ?_
  refine ar_iconst (pc := 16) d_Law_16 ?_
  refine ar_istore_n (pc := 17) d_Law_17 rfl (by decide) ?_
  rotate_left
  -- leaves: stop 18
  exact ar_loc q ⟨rfl, rfl, rfl, rfl, trivial⟩
