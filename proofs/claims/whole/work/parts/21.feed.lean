/-! ===== the tape ===== -/
/-- a byte of an int -/
def by_v (x k : Int) : Int := b_iand (b_ishr x k) 255
theorem by_sh (A s : Int32) (u : UInt32) (k : Nat) (hk : k ≤ 24) (hs : (s.toBitVec.smod 32).toNat = k) (hu : u.toNat = k) : ((A.toUInt32 >>> u).toInt32 &&& 255) = ((A >>> s) &&& 255) := by
  have e : (A.toUInt32 >>> u).toInt32.toBitVec = A.toBitVec >>> k := by
    apply BitVec.eq_of_toNat_eq
    show (A.toUInt32 >>> u).toNat = _
    rw [UInt32.toNat_shiftRight, hu, Nat.mod_eq_of_lt (by omega), BitVec.toNat_ushiftRight]
    rfl
  apply Int32.toBitVec.inj
  rw [Int32.toBitVec_and, Int32.toBitVec_and, e, Int32.toBitVec_shiftRight]
  apply BitVec.eq_of_getLsbD_eq
  intro i hi
  rw [BitVec.getLsbD_and, BitVec.getLsbD_and]
  by_cases hi8 : i < 8
  · have h9 : (A.toBitVec.sshiftRight' (s.toBitVec.smod 32)).getLsbD i = A.toBitVec.getLsbD (k + i) := by
      show (A.toBitVec.sshiftRight (s.toBitVec.smod 32).toNat).getLsbD i = _
      rw [hs, BitVec.getLsbD_sshiftRight]
      have h32 : k + i < 32 := by omega
      simp [hi, h32]
    rw [h9, BitVec.getLsbD_ushiftRight]
  · have : (255 : Int32).toBitVec.getLsbD i = false := by
      have h256 : (255 : Int32).toBitVec.toNat < 2 ^ i := Nat.lt_of_lt_of_le (show (255 : Int32).toBitVec.toNat < 2 ^ 8 by decide) (Nat.pow_le_pow_right (by omega) (by omega))
      exact Nat.testBit_lt_two_pow h256
    rw [this, Bool.and_false, Bool.and_false]
theorem by_u (x : Int) {k : Nat} (hk : k = 24 ∨ k = 16 ∨ k = 8 ∨ k = 0) : b_iand (b_iushr x (k : Int)) 255 = by_v x (k : Int) := by
  unfold by_v b_iand b_iushr b_ishr
  rw [Int32.ofInt_toInt, Int32.ofInt_toInt]
  have h255 : Int32.ofInt 255 = 255 := rfl
  rw [h255]
  rcases hk with rfl | rfl | rfl | rfl
  · exact congrArg Int32.toInt (by_sh (Int32.ofInt x) (Int32.ofInt ((24 : Nat) : Int) &&& 31) ((Int32.ofInt ((24 : Nat) : Int)).toUInt32 &&& Int32.toUInt32 31) 24 (by omega) (by decide) (by decide))
  · exact congrArg Int32.toInt (by_sh (Int32.ofInt x) (Int32.ofInt ((16 : Nat) : Int) &&& 31) ((Int32.ofInt ((16 : Nat) : Int)).toUInt32 &&& Int32.toUInt32 31) 16 (by omega) (by decide) (by decide))
  · exact congrArg Int32.toInt (by_sh (Int32.ofInt x) (Int32.ofInt ((8 : Nat) : Int) &&& 31) ((Int32.ofInt ((8 : Nat) : Int)).toUInt32 &&& Int32.toUInt32 31) 8 (by omega) (by decide) (by decide))
  · exact congrArg Int32.toInt (by_sh (Int32.ofInt x) (Int32.ofInt ((0 : Nat) : Int) &&& 31) ((Int32.ofInt ((0 : Nat) : Int)).toUInt32 &&& Int32.toUInt32 31) 0 (by omega) (by decide) (by decide))
theorem by_rng (x k : Int) : 0 ≤ by_v x k ∧ by_v x k ≤ 255 := by
  unfold by_v b_iand
  rw [show Int32.ofInt 255 = 255 from rfl, pk_and _ 8 (by decide), nI_toInt (by omega)]
  omega
/-- n bytes behind the first c, and how many there are -/
def ms_tp (G : mm_T) (ba sa sk c n : Nat) (b : Nat → Int) : mm_T := (G.1, fun a j => if a = sa ∧ j = sk then ((c + n : Nat) : Int) else if a = ba ∧ c ≤ j ∧ j < c + n then b (j - c) else G.2.1 a j, G.2.2.1, G.2.2.2)
theorem tp_0 (G : mm_T) {ba sa sk c : Nat} (b : Nat → Int) (h : mm_I G sa sk = c) : ms_tp G ba sa sk c 0 b = G := by
  obtain ⟨A, I, J, R⟩ := G
  refine congrArg (fun q => (A, q, J, R)) (funext fun a => funext fun j => ?_)
  show (if a = sa ∧ j = sk then ((c + 0 : Nat) : Int) else if a = ba ∧ c ≤ j ∧ j < c + 0 then b (j - c) else I a j) = I a j
  split
  · next h2 => rw [h2.1, h2.2]; exact h.symm
  · rw [if_neg (by omega)]
theorem tp_s (G : mm_T) {ba sa sk c n : Nat} (b : Nat → Int) (hne : sa ≠ ba) : ms_I (ms_I (ms_tp G ba sa sk c n b) ba (c + n) (b n)) sa sk ((c + n : Nat) + 1) = ms_tp G ba sa sk c (n + 1) b := by
  obtain ⟨A, I, J, R⟩ := G
  refine congrArg (fun q => (A, q, J, R)) (funext fun a => funext fun j => ?_)
  show (if a = sa ∧ j = sk then (((c + n : Nat) : Int) + 1) else if a = ba ∧ j = c + n then b n else if a = sa ∧ j = sk then ((c + n : Nat) : Int) else if a = ba ∧ c ≤ j ∧ j < c + n then b (j - c) else I a j) = if a = sa ∧ j = sk then ((c + (n + 1) : Nat) : Int) else if a = ba ∧ c ≤ j ∧ j < c + (n + 1) then b (j - c) else I a j
  by_cases h1 : a = sa ∧ j = sk
  · rw [if_pos h1, if_pos h1]; omega
  · rw [if_neg h1, if_neg h1, if_neg h1]
    by_cases h2 : a = ba ∧ j = c + n
    · rw [if_pos h2, if_pos ⟨h2.1, by omega, by omega⟩, h2.2, Nat.add_sub_cancel_left]
    · rw [if_neg h2]
      by_cases h3 : a = ba ∧ c ≤ j ∧ j < c + n
      · rw [if_pos h3, if_pos ⟨h3.1, h3.2.1, by omega⟩]
      · rw [if_neg h3, if_neg (by omega)]
theorem lp_Ta_take (X : gx_T) (d : Nat) (G : mm_T) {v : Int} {c n : Nat} {b : Nat → Int} {Q : Option av_T → mm_T → Prop} {k : Nat} (hk : k = 24 ∨ k = 16 ∨ k = 8 ∨ k = 0) (hF : fx_R G) (hc : c + n + 1 ≤ 500) (hb : b n = by_v v (k : Int))
    (kk : aw_W X mt_Ta_take (d + 1) 3 [(0, some (av_r (some 33))), (1, some (av_i v)), (2, some (av_i ((k : Int) - 8)))] [] (ms_tp G 34 33 1 c (n + 1) b) 0 0 Q) : aw_W X mt_Ta_take (d + 1) 3 [(0, some (av_r (some 33))), (1, some (av_i v)), (2, some (av_i (k : Int)))] [] (ms_tp G 34 33 1 c n b) 0 0 Q := by
  have hr := by_rng v (k : Int)
  have hs : mm_I (ms_tp G 34 33 1 c n b) 33 1 = ((c + n : Nat) : Int) := rfl
  rw [← tp_s G b (by omega), hb] at kk
  refine ar_iload_n (pc := 3) d_Ta_take_3 rfl ?_
  refine ar_if_lt (pc := 4) 49 d_Ta_take_4 (by decide) ⟨by omega, by omega⟩ (fun h_4 => by exfalso; omega) (fun h_4 => ?_)
  refine ar_aload_n (pc := 7) d_Ta_take_7 rfl ?_
  refine ar_getIv (pc := 8) gf_Ta_15 d_Ta_take_8 (by first | rfl | exact sh_wheel (by omega) | exact sh_milk (by omega)) hs (fun r_8 => ?_)
  refine ar_sipush (pc := 11) d_Ta_take_11 (by decide) ?_
  refine ar_icmp_ge (pc := 14) 43 d_Ta_take_14 (by decide) ⟨by omega, by omega⟩ ⟨by omega, by omega⟩ (fun h_14 => by exfalso; omega) (fun h_14 => ?_)
  refine ar_aload_n (pc := 17) d_Ta_take_17 rfl ?_
  refine ar_getR (pc := 18) gf_Ta_9 d_Ta_take_18 (by first | rfl | exact sh_wheel (by omega) | exact sh_milk (by omega)) (hF _ _ _ rfl) ?_
  refine ar_aload_n (pc := 21) d_Ta_take_21 rfl ?_
  refine ar_getIv (pc := 22) gf_Ta_15 d_Ta_take_22 (by first | rfl | exact sh_wheel (by omega) | exact sh_milk (by omega)) hs (fun r_22 => ?_)
  refine ar_iload_n (pc := 25) d_Ta_take_25 rfl ?_
  refine ar_iload_n (pc := 26) d_Ta_take_26 rfl ?_
  refine ar_iushr (pc := 27) d_Ta_take_27 ?_
  refine ar_sipush (pc := 28) d_Ta_take_28 (by decide) ?_
  refine ar_iand (pc := 31) d_Ta_take_31 ?_
  rw [by_u v hk]
  refine ar_iast (pc := 32) d_Ta_take_32 rfl (c+n) (by omega) (by omega) ⟨by omega, by omega⟩ ?_
  refine ar_aload_n (pc := 33) d_Ta_take_33 rfl ?_
  refine ar_dup (pc := 34) d_Ta_take_34 rfl ?_
  refine ar_getIv (pc := 35) gf_Ta_15 d_Ta_take_35 (by first | rfl | exact sh_wheel (by omega) | exact sh_milk (by omega)) (show _ = ((c + n : Nat) : Int) from rfl) (fun r_35 => ?_)
  refine ar_iconst (pc := 38) d_Ta_take_38 ?_
  refine ar_iadd (pc := 39) d_Ta_take_39 ?_
  refine ar_putI (pc := 40) gf_Ta_15 d_Ta_take_40 rfl (by first | rfl | exact sh_wheel (by omega) | exact sh_milk (by omega)) ⟨by omega, by omega⟩ ?_
  refine ar_iinc (pc := 43) d_Ta_take_43 rfl rfl (by decide) ?_
  refine ar_goto (pc := 46) 3 d_Ta_take_46 (by decide) ?_
  rotate_left
  -- leaves: stop 3
  · exact ar_loc kk ⟨rfl, rfl, li_i rfl (by omega), trivial⟩
theorem cm_Ta_take (X : gx_T) (d : Nat) (G : mm_T) {v : Int} {c n : Nat} {b : Nat → Int} (hF : fx_R G) (hc : c + n + 4 ≤ 500) (h0 : b n = by_v v 24) (h1 : b (n + 1) = by_v v 16) (h2 : b (n + 2) = by_v v 8) (h3 : b (n + 3) = by_v v 0) : aw_M X (d + 1) mt_Ta_take [av_r (some 33), av_i v] (ms_tp G 34 33 1 c n b) 0 0 (fun r G' => r = none ∧ G' = ms_tp G 34 33 1 c (n + 4) b) := by
  have fin : aw_W X mt_Ta_take (d + 1) 3 [(0, some (av_r (some 33))), (1, some (av_i v)), (2, some (av_i (((0 : Nat) : Int) - 8)))] [] (ms_tp G 34 33 1 c (n + 4) b) 0 0 (fun r G' => r = none ∧ G' = ms_tp G 34 33 1 c (n + 4) b) := by
    refine ar_iload_n (pc := 3) d_Ta_take_3 rfl ?_
    refine ar_if_lt (pc := 4) 49 d_Ta_take_4 (by decide) ⟨by omega, by omega⟩ (fun h_4 => ?_) (fun h_4 => by exfalso; omega)
    refine ar_ret (pc := 49) d_Ta_take_49 rfl ?_
    rotate_left
    -- leaves: ret 49
    · exact ⟨rfl, rfl⟩
  have f3 := lp_Ta_take X d G (k := 0) (n := n + 3) (by omega) hF (by omega) h3 fin
  have f2 := lp_Ta_take X d G (k := 8) (n := n + 2) (by omega) hF (by omega) h2 (ar_loc f3 ⟨rfl, rfl, li_i rfl (by omega), trivial⟩)
  have f1 := lp_Ta_take X d G (k := 16) (n := n + 1) (by omega) hF (by omega) h1 (ar_loc f2 ⟨rfl, rfl, li_i rfl (by omega), trivial⟩)
  have f0 := lp_Ta_take X d G (k := 24) (n := n) (by omega) hF (by omega) h0 (ar_loc f1 ⟨rfl, rfl, li_i rfl (by omega), trivial⟩)
  refine aw_enter pf_Ta_take (Nat.le_of_ble_eq_true rfl) ?_
  refine ar_bipush (pc := 0) d_Ta_take_0 (by decide) ?_
  refine ar_istore_n (pc := 2) d_Ta_take_2 rfl (by decide) ?_
  rotate_left
  -- leaves: stop 3
  · exact ar_loc f0 ⟨rfl, rfl, rfl, trivial⟩
theorem lp_Mo_four (X : gx_T) (d : Nat) (G : mm_T) {v : Int} {c n : Nat} {b : Nat → Int} {Q : Option av_T → mm_T → Prop} {k : Nat} (hk : k = 24 ∨ k = 16 ∨ k = 8 ∨ k = 0) (hF : fx_R G) (hc : c + n + 1 ≤ 500) (hb : b n = by_v v (k : Int))
    (kk : aw_W X mt_Mo_four (d + 1) 3 [(0, some (av_r (some 60))), (1, some (av_i v)), (2, some (av_i ((k : Int) - 8)))] [] (ms_tp G 87 60 35 c (n + 1) b) 0 0 Q) : aw_W X mt_Mo_four (d + 1) 3 [(0, some (av_r (some 60))), (1, some (av_i v)), (2, some (av_i (k : Int)))] [] (ms_tp G 87 60 35 c n b) 0 0 Q := by
  have hr := by_rng v (k : Int)
  have hs : mm_I (ms_tp G 87 60 35 c n b) 60 35 = ((c + n : Nat) : Int) := rfl
  rw [← tp_s G b (by omega), hb] at kk
  unfold by_v at hr kk
  refine ar_iload_n (pc := 3) d_Mo_four_3 rfl ?_
  refine ar_if_lt (pc := 4) 39 d_Mo_four_4 (by decide) ⟨by omega, by omega⟩ (fun h_4 => by exfalso; omega) (fun h_4 => ?_)
  refine ar_aload_n (pc := 7) d_Mo_four_7 rfl ?_
  refine ar_getR (pc := 8) gf_Mo_89 d_Mo_four_8 (by first | rfl | exact sh_wheel (by omega) | exact sh_milk (by omega)) (hF _ _ _ rfl) ?_
  refine ar_aload_n (pc := 11) d_Mo_four_11 rfl ?_
  refine ar_getIv (pc := 12) gf_Mo_196 d_Mo_four_12 (by first | rfl | exact sh_wheel (by omega) | exact sh_milk (by omega)) hs (fun r_12 => ?_)
  refine ar_iload_n (pc := 15) d_Mo_four_15 rfl ?_
  refine ar_iload_n (pc := 16) d_Mo_four_16 rfl ?_
  refine ar_ishr (pc := 17) d_Mo_four_17 ?_
  refine ar_sipush (pc := 18) d_Mo_four_18 (by decide) ?_
  refine ar_iand (pc := 21) d_Mo_four_21 ?_
  refine ar_iast (pc := 22) d_Mo_four_22 rfl (c+n) (by omega) (by omega) ⟨by omega, by omega⟩ ?_
  refine ar_aload_n (pc := 23) d_Mo_four_23 rfl ?_
  refine ar_dup (pc := 24) d_Mo_four_24 rfl ?_
  refine ar_getIv (pc := 25) gf_Mo_196 d_Mo_four_25 (by first | rfl | exact sh_wheel (by omega) | exact sh_milk (by omega)) (show _ = ((c + n : Nat) : Int) from rfl) (fun r_25 => ?_)
  refine ar_iconst (pc := 28) d_Mo_four_28 ?_
  refine ar_iadd (pc := 29) d_Mo_four_29 ?_
  refine ar_putI (pc := 30) gf_Mo_196 d_Mo_four_30 rfl (by first | rfl | exact sh_wheel (by omega) | exact sh_milk (by omega)) ⟨by omega, by omega⟩ ?_
  refine ar_iinc (pc := 33) d_Mo_four_33 rfl rfl (by decide) ?_
  refine ar_goto (pc := 36) 3 d_Mo_four_36 (by decide) ?_
  rotate_left
  -- leaves: stop 3
  · exact ar_loc kk ⟨rfl, rfl, li_i rfl (by omega), trivial⟩
theorem cm_Mo_four (X : gx_T) (d : Nat) (G : mm_T) {v : Int} {c n : Nat} {b : Nat → Int} (hF : fx_R G) (hc : c + n + 4 ≤ 500) (h0 : b n = by_v v 24) (h1 : b (n + 1) = by_v v 16) (h2 : b (n + 2) = by_v v 8) (h3 : b (n + 3) = by_v v 0) : aw_M X (d + 1) mt_Mo_four [av_r (some 60), av_i v] (ms_tp G 87 60 35 c n b) 0 0 (fun r G' => r = none ∧ G' = ms_tp G 87 60 35 c (n + 4) b) := by
  have fin : aw_W X mt_Mo_four (d + 1) 3 [(0, some (av_r (some 60))), (1, some (av_i v)), (2, some (av_i (((0 : Nat) : Int) - 8)))] [] (ms_tp G 87 60 35 c (n + 4) b) 0 0 (fun r G' => r = none ∧ G' = ms_tp G 87 60 35 c (n + 4) b) := by
    refine ar_iload_n (pc := 3) d_Mo_four_3 rfl ?_
    refine ar_if_lt (pc := 4) 39 d_Mo_four_4 (by decide) ⟨by omega, by omega⟩ (fun h_4 => ?_) (fun h_4 => by exfalso; omega)
    refine ar_ret (pc := 39) d_Mo_four_39 rfl ?_
    rotate_left
    -- leaves: ret 39
    · exact ⟨rfl, rfl⟩
  have f3 := lp_Mo_four X d G (k := 0) (n := n + 3) (by omega) hF (by omega) h3 fin
  have f2 := lp_Mo_four X d G (k := 8) (n := n + 2) (by omega) hF (by omega) h2 (ar_loc f3 ⟨rfl, rfl, li_i rfl (by omega), trivial⟩)
  have f1 := lp_Mo_four X d G (k := 16) (n := n + 1) (by omega) hF (by omega) h1 (ar_loc f2 ⟨rfl, rfl, li_i rfl (by omega), trivial⟩)
  have f0 := lp_Mo_four X d G (k := 24) (n := n) (by omega) hF (by omega) h0 (ar_loc f1 ⟨rfl, rfl, li_i rfl (by omega), trivial⟩)
  refine aw_enter pf_Mo_four (Nat.le_of_ble_eq_true rfl) ?_
  refine ar_bipush (pc := 0) d_Mo_four_0 (by decide) ?_
  refine ar_istore_n (pc := 2) d_Mo_four_2 rfl (by decide) ?_
  rotate_left
  -- leaves: stop 3
  · exact ar_loc f0 ⟨rfl, rfl, rfl, trivial⟩
/-- the twenty bytes of five ints -/
def by_20 (a b c d e : Int) : Nat → Int := fun i => [by_v a 24, by_v a 16, by_v a 8, by_v a 0, by_v b 24, by_v b 16, by_v b 8, by_v b 0, by_v c 24, by_v c 16, by_v c 8, by_v c 0, by_v d 24, by_v d 16, by_v d 8, by_v d 0, by_v e 24, by_v e 16, by_v e 8, by_v e 0].getD i 0
theorem cm_K_feed (X : gx_T) (d : Nat) (G : mm_T) {a1 a2 a3 a4 a5 : Int} {c : Nat} (hF : fx_R G) (hc : mm_I G 33 1 = c) (hc2 : c ≤ 500) : aw_M X (d + 2) mt_K_feed [av_r (some 0), av_i a1, av_i a2, av_i a3, av_i a4, av_i a5] G 0 0 (fun r G' => c ≤ 480 ∧ r = some (av_i (c + 20)) ∧ G' = ms_tp G 34 33 1 c 20 (by_20 a1 a2 a3 a4 a5) ∨ ¬ c ≤ 480 ∧ r = some (av_i (-1)) ∧ G' = G) := by
  by_cases h480 : c ≤ 480
  · have t1 := cm_Ta_take X d G (v := a1) (c := c) (n := 0) (b := by_20 a1 a2 a3 a4 a5) hF (by omega) rfl rfl rfl rfl
    rw [tp_0 G _ hc] at t1
    refine aw_enter pf_K_feed (Nat.le_of_ble_eq_true rfl) ?_
    refine ar_aload_n (pc := 0) d_K_feed_0 rfl ?_
    refine ar_getR (pc := 1) gf_K_59 d_K_feed_1 (by first | rfl | exact sh_wheel (by omega) | exact sh_milk (by omega)) (hF _ _ _ rfl) ?_
    refine ar_getIv (pc := 4) gf_K_145 d_K_feed_4 (by first | rfl | exact sh_wheel (by omega) | exact sh_milk (by omega)) hc (fun r_4 => ?_)
    refine ar_sipush (pc := 7) d_K_feed_7 (by decide) ?_
    refine ar_icmp_le (pc := 10) 15 d_K_feed_10 (by decide) ⟨by omega, by omega⟩ ⟨by omega, by omega⟩ (fun h_10 => ?_) (fun h_10 => by exfalso; omega)
    refine ar_aload_n (pc := 15) d_K_feed_15 rfl ?_
    refine ar_getR (pc := 16) gf_K_59 d_K_feed_16 (by first | rfl | exact sh_wheel (by omega) | exact sh_milk (by omega)) (hF _ _ _ rfl) ?_
    refine ar_iload_n (pc := 19) d_K_feed_19 rfl ?_
    refine ac_virt (pc := 20) (N := mt_Ta_take) _ _ mv_Ta_take ml_K_148 ck_8 d_K_feed_20 t1 (by first | rfl | exact sh_wheel (by omega) | exact sh_milk (by omega)) rfl rfl (Nat.le_of_ble_eq_true rfl) (Nat.le_of_eq (Nat.zero_add _)) (Nat.le_of_eq (Nat.zero_add _)) (fun r_20 G_20 h_20 => ?_)
    obtain ⟨rfl, e_20⟩ := h_20
    subst G_20
    refine ar_aload_n (pc := 23) d_K_feed_23 rfl ?_
    refine ar_getR (pc := 24) gf_K_59 d_K_feed_24 (by first | rfl | exact sh_wheel (by omega) | exact sh_milk (by omega)) (hF _ _ _ rfl) ?_
    refine ar_iload_n (pc := 27) d_K_feed_27 rfl ?_
    refine ac_virt (pc := 28) (N := mt_Ta_take) _ _ mv_Ta_take ml_K_148 ck_8 d_K_feed_28 (cm_Ta_take (n := 4) (b := by_20 a1 a2 a3 a4 a5) _ _ _ hF (by omega) rfl rfl rfl rfl) (by first | rfl | exact sh_wheel (by omega) | exact sh_milk (by omega)) rfl rfl (Nat.le_of_ble_eq_true rfl) (Nat.le_of_eq (Nat.zero_add _)) (Nat.le_of_eq (Nat.zero_add _)) (fun r_28 G_28 h_28 => ?_)
    obtain ⟨rfl, e_28⟩ := h_28
    subst G_28
    refine ar_aload_n (pc := 31) d_K_feed_31 rfl ?_
    refine ar_getR (pc := 32) gf_K_59 d_K_feed_32 (by first | rfl | exact sh_wheel (by omega) | exact sh_milk (by omega)) (hF _ _ _ rfl) ?_
    refine ar_iload_n (pc := 35) d_K_feed_35 rfl ?_
    refine ac_virt (pc := 36) (N := mt_Ta_take) _ _ mv_Ta_take ml_K_148 ck_8 d_K_feed_36 (cm_Ta_take (n := 8) (b := by_20 a1 a2 a3 a4 a5) _ _ _ hF (by omega) rfl rfl rfl rfl) (by first | rfl | exact sh_wheel (by omega) | exact sh_milk (by omega)) rfl rfl (Nat.le_of_ble_eq_true rfl) (Nat.le_of_eq (Nat.zero_add _)) (Nat.le_of_eq (Nat.zero_add _)) (fun r_36 G_36 h_36 => ?_)
    obtain ⟨rfl, e_36⟩ := h_36
    subst G_36
    refine ar_aload_n (pc := 39) d_K_feed_39 rfl ?_
    refine ar_getR (pc := 40) gf_K_59 d_K_feed_40 (by first | rfl | exact sh_wheel (by omega) | exact sh_milk (by omega)) (hF _ _ _ rfl) ?_
    refine ar_iload (pc := 43) d_K_feed_43 rfl ?_
    refine ac_virt (pc := 45) (N := mt_Ta_take) _ _ mv_Ta_take ml_K_148 ck_8 d_K_feed_45 (cm_Ta_take (n := 12) (b := by_20 a1 a2 a3 a4 a5) _ _ _ hF (by omega) rfl rfl rfl rfl) (by first | rfl | exact sh_wheel (by omega) | exact sh_milk (by omega)) rfl rfl (Nat.le_of_ble_eq_true rfl) (Nat.le_of_eq (Nat.zero_add _)) (Nat.le_of_eq (Nat.zero_add _)) (fun r_45 G_45 h_45 => ?_)
    obtain ⟨rfl, e_45⟩ := h_45
    subst G_45
    refine ar_aload_n (pc := 48) d_K_feed_48 rfl ?_
    refine ar_getR (pc := 49) gf_K_59 d_K_feed_49 (by first | rfl | exact sh_wheel (by omega) | exact sh_milk (by omega)) (hF _ _ _ rfl) ?_
    refine ar_iload (pc := 52) d_K_feed_52 rfl ?_
    refine ac_virt (pc := 54) (N := mt_Ta_take) _ _ mv_Ta_take ml_K_148 ck_8 d_K_feed_54 (cm_Ta_take (n := 16) (b := by_20 a1 a2 a3 a4 a5) _ _ _ hF (by omega) rfl rfl rfl rfl) (by first | rfl | exact sh_wheel (by omega) | exact sh_milk (by omega)) rfl rfl (Nat.le_of_ble_eq_true rfl) (Nat.le_of_eq (Nat.zero_add _)) (Nat.le_of_eq (Nat.zero_add _)) (fun r_54 G_54 h_54 => ?_)
    obtain ⟨rfl, e_54⟩ := h_54
    subst G_54
    refine ar_aload_n (pc := 57) d_K_feed_57 rfl ?_
    refine ar_getR (pc := 58) gf_K_59 d_K_feed_58 (by first | rfl | exact sh_wheel (by omega) | exact sh_milk (by omega)) (hF _ _ _ rfl) ?_
    refine ar_getI (pc := 61) gf_K_145 d_K_feed_61 (by first | rfl | exact sh_wheel (by omega) | exact sh_milk (by omega)) (fun r_61 => ?_)
    refine ar_iret (pc := 64) d_K_feed_64 rfl ?_
    rotate_left
    -- leaves: ret 64
    · exact Or.inl ⟨h480, congrArg (fun x => some (av_i x)) (show ((c + 20 : Nat) : Int) = c + 20 by omega), rfl⟩
  · skip
    refine aw_enter pf_K_feed (Nat.le_of_ble_eq_true rfl) ?_
    refine ar_aload_n (pc := 0) d_K_feed_0 rfl ?_
    refine ar_getR (pc := 1) gf_K_59 d_K_feed_1 (by first | rfl | exact sh_wheel (by omega) | exact sh_milk (by omega)) (hF _ _ _ rfl) ?_
    refine ar_getIv (pc := 4) gf_K_145 d_K_feed_4 (by first | rfl | exact sh_wheel (by omega) | exact sh_milk (by omega)) hc (fun r_4 => ?_)
    refine ar_sipush (pc := 7) d_K_feed_7 (by decide) ?_
    refine ar_icmp_le (pc := 10) 15 d_K_feed_10 (by decide) ⟨by omega, by omega⟩ ⟨by omega, by omega⟩ (fun h_10 => by exfalso; omega) (fun h_10 => ?_)
    refine ar_iconst (pc := 13) d_K_feed_13 ?_
    refine ar_iret (pc := 14) d_K_feed_14 rfl ?_
    rotate_left
    -- leaves: ret 14
    · exact Or.inr ⟨h480, rfl, rfl⟩
theorem cm_Mo_feed (X : gx_T) (d : Nat) (G : mm_T) {a1 a2 a3 a4 a5 : Int} {c : Nat} (hF : fx_R G) (hc : mm_I G 60 35 = c) (hc2 : c ≤ 500) : aw_M X (d + 2) mt_Mo_feed [av_r (some 60), av_i a1, av_i a2, av_i a3, av_i a4, av_i a5] G 0 0 (fun r G' => c ≤ 480 ∧ r = some (av_i (c + 20)) ∧ G' = ms_tp G 87 60 35 c 20 (by_20 a1 a2 a3 a4 a5) ∨ ¬ c ≤ 480 ∧ r = some (av_i (-1)) ∧ G' = G) := by
  by_cases h480 : c ≤ 480
  · have t1 := cm_Mo_four X d G (v := a1) (c := c) (n := 0) (b := by_20 a1 a2 a3 a4 a5) hF (by omega) rfl rfl rfl rfl
    rw [tp_0 G _ hc] at t1
    refine aw_enter pf_Mo_feed (Nat.le_of_ble_eq_true rfl) ?_
    refine ar_aload_n (pc := 0) d_Mo_feed_0 rfl ?_
    refine ar_getIv (pc := 1) gf_Mo_196 d_Mo_feed_1 (by first | rfl | exact sh_wheel (by omega) | exact sh_milk (by omega)) hc (fun r_1 => ?_)
    refine ar_bipush (pc := 4) d_Mo_feed_4 (by decide) ?_
    refine ar_iadd (pc := 6) d_Mo_feed_6 ?_
    refine ar_sipush (pc := 7) d_Mo_feed_7 (by decide) ?_
    refine ar_icmp_le (pc := 10) 15 d_Mo_feed_10 (by decide) ⟨by omega, by omega⟩ ⟨by omega, by omega⟩ (fun h_10 => ?_) (fun h_10 => by exfalso; omega)
    refine ar_aload_n (pc := 15) d_Mo_feed_15 rfl ?_
    refine ar_iload_n (pc := 16) d_Mo_feed_16 rfl ?_
    refine ac_virt (pc := 17) (N := mt_Mo_four) _ _ mv_Mo_four ml_Mo_199 ck_12 d_Mo_feed_17 t1 (by first | rfl | exact sh_wheel (by omega) | exact sh_milk (by omega)) rfl rfl (Nat.le_of_ble_eq_true rfl) (Nat.le_of_eq (Nat.zero_add _)) (Nat.le_of_eq (Nat.zero_add _)) (fun r_17 G_17 h_17 => ?_)
    obtain ⟨rfl, e_17⟩ := h_17
    subst G_17
    refine ar_aload_n (pc := 20) d_Mo_feed_20 rfl ?_
    refine ar_iload_n (pc := 21) d_Mo_feed_21 rfl ?_
    refine ac_virt (pc := 22) (N := mt_Mo_four) _ _ mv_Mo_four ml_Mo_199 ck_12 d_Mo_feed_22 (cm_Mo_four (n := 4) (b := by_20 a1 a2 a3 a4 a5) _ _ _ hF (by omega) rfl rfl rfl rfl) (by first | rfl | exact sh_wheel (by omega) | exact sh_milk (by omega)) rfl rfl (Nat.le_of_ble_eq_true rfl) (Nat.le_of_eq (Nat.zero_add _)) (Nat.le_of_eq (Nat.zero_add _)) (fun r_22 G_22 h_22 => ?_)
    obtain ⟨rfl, e_22⟩ := h_22
    subst G_22
    refine ar_aload_n (pc := 25) d_Mo_feed_25 rfl ?_
    refine ar_iload_n (pc := 26) d_Mo_feed_26 rfl ?_
    refine ac_virt (pc := 27) (N := mt_Mo_four) _ _ mv_Mo_four ml_Mo_199 ck_12 d_Mo_feed_27 (cm_Mo_four (n := 8) (b := by_20 a1 a2 a3 a4 a5) _ _ _ hF (by omega) rfl rfl rfl rfl) (by first | rfl | exact sh_wheel (by omega) | exact sh_milk (by omega)) rfl rfl (Nat.le_of_ble_eq_true rfl) (Nat.le_of_eq (Nat.zero_add _)) (Nat.le_of_eq (Nat.zero_add _)) (fun r_27 G_27 h_27 => ?_)
    obtain ⟨rfl, e_27⟩ := h_27
    subst G_27
    refine ar_aload_n (pc := 30) d_Mo_feed_30 rfl ?_
    refine ar_iload (pc := 31) d_Mo_feed_31 rfl ?_
    refine ac_virt (pc := 33) (N := mt_Mo_four) _ _ mv_Mo_four ml_Mo_199 ck_12 d_Mo_feed_33 (cm_Mo_four (n := 12) (b := by_20 a1 a2 a3 a4 a5) _ _ _ hF (by omega) rfl rfl rfl rfl) (by first | rfl | exact sh_wheel (by omega) | exact sh_milk (by omega)) rfl rfl (Nat.le_of_ble_eq_true rfl) (Nat.le_of_eq (Nat.zero_add _)) (Nat.le_of_eq (Nat.zero_add _)) (fun r_33 G_33 h_33 => ?_)
    obtain ⟨rfl, e_33⟩ := h_33
    subst G_33
    refine ar_aload_n (pc := 36) d_Mo_feed_36 rfl ?_
    refine ar_iload (pc := 37) d_Mo_feed_37 rfl ?_
    refine ac_virt (pc := 39) (N := mt_Mo_four) _ _ mv_Mo_four ml_Mo_199 ck_12 d_Mo_feed_39 (cm_Mo_four (n := 16) (b := by_20 a1 a2 a3 a4 a5) _ _ _ hF (by omega) rfl rfl rfl rfl) (by first | rfl | exact sh_wheel (by omega) | exact sh_milk (by omega)) rfl rfl (Nat.le_of_ble_eq_true rfl) (Nat.le_of_eq (Nat.zero_add _)) (Nat.le_of_eq (Nat.zero_add _)) (fun r_39 G_39 h_39 => ?_)
    obtain ⟨rfl, e_39⟩ := h_39
    subst G_39
    refine ar_aload_n (pc := 42) d_Mo_feed_42 rfl ?_
    refine ar_getI (pc := 43) gf_Mo_196 d_Mo_feed_43 (by first | rfl | exact sh_wheel (by omega) | exact sh_milk (by omega)) (fun r_43 => ?_)
    refine ar_iret (pc := 46) d_Mo_feed_46 rfl ?_
    rotate_left
    -- leaves: ret 46
    · exact Or.inl ⟨h480, congrArg (fun x => some (av_i x)) (show ((c + 20 : Nat) : Int) = c + 20 by omega), rfl⟩
  · skip
    refine aw_enter pf_Mo_feed (Nat.le_of_ble_eq_true rfl) ?_
    refine ar_aload_n (pc := 0) d_Mo_feed_0 rfl ?_
    refine ar_getIv (pc := 1) gf_Mo_196 d_Mo_feed_1 (by first | rfl | exact sh_wheel (by omega) | exact sh_milk (by omega)) hc (fun r_1 => ?_)
    refine ar_bipush (pc := 4) d_Mo_feed_4 (by decide) ?_
    refine ar_iadd (pc := 6) d_Mo_feed_6 ?_
    refine ar_sipush (pc := 7) d_Mo_feed_7 (by decide) ?_
    refine ar_icmp_le (pc := 10) 15 d_Mo_feed_10 (by decide) ⟨by omega, by omega⟩ ⟨by omega, by omega⟩ (fun h_10 => by exfalso; omega) (fun h_10 => ?_)
    refine ar_iconst (pc := 13) d_Mo_feed_13 ?_
    refine ar_iret (pc := 14) d_Mo_feed_14 rfl ?_
    rotate_left
    -- leaves: ret 14
    · exact Or.inr ⟨h480, rfl, rfl⟩
