/-! ===== the reference's next token ===== -/
theorem lw_8 {m k : Nat} (hm : m < 36028797018963968) (hk : k < 256) : b_lor (b_lshl (m : Int) 8) (k : Int) = ((m * 256 + k : Nat) : Int) := by
  unfold b_lor b_lshl
  rw [Int64.ofInt_toInt]
  have hs : (((Int32.ofInt 8).toInt64 &&& 63).toBitVec.smod 64) = 8#64 := by decide
  have e : (Int64.ofInt (m : Int) <<< ((Int32.ofInt 8).toInt64 &&& 63) ||| Int64.ofInt (k : Int)).toBitVec.toNat = m * 256 + k := by
    rw [Int64.toBitVec_or, Int64.toBitVec_shiftLeft, hs, BitVec.toNat_or]
    have e1 : (Int64.ofInt (k : Int)).toBitVec.toNat = k := by
      rw [Int64.toBitVec_ofInt, BitVec.toNat_ofInt]; omega
    have e2 : ((Int64.ofInt (m : Int)).toBitVec <<< 8#64).toNat = m * 256 := by
      show ((Int64.ofInt (m : Int)).toBitVec <<< (8#64).toNat).toNat = _
      rw [BitVec.toNat_shiftLeft, Int64.toBitVec_ofInt, BitVec.toNat_ofInt]
      have : ((m : Int) % ((2 ^ 64 : Nat) : Int)).toNat = m := by omega
      rw [this, show (8#64).toNat = 8 from rfl, Nat.shiftLeft_eq]
      omega
    rw [e1, e2, show m * 256 = m <<< 8 by rw [Nat.shiftLeft_eq]]
    exact (Nat.shiftLeft_add_eq_or_of_lt (i := 8) hk m).symm
  rw [← Int64.toInt_toBitVec, BitVec.toInt_eq_toNat_of_lt (by omega), e]
theorem lw_9 {w c : Int} (hw : 0 ≤ w ∧ w < 36028797018963968) (hc : 0 ≤ c ∧ c < 256) : b_lor (b_lshl w 8) c = w * 256 + c := by
  obtain ⟨m, rfl⟩ : ∃ m : Nat, w = m := ⟨w.toNat, by omega⟩
  obtain ⟨k, rfl⟩ : ∃ k : Nat, c = k := ⟨c.toNat, by omega⟩
  rw [lw_8 (by omega) (by omega)]; omega
def mb_v (G : mm_T) (i : Nat) : Int := if (i : Int) < mm_I G 60 39 then mm_I G 87 i else -1
theorem cm_Mo_isLetter (X : gx_T) (d : Nat) (G : mm_T) {b : Int} (hb : i3_in b) : aw_M X (d + 1) mt_Mo_isLetter [av_i b] G 0 0 (fun r G' => r = some (av_i (is_l b)) ∧ G' = G) := by
  refine aw_enter pf_Mo_isLetter (Nat.le_of_ble_eq_true rfl) ?_
  refine ar_iload_n (pc := 0) d_Mo_isLetter_0 rfl ?_
  refine ar_bipush (pc := 1) d_Mo_isLetter_1 (by decide) ?_
  refine ar_icmp_lt (pc := 3) 16 d_Mo_isLetter_3 (by decide) ⟨by omega, by omega⟩ ⟨by omega, by omega⟩ (fun h_3 => ?_) (fun h_3 => ?_)
  refine ar_iconst (pc := 16) d_Mo_isLetter_16 ?_
  refine ar_zret (pc := 17) d_Mo_isLetter_17 rfl (by omega) ?_
  rotate_left
  refine ar_iload_n (pc := 6) d_Mo_isLetter_6 rfl ?_
  refine ar_bipush (pc := 7) d_Mo_isLetter_7 (by decide) ?_
  refine ar_icmp_gt (pc := 9) 16 d_Mo_isLetter_9 (by decide) ⟨by omega, by omega⟩ ⟨by omega, by omega⟩ (fun h_9 => ?_) (fun h_9 => ?_)
  refine ar_iconst (pc := 16) d_Mo_isLetter_16 ?_
  refine ar_zret (pc := 17) d_Mo_isLetter_17 rfl (by omega) ?_
  rotate_left
  refine ar_iconst (pc := 12) d_Mo_isLetter_12 ?_
  refine ar_goto (pc := 13) 17 d_Mo_isLetter_13 (by decide) ?_
  refine ar_zret (pc := 17) d_Mo_isLetter_17 rfl (by omega) ?_
  rotate_left
  -- leaves: ret 17, ret 17, ret 17
  all_goals (refine ⟨?_, rfl⟩; unfold is_l)
  all_goals first | rw [if_pos (by omega)] | rw [if_neg (by omega)]
theorem cm_Mo_isDigit (X : gx_T) (d : Nat) (G : mm_T) {b : Int} (hb : i3_in b) : aw_M X (d + 1) mt_Mo_isDigit [av_i b] G 0 0 (fun r G' => r = some (av_i (is_d b)) ∧ G' = G) := by
  refine aw_enter pf_Mo_isDigit (Nat.le_of_ble_eq_true rfl) ?_
  refine ar_iload_n (pc := 0) d_Mo_isDigit_0 rfl ?_
  refine ar_bipush (pc := 1) d_Mo_isDigit_1 (by decide) ?_
  refine ar_icmp_lt (pc := 3) 16 d_Mo_isDigit_3 (by decide) ⟨by omega, by omega⟩ ⟨by omega, by omega⟩ (fun h_3 => ?_) (fun h_3 => ?_)
  refine ar_iconst (pc := 16) d_Mo_isDigit_16 ?_
  refine ar_zret (pc := 17) d_Mo_isDigit_17 rfl (by omega) ?_
  rotate_left
  refine ar_iload_n (pc := 6) d_Mo_isDigit_6 rfl ?_
  refine ar_bipush (pc := 7) d_Mo_isDigit_7 (by decide) ?_
  refine ar_icmp_gt (pc := 9) 16 d_Mo_isDigit_9 (by decide) ⟨by omega, by omega⟩ ⟨by omega, by omega⟩ (fun h_9 => ?_) (fun h_9 => ?_)
  refine ar_iconst (pc := 16) d_Mo_isDigit_16 ?_
  refine ar_zret (pc := 17) d_Mo_isDigit_17 rfl (by omega) ?_
  rotate_left
  refine ar_iconst (pc := 12) d_Mo_isDigit_12 ?_
  refine ar_goto (pc := 13) 17 d_Mo_isDigit_13 (by decide) ?_
  refine ar_zret (pc := 17) d_Mo_isDigit_17 rfl (by omega) ?_
  rotate_left
  -- leaves: ret 17, ret 17, ret 17
  all_goals (refine ⟨?_, rfl⟩; unfold is_d)
  all_goals first | rw [if_pos (by omega)] | rw [if_neg (by omega)]
theorem cm_Mo_isSign (X : gx_T) (d : Nat) (G : mm_T) {b : Int} (hb : i3_in b) : aw_M X (d + 1) mt_Mo_isSign [av_i b] G 0 0 (fun r G' => r = some (av_i (is_s b)) ∧ G' = G) := by
  refine aw_enter pf_Mo_isSign (Nat.le_of_ble_eq_true rfl) ?_
  refine ar_iload_n (pc := 0) d_Mo_isSign_0 rfl ?_
  refine ar_bipush (pc := 1) d_Mo_isSign_1 (by decide) ?_
  refine ar_icmp_eq (pc := 3) 48 d_Mo_isSign_3 (by decide) ⟨by omega, by omega⟩ ⟨by omega, by omega⟩ (fun h_3 => ?_) (fun h_3 => ?_)
  refine ar_iconst (pc := 48) d_Mo_isSign_48 ?_
  refine ar_goto (pc := 49) 53 d_Mo_isSign_49 (by decide) ?_
  refine ar_zret (pc := 53) d_Mo_isSign_53 rfl (by omega) ?_
  rotate_left
  refine ar_iload_n (pc := 6) d_Mo_isSign_6 rfl ?_
  refine ar_bipush (pc := 7) d_Mo_isSign_7 (by decide) ?_
  refine ar_icmp_eq (pc := 9) 48 d_Mo_isSign_9 (by decide) ⟨by omega, by omega⟩ ⟨by omega, by omega⟩ (fun h_9 => ?_) (fun h_9 => ?_)
  refine ar_iconst (pc := 48) d_Mo_isSign_48 ?_
  refine ar_goto (pc := 49) 53 d_Mo_isSign_49 (by decide) ?_
  refine ar_zret (pc := 53) d_Mo_isSign_53 rfl (by omega) ?_
  rotate_left
  refine ar_iload_n (pc := 12) d_Mo_isSign_12 rfl ?_
  refine ar_bipush (pc := 13) d_Mo_isSign_13 (by decide) ?_
  refine ar_icmp_eq (pc := 15) 48 d_Mo_isSign_15 (by decide) ⟨by omega, by omega⟩ ⟨by omega, by omega⟩ (fun h_15 => ?_) (fun h_15 => ?_)
  refine ar_iconst (pc := 48) d_Mo_isSign_48 ?_
  refine ar_goto (pc := 49) 53 d_Mo_isSign_49 (by decide) ?_
  refine ar_zret (pc := 53) d_Mo_isSign_53 rfl (by omega) ?_
  rotate_left
  refine ar_iload_n (pc := 18) d_Mo_isSign_18 rfl ?_
  refine ar_bipush (pc := 19) d_Mo_isSign_19 (by decide) ?_
  refine ar_icmp_eq (pc := 21) 48 d_Mo_isSign_21 (by decide) ⟨by omega, by omega⟩ ⟨by omega, by omega⟩ (fun h_21 => ?_) (fun h_21 => ?_)
  refine ar_iconst (pc := 48) d_Mo_isSign_48 ?_
  refine ar_goto (pc := 49) 53 d_Mo_isSign_49 (by decide) ?_
  refine ar_zret (pc := 53) d_Mo_isSign_53 rfl (by omega) ?_
  rotate_left
  refine ar_iload_n (pc := 24) d_Mo_isSign_24 rfl ?_
  refine ar_bipush (pc := 25) d_Mo_isSign_25 (by decide) ?_
  refine ar_icmp_eq (pc := 27) 48 d_Mo_isSign_27 (by decide) ⟨by omega, by omega⟩ ⟨by omega, by omega⟩ (fun h_27 => ?_) (fun h_27 => ?_)
  refine ar_iconst (pc := 48) d_Mo_isSign_48 ?_
  refine ar_goto (pc := 49) 53 d_Mo_isSign_49 (by decide) ?_
  refine ar_zret (pc := 53) d_Mo_isSign_53 rfl (by omega) ?_
  rotate_left
  refine ar_iload_n (pc := 30) d_Mo_isSign_30 rfl ?_
  refine ar_bipush (pc := 31) d_Mo_isSign_31 (by decide) ?_
  refine ar_icmp_eq (pc := 33) 48 d_Mo_isSign_33 (by decide) ⟨by omega, by omega⟩ ⟨by omega, by omega⟩ (fun h_33 => ?_) (fun h_33 => ?_)
  refine ar_iconst (pc := 48) d_Mo_isSign_48 ?_
  refine ar_goto (pc := 49) 53 d_Mo_isSign_49 (by decide) ?_
  refine ar_zret (pc := 53) d_Mo_isSign_53 rfl (by omega) ?_
  rotate_left
  refine ar_iload_n (pc := 36) d_Mo_isSign_36 rfl ?_
  refine ar_bipush (pc := 37) d_Mo_isSign_37 (by decide) ?_
  refine ar_icmp_eq (pc := 39) 48 d_Mo_isSign_39 (by decide) ⟨by omega, by omega⟩ ⟨by omega, by omega⟩ (fun h_39 => ?_) (fun h_39 => ?_)
  refine ar_iconst (pc := 48) d_Mo_isSign_48 ?_
  refine ar_goto (pc := 49) 53 d_Mo_isSign_49 (by decide) ?_
  refine ar_zret (pc := 53) d_Mo_isSign_53 rfl (by omega) ?_
  rotate_left
  refine ar_iload_n (pc := 42) d_Mo_isSign_42 rfl ?_
  refine ar_bipush (pc := 43) d_Mo_isSign_43 (by decide) ?_
  refine ar_icmp_ne (pc := 45) 52 d_Mo_isSign_45 (by decide) ⟨by omega, by omega⟩ ⟨by omega, by omega⟩ (fun h_45 => ?_) (fun h_45 => ?_)
  refine ar_iconst (pc := 52) d_Mo_isSign_52 ?_
  refine ar_zret (pc := 53) d_Mo_isSign_53 rfl (by omega) ?_
  rotate_left
  refine ar_iconst (pc := 48) d_Mo_isSign_48 ?_
  refine ar_goto (pc := 49) 53 d_Mo_isSign_49 (by decide) ?_
  refine ar_zret (pc := 53) d_Mo_isSign_53 rfl (by omega) ?_
  rotate_left
  -- leaves: ret 53, ret 53, ret 53, ret 53, ret 53, ret 53, ret 53, ret 53, ret 53
  all_goals (refine ⟨?_, rfl⟩; unfold is_s)
  all_goals first | rw [if_pos (by omega)] | rw [if_neg (by omega)]
theorem cm_Mo_here (X : gx_T) (d : Nat) (G : mm_T) {B : Nat → Int} {z a k : Nat} (hF : fx_R G) (hz : mm_I G 60 39 = z) (bb : bb_B B z) (hB : mb_v G = B) (ha : mm_I G 60 38 = a) (ha2 : a ≤ z) (hk : k ≤ 600) : aw_M X (d + 1) mt_Mo_here [av_r (some 60), av_i (k : Int)] G 0 0 (fun r G' => r = some (av_i (B (a + k))) ∧ G' = G) := by
  have z5 := bb.1
  have e : B (a + k) = if ((a + k : Nat) : Int) < mm_I G 60 39 then mm_I G 87 (a + k) else -1 := by rw [← hB]; rfl
  rw [e, hz]
  by_cases h : a + k < z
  · rw [if_pos (by omega)]
    refine aw_enter pf_Mo_here (Nat.le_of_ble_eq_true rfl) ?_
    refine ar_aload_n (pc := 0) d_Mo_here_0 rfl ?_
    refine ar_getIv (pc := 1) gf_Mo_203 d_Mo_here_1 (by first | rfl | exact sh_wheel (by omega) | exact sh_milk (by omega)) ha (fun r_1 => ?_)
    refine ar_iload_n (pc := 4) d_Mo_here_4 rfl ?_
    refine ar_iadd (pc := 5) d_Mo_here_5 ?_
    refine ar_aload_n (pc := 6) d_Mo_here_6 rfl ?_
    refine ar_getIv (pc := 7) gf_Mo_206 d_Mo_here_7 (by first | rfl | exact sh_wheel (by omega) | exact sh_milk (by omega)) hz (fun r_7 => ?_)
    refine ar_icmp_ge (pc := 10) 27 d_Mo_here_10 (by decide) ⟨by omega, by omega⟩ ⟨by omega, by omega⟩ (fun h_10 => by exfalso; omega) (fun h_10 => ?_)
    refine ar_aload_n (pc := 13) d_Mo_here_13 rfl ?_
    refine ar_getR (pc := 14) gf_Mo_89 d_Mo_here_14 (by first | rfl | exact sh_wheel (by omega) | exact sh_milk (by omega)) (hF _ _ _ rfl) ?_
    refine ar_aload_n (pc := 17) d_Mo_here_17 rfl ?_
    refine ar_getIv (pc := 18) gf_Mo_203 d_Mo_here_18 (by first | rfl | exact sh_wheel (by omega) | exact sh_milk (by omega)) ha (fun r_18 => ?_)
    refine ar_iload_n (pc := 21) d_Mo_here_21 rfl ?_
    refine ar_iadd (pc := 22) d_Mo_here_22 ?_
    refine ar_iald (pc := 23) d_Mo_here_23 rfl (a+k) (by omega) (by omega) (fun r_23 => ?_)
    refine ar_goto (pc := 24) 28 d_Mo_here_24 (by decide) ?_
    refine ar_iret (pc := 28) d_Mo_here_28 rfl ?_
    rotate_left
    -- leaves: ret 28
    · exact ⟨rfl, rfl⟩
  · rw [if_neg (by omega)]
    refine aw_enter pf_Mo_here (Nat.le_of_ble_eq_true rfl) ?_
    refine ar_aload_n (pc := 0) d_Mo_here_0 rfl ?_
    refine ar_getIv (pc := 1) gf_Mo_203 d_Mo_here_1 (by first | rfl | exact sh_wheel (by omega) | exact sh_milk (by omega)) ha (fun r_1 => ?_)
    refine ar_iload_n (pc := 4) d_Mo_here_4 rfl ?_
    refine ar_iadd (pc := 5) d_Mo_here_5 ?_
    refine ar_aload_n (pc := 6) d_Mo_here_6 rfl ?_
    refine ar_getIv (pc := 7) gf_Mo_206 d_Mo_here_7 (by first | rfl | exact sh_wheel (by omega) | exact sh_milk (by omega)) hz (fun r_7 => ?_)
    refine ar_icmp_ge (pc := 10) 27 d_Mo_here_10 (by decide) ⟨by omega, by omega⟩ ⟨by omega, by omega⟩ (fun h_10 => ?_) (fun h_10 => by exfalso; omega)
    refine ar_iconst (pc := 27) d_Mo_here_27 ?_
    refine ar_iret (pc := 28) d_Mo_here_28 rfl ?_
    rotate_left
    -- leaves: ret 28
    · exact ⟨rfl, rfl⟩
def nb_L (G G1 : mm_T) (p : Nat) : Prop := (mm_R G1 = mm_R G ∧ mm_A G1 = mm_A G) ∧ (∀ b j, ¬ (b = 60 ∧ (j = 38 ∨ j = 40 ∨ j = 41 ∨ j = 42)) → mm_I G1 b j = mm_I G b j) ∧ (∀ b j, ¬ (b = 60 ∧ j = 43) → mm_J G1 b j = mm_J G b j) ∧ mm_I G1 60 38 = p
theorem nb_w {G G1 : mm_T} {p z : Nat} {B : Nat → Int} (h : nb_L G G1 p) (hF : fx_R G) (hz : mm_I G 60 39 = z) (hB : mb_v G = B) : fx_R G1 ∧ mm_I G1 60 39 = z ∧ mb_v G1 = B := by
  obtain ⟨h1, h2, h3, h4⟩ := h
  have e1 : mm_I G1 60 39 = mm_I G 60 39 := h2 _ _ (by omega)
  refine ⟨fun a k b h => by rw [h1.1]; exact hF a k b h, by rw [e1]; exact hz, ?_⟩
  rw [← hB]; funext i
  unfold mb_v
  rw [e1, h2 87 i (by omega)]
theorem nb_38 {G G1 : mm_T} {p : Nat} (h : nb_L G G1 p) {q : Nat} {v : Int} (e : v = q) : nb_L G (ms_I G1 60 38 v) q := by
  obtain ⟨h1, h2, h3, h4⟩ := h
  exact ⟨h1, fun b j hj => by rw [mi_n (by omega)]; exact h2 b j hj, h3, by rw [mi_s]; exact e⟩
theorem lp_next_b (X : gx_T) (d : Nat) {G : mm_T} {B : Nat → Int} {z a : Nat} {Q : Option av_T → mm_T → Prop} (hF : fx_R G) (hz : mm_I G 60 39 = z) (bb : bb_B B z) (hB : mb_v G = B) (ha : a ≤ z)
    (kk : ∀ G2, nb_L G G2 (sk_b B z a) → aw_W X mt_Mo_next (d + 2) 33 [(0, some (av_r (some 60)))] [] G2 0 0 Q) : ∀ n i G1, i + n = z → a ≤ i → (∀ k, a ≤ k → k < i → bk_s (B k)) → nb_L G G1 i → aw_W X mt_Mo_next (d + 2) 0 [(0, some (av_r (some 60)))] [] G1 0 0 Q := by
  have z5 := bb.1
  intro n
  induction n with
  | zero =>
    intro i G1 hi h1 h2 hL
    have hi : i = z := by omega
    subst hi
    have e := sk_bu bb ha h1 (Nat.le_refl _) h2 (by rw [bb.2.2 i (Nat.le_refl _)]; unfold bk_s; omega)
    obtain ⟨hF1, hz1, hB1⟩ := nb_w hL hF hz hB
    have c := cm_Mo_here X d G1 (k := 0) hF1 hz1 bb hB1 hL.2.2.2 (by omega) (by omega)
    rw [show i + 0 = i from Nat.add_zero i, bb.2.2 i (Nat.le_refl _)] at c
    have k1 := kk G1 (by rw [e]; exact hL)
    clear kk
    refine ar_aload_n (pc := 0) d_Mo_next_0 rfl ?_
    refine ar_iconst (pc := 1) d_Mo_next_1 ?_
    refine ac_virt (pc := 2) (N := mt_Mo_here) _ _ mv_Mo_here ml_Mo_209 ck_12 d_Mo_next_2 c (by first | rfl | exact sh_wheel (by omega) | exact sh_milk (by omega)) rfl rfl (Nat.le_of_ble_eq_true rfl) (Nat.le_of_eq (Nat.zero_add _)) (Nat.le_of_eq (Nat.zero_add _)) (fun r_2 G_2 h_2 => ?_)
    obtain ⟨rfl, e_2⟩ := h_2
    subst G_2
    refine ar_bipush (pc := 5) d_Mo_next_5 (by decide) ?_
    refine ar_icmp_eq (pc := 7) 20 d_Mo_next_7 (by decide) ⟨by omega, by omega⟩ ⟨by omega, by omega⟩ (fun h_7 => by exfalso; omega) (fun h_7 => ?_)
    refine ar_aload_n (pc := 10) d_Mo_next_10 rfl ?_
    refine ar_iconst (pc := 11) d_Mo_next_11 ?_
    refine ac_virt (pc := 12) (N := mt_Mo_here) _ _ mv_Mo_here ml_Mo_209 ck_12 d_Mo_next_12 c (by first | rfl | exact sh_wheel (by omega) | exact sh_milk (by omega)) rfl rfl (Nat.le_of_ble_eq_true rfl) (Nat.le_of_eq (Nat.zero_add _)) (Nat.le_of_eq (Nat.zero_add _)) (fun r_12 G_12 h_12 => ?_)
    obtain ⟨rfl, e_12⟩ := h_12
    subst G_12
    refine ar_bipush (pc := 15) d_Mo_next_15 (by decide) ?_
    refine ar_icmp_ne (pc := 17) 33 d_Mo_next_17 (by decide) ⟨by omega, by omega⟩ ⟨by omega, by omega⟩ (fun h_17 => ?_) (fun h_17 => by exfalso; omega)
    rotate_left
    -- leaves: stop 33
    · exact ar_loc k1 ⟨rfl, trivial⟩
  | succ n ih =>
    intro i G1 hi h1 h2 hL
    obtain ⟨hF1, hz1, hB1⟩ := nb_w hL hF hz hB
    have c := cm_Mo_here X d G1 (k := 0) hF1 hz1 bb hB1 hL.2.2.2 (by omega) (by omega)
    rw [show i + 0 = i from Nat.add_zero i] at c
    have ri := bb_r bb i
    have e38 := hL.2.2.2
    by_cases hb : bk_s (B i)
    · have i1 := ih (i + 1) (ms_I G1 60 38 ((i : Int) + 1)) (by omega) (by omega) (fun k k1 k2 => by by_cases e : k = i; rw [e]; exact hb; exact h2 k k1 (by omega)) (nb_38 hL (by omega))
      clear ih kk
      unfold bk_s at hb
      refine ar_aload_n (pc := 0) d_Mo_next_0 rfl ?_
      refine ar_iconst (pc := 1) d_Mo_next_1 ?_
      refine ac_virt (pc := 2) (N := mt_Mo_here) _ _ mv_Mo_here ml_Mo_209 ck_12 d_Mo_next_2 c (by first | rfl | exact sh_wheel (by omega) | exact sh_milk (by omega)) rfl rfl (Nat.le_of_ble_eq_true rfl) (Nat.le_of_eq (Nat.zero_add _)) (Nat.le_of_eq (Nat.zero_add _)) (fun r_2 G_2 h_2 => ?_)
      obtain ⟨rfl, e_2⟩ := h_2
      subst G_2
      refine ar_bipush (pc := 5) d_Mo_next_5 (by decide) ?_
      refine ar_icmp_eq (pc := 7) 20 d_Mo_next_7 (by decide) ⟨by omega, by omega⟩ ⟨by omega, by omega⟩ (fun h_7 => ?_) (fun h_7 => ?_)
      refine ar_aload_n (pc := 20) d_Mo_next_20 rfl ?_
      refine ar_dup (pc := 21) d_Mo_next_21 rfl ?_
      refine ar_getIv (pc := 22) gf_Mo_203 d_Mo_next_22 (by first | rfl | exact sh_wheel (by omega) | exact sh_milk (by omega)) e38 (fun r_22 => ?_)
      refine ar_iconst (pc := 25) d_Mo_next_25 ?_
      refine ar_iadd (pc := 26) d_Mo_next_26 ?_
      refine ar_putI (pc := 27) gf_Mo_203 d_Mo_next_27 rfl (by first | rfl | exact sh_wheel (by omega) | exact sh_milk (by omega)) ⟨by omega, by omega⟩ ?_
      refine ar_goto (pc := 30) 0 d_Mo_next_30 (by decide) ?_
      rotate_left
      refine ar_aload_n (pc := 10) d_Mo_next_10 rfl ?_
      refine ar_iconst (pc := 11) d_Mo_next_11 ?_
      refine ac_virt (pc := 12) (N := mt_Mo_here) _ _ mv_Mo_here ml_Mo_209 ck_12 d_Mo_next_12 c (by first | rfl | exact sh_wheel (by omega) | exact sh_milk (by omega)) rfl rfl (Nat.le_of_ble_eq_true rfl) (Nat.le_of_eq (Nat.zero_add _)) (Nat.le_of_eq (Nat.zero_add _)) (fun r_12 G_12 h_12 => ?_)
      obtain ⟨rfl, e_12⟩ := h_12
      subst G_12
      refine ar_bipush (pc := 15) d_Mo_next_15 (by decide) ?_
      refine ar_icmp_ne (pc := 17) 33 d_Mo_next_17 (by decide) ⟨by omega, by omega⟩ ⟨by omega, by omega⟩ (fun h_17 => ?_) (fun h_17 => ?_)
      rotate_left
      refine ar_aload_n (pc := 20) d_Mo_next_20 rfl ?_
      refine ar_dup (pc := 21) d_Mo_next_21 rfl ?_
      refine ar_getIv (pc := 22) gf_Mo_203 d_Mo_next_22 (by first | rfl | exact sh_wheel (by omega) | exact sh_milk (by omega)) e38 (fun r_22 => ?_)
      refine ar_iconst (pc := 25) d_Mo_next_25 ?_
      refine ar_iadd (pc := 26) d_Mo_next_26 ?_
      refine ar_putI (pc := 27) gf_Mo_203 d_Mo_next_27 rfl (by first | rfl | exact sh_wheel (by omega) | exact sh_milk (by omega)) ⟨by omega, by omega⟩ ?_
      refine ar_goto (pc := 30) 0 d_Mo_next_30 (by decide) ?_
      rotate_left
      -- leaves: stop 0, stop 33, stop 0
      · exact ar_loc i1 ⟨rfl, trivial⟩
      · exfalso; omega
      · exact ar_loc i1 ⟨rfl, trivial⟩
    · have e := sk_bu bb ha h1 (by omega) h2 hb
      have k1 := kk G1 (by rw [e]; exact hL)
      unfold bk_s at hb
      clear ih kk
      refine ar_aload_n (pc := 0) d_Mo_next_0 rfl ?_
      refine ar_iconst (pc := 1) d_Mo_next_1 ?_
      refine ac_virt (pc := 2) (N := mt_Mo_here) _ _ mv_Mo_here ml_Mo_209 ck_12 d_Mo_next_2 c (by first | rfl | exact sh_wheel (by omega) | exact sh_milk (by omega)) rfl rfl (Nat.le_of_ble_eq_true rfl) (Nat.le_of_eq (Nat.zero_add _)) (Nat.le_of_eq (Nat.zero_add _)) (fun r_2 G_2 h_2 => ?_)
      obtain ⟨rfl, e_2⟩ := h_2
      subst G_2
      refine ar_bipush (pc := 5) d_Mo_next_5 (by decide) ?_
      refine ar_icmp_eq (pc := 7) 20 d_Mo_next_7 (by decide) ⟨by omega, by omega⟩ ⟨by omega, by omega⟩ (fun h_7 => by exfalso; omega) (fun h_7 => ?_)
      refine ar_aload_n (pc := 10) d_Mo_next_10 rfl ?_
      refine ar_iconst (pc := 11) d_Mo_next_11 ?_
      refine ac_virt (pc := 12) (N := mt_Mo_here) _ _ mv_Mo_here ml_Mo_209 ck_12 d_Mo_next_12 c (by first | rfl | exact sh_wheel (by omega) | exact sh_milk (by omega)) rfl rfl (Nat.le_of_ble_eq_true rfl) (Nat.le_of_eq (Nat.zero_add _)) (Nat.le_of_eq (Nat.zero_add _)) (fun r_12 G_12 h_12 => ?_)
      obtain ⟨rfl, e_12⟩ := h_12
      subst G_12
      refine ar_bipush (pc := 15) d_Mo_next_15 (by decide) ?_
      refine ar_icmp_ne (pc := 17) 33 d_Mo_next_17 (by decide) ⟨by omega, by omega⟩ ⟨by omega, by omega⟩ (fun h_17 => ?_) (fun h_17 => by exfalso; omega)
      rotate_left
      -- leaves: stop 33
      · exact ar_loc k1 ⟨rfl, trivial⟩
def nx_L (G G1 : mm_T) (p : Nat) (w m : Int) : Prop := nb_L G G1 p ∧ mm_I G1 60 41 = p ∧ mm_J G1 60 43 = w ∧ mm_I G1 60 42 = m
theorem nx_w {G G1 : mm_T} {p : Nat} {w m : Int} (h : nx_L G G1 p w m) {v w' : Int} (e : v = w') : nx_L G (ms_J G1 60 43 v) p w' m := by
  obtain ⟨⟨h1, h2, h3, h4⟩, h5, h6, h7⟩ := h
  refine ⟨⟨h1, h2, fun b j hj => ?_, h4⟩, h5, ?_, h7⟩
  · show (if b = 60 ∧ j = 43 then v else mm_J G1 b j) = _
    rw [if_neg hj]; exact h3 b j hj
  · exact e
theorem nx_m {G G1 : mm_T} {p : Nat} {w m : Int} (h : nx_L G G1 p w m) {v m' : Int} (e : v = m') : nx_L G (ms_I G1 60 42 v) p w m' := by
  obtain ⟨⟨h1, h2, h3, h4⟩, h5, h6, h7⟩ := h
  exact ⟨⟨h1, fun b j hj => by rw [mi_n (by omega)]; exact h2 b j hj, h3, (mi_n (by omega)).trans h4⟩, (mi_n (by omega)).trans h5, h6, (mi_s _ _ _ _).trans e⟩
/-- a token as the reference holds it -/
def tw_R (K s w : Int) : Prop := (K = 301 ∧ s = 0) ∨ (K = 300 ∧ s = 3) ∨ (K = 302 ∧ s = 2) ∨ (((0 ≤ K ∧ K ≤ 17) ∨ K = 303) ∧ s = 1 ∧ wk_v w = K) ∨ (is_s K = 1 ∧ s = K)
/-- what the reference's token is; all else is as before -/
def nx_F (B : Nat → Int) (z : Nat) (G G1 : mm_T) (p : Nat) : Prop := (mm_R G1 = mm_R G ∧ mm_A G1 = mm_A G) ∧ (∀ b j, ¬ (b = 60 ∧ (j = 38 ∨ j = 40 ∨ j = 41 ∨ j = 42)) → mm_I G1 b j = mm_I G b j) ∧ (∀ b j, ¬ (b = 60 ∧ j = 43) → mm_J G1 b j = mm_J G b j) ∧ mm_I G1 60 41 = p ∧ tw_R (tk_k B z p) (mm_I G1 60 40) (mm_J G1 60 43) ∧ (tk_k B z p = 302 → mm_I G1 60 42 = tk_m B z p) ∧ (tk_k B z p ≠ 300 → tk_k B z p ≠ 301 → mm_I G1 60 38 = (p + tl_n B z p : Nat))
theorem nx_o {B : Nat → Int} {z : Nat} {G G1 : mm_T} {p : Nat} {w m s v : Int} (h : nx_L G G1 p w m) (ht : tw_R (tk_k B z p) s w) (hm : tk_k B z p = 302 → m = tk_m B z p) (hv : tk_k B z p ≠ 300 → tk_k B z p ≠ 301 → v = (p + tl_n B z p : Nat)) : nx_F B z G (ms_I (ms_I G1 60 40 s) 60 38 v) p := by
  obtain ⟨⟨h1, h2, h3, h4⟩, h5, h6, h7⟩ := h
  refine ⟨h1, fun b j hj => ?_, h3, ?_, ?_, fun q => ?_, fun q1 q2 => ?_⟩
  · rw [mi_n (by omega), mi_n (by omega)]; exact h2 b j hj
  · rw [mi_n (by omega), mi_n (by omega)]; exact h5
  · rw [mi_n (by omega), mi_s]; show tw_R _ _ (mm_J G1 60 43); rw [h6]; exact ht
  · rw [mi_n (by omega), mi_n (by omega), h7]; exact hm q
  · rw [mi_s]; exact hv q1 q2
theorem nx_o3 {B : Nat → Int} {z : Nat} {G G1 : mm_T} {p : Nat} {w m : Int} (h : nx_L G G1 p w m) (ht : tk_k B z p = 300) : nx_F B z G (ms_I G1 60 40 3) p := by
  obtain ⟨⟨h1, h2, h3, h4⟩, h5, h6, h7⟩ := h
  refine ⟨h1, fun b j hj => ?_, h3, ?_, ?_, fun q => ?_, fun q1 q2 => absurd ht q1⟩
  · rw [mi_n (by omega)]; exact h2 b j hj
  · rw [mi_n (by omega)]; exact h5
  · rw [mi_s]; exact Or.inr (Or.inl ⟨ht, rfl⟩)
  · omega
