/-! ===== the class keeps the tokens ===== -/
def tn_K (B : Nat → Int) (z k : Nat) : Int := tk_k B z (ps_k B z k)
def tn_M (B : Nat → Int) (z k : Nat) : Int := tk_m B z (ps_k B z k)
theorem cm_To_keepOne (X : gx_T) (d : Nat) (G : mm_T) {B : Nat → Int} {z a c : Nat} (hF : fx_R G) (hz : mm_I G 33 1 = z) (bb : bb_B B z) (hB : tb_v G = B) (ha : a ≤ z) (hc : mm_I G 36 3 = c) (hc5 : c ≤ 500) : aw_M X (d + 8) mt_To_keepOne [av_r (some 36), av_r (some 33), av_i (a : Int)] G 0 0 (fun r G' => r = some (av_i (tk_k B z a)) ∧ G' = ms_I (ms_I (ms_I (ms_I G 37 c (tk_k B z a)) 38 c (a : Int)) 39 c (tk_m B z a)) 36 3 ((c : Int) + 1)) := by
  have z5 := bb.1
  have rk := tk_r (a := a) bb
  have rm := tm_r (a := a) bb
  have c24 := cm_To_kindOf X d G hF hz bb hB ha
  have e54 : mm_I (ms_I (ms_I G 37 c (tk_k B z a)) 38 c (a : Int)) 37 c = tk_k B z a := by rw [mi_n (by omega), mi_s]
  have e91 : mm_I (ms_I (ms_I (ms_I (ms_I G 37 c (tk_k B z a)) 38 c (a : Int)) 39 c (tk_m B z a)) 36 3 ((c : Int) + 1)) 37 c = tk_k B z a := by rw [mi_n (by omega), mi_n (by omega), mi_n (by omega), mi_s]
  by_cases h : tk_k B z a = 302
  · have hm : tk_m B z a = nb_v B a (tl_n B z a) := by unfold tk_m; rw [if_pos h]
    have haz := tk_end bb ha (by omega)
    have hd : is_d (B a) = 1 ∧ tl_n B z a ≤ 6 := by
      have hw := wk_r (wv_n (fun i => B (a + i)) (tl_n B z a))
      have hbr := bb.2.1 a haz
      unfold tk_k at h
      rw [if_neg (by omega)] at h
      by_cases h2 : is_l (B a) = 1
      · rw [if_pos h2] at h; split at h <;> omega
      · rw [if_neg h2] at h
        by_cases h3 : is_d (B a) = 1
        · rw [if_pos h3] at h
          by_cases h4 : 6 < tl_n B z a ∨ is_l (B (a + tl_n B z a)) = 1
          · rw [if_pos h4] at h; omega
          · exact ⟨h3, by omega⟩
        · rw [if_neg h3] at h; split at h <;> omega
    have c63 := cm_To_numberOf X (d + 5) (ms_I (ms_I G 37 c (tk_k B z a)) 38 c (a : Int)) (by exact hF) (by exact hz) bb (by exact hB) haz hd.1 hd.2
    rw [← hm] at c63
    generalize tk_m B z a = M at *
    generalize tk_k B z a = K at *
    clear hd hm
    refine aw_enter pf_To_keepOne (Nat.le_of_ble_eq_true rfl) ?_
    refine ar_aload_n (pc := 0) d_To_keepOne_0 rfl ?_
    refine ar_getIv (pc := 1) gf_To_21 d_To_keepOne_1 (by first | rfl | exact sh_wheel (by omega) | exact sh_milk (by omega)) hc (fun r_1 => ?_)
    refine ar_sipush (pc := 4) d_To_keepOne_4 (by decide) ?_
    refine ar_icmp_le (pc := 7) 14 d_To_keepOne_7 (by decide) ⟨by omega, by omega⟩ ⟨by omega, by omega⟩ (fun h_7 => ?_) (fun h_7 => by exfalso; omega)
    refine ar_aload_n (pc := 14) d_To_keepOne_14 rfl ?_
    refine ar_getR (pc := 15) gf_To_9 d_To_keepOne_15 (by first | rfl | exact sh_wheel (by omega) | exact sh_milk (by omega)) (hF _ _ _ rfl) ?_
    refine ar_aload_n (pc := 18) d_To_keepOne_18 rfl ?_
    refine ar_getIv (pc := 19) gf_To_21 d_To_keepOne_19 (by first | rfl | exact sh_wheel (by omega) | exact sh_milk (by omega)) hc (fun r_19 => ?_)
    refine ar_aload_n (pc := 22) d_To_keepOne_22 rfl ?_
    refine ar_iload_n (pc := 23) d_To_keepOne_23 rfl ?_
    refine ac_stat (pc := 24) (N := mt_To_kindOf) _ _ sv_To_kindOf ml_To_35 d_To_keepOne_24 c24 rfl rfl (Nat.le_of_ble_eq_true rfl) (Nat.le_of_eq (Nat.zero_add _)) (Nat.le_of_eq (Nat.zero_add _)) (fun r_24 G_24 h_24 => ?_)
    obtain ⟨rfl, e_24⟩ := h_24
    subst G_24
    refine ar_iast (pc := 27) d_To_keepOne_27 rfl (c) (by omega) (by omega) ⟨by omega, by omega⟩ ?_
    refine ar_aload_n (pc := 28) d_To_keepOne_28 rfl ?_
    refine ar_getR (pc := 29) gf_To_15 d_To_keepOne_29 (by first | rfl | exact sh_wheel (by omega) | exact sh_milk (by omega)) (hF _ _ _ rfl) ?_
    refine ar_aload_n (pc := 32) d_To_keepOne_32 rfl ?_
    refine ar_getIv (pc := 33) gf_To_21 d_To_keepOne_33 (by first | rfl | exact sh_wheel (by omega) | exact sh_milk (by omega)) (show _ = (c : Int) from hc) (fun r_33 => ?_)
    refine ar_iload_n (pc := 36) d_To_keepOne_36 rfl ?_
    refine ar_iast (pc := 37) d_To_keepOne_37 rfl (c) (by omega) (by omega) ⟨by omega, by omega⟩ ?_
    refine ar_aload_n (pc := 38) d_To_keepOne_38 rfl ?_
    refine ar_getR (pc := 39) gf_To_18 d_To_keepOne_39 (by first | rfl | exact sh_wheel (by omega) | exact sh_milk (by omega)) (hF _ _ _ rfl) ?_
    refine ar_aload_n (pc := 42) d_To_keepOne_42 rfl ?_
    refine ar_getIv (pc := 43) gf_To_21 d_To_keepOne_43 (by first | rfl | exact sh_wheel (by omega) | exact sh_milk (by omega)) (show _ = (c : Int) from hc) (fun r_43 => ?_)
    refine ar_aload_n (pc := 46) d_To_keepOne_46 rfl ?_
    refine ar_getR (pc := 47) gf_To_9 d_To_keepOne_47 (by first | rfl | exact sh_wheel (by omega) | exact sh_milk (by omega)) (hF _ _ _ rfl) ?_
    refine ar_aload_n (pc := 50) d_To_keepOne_50 rfl ?_
    refine ar_getIv (pc := 51) gf_To_21 d_To_keepOne_51 (by first | rfl | exact sh_wheel (by omega) | exact sh_milk (by omega)) (show _ = (c : Int) from hc) (fun r_51 => ?_)
    refine ar_ialdv (pc := 54) d_To_keepOne_54 rfl (c) (by omega) (by omega) e54 (fun r_54 => ?_)
    refine ar_sipush (pc := 55) d_To_keepOne_55 (by decide) ?_
    refine ar_icmp_ne (pc := 58) 69 d_To_keepOne_58 (by decide) ⟨by omega, by omega⟩ ⟨by omega, by omega⟩ (fun h_58 => by exfalso; omega) (fun h_58 => ?_)
    refine ar_aload_n (pc := 61) d_To_keepOne_61 rfl ?_
    refine ar_iload_n (pc := 62) d_To_keepOne_62 rfl ?_
    refine ac_stat (pc := 63) (N := mt_To_numberOf) _ _ sv_To_numberOf ml_To_38 d_To_keepOne_63 c63 rfl rfl (Nat.le_of_ble_eq_true rfl) (Nat.le_of_eq (Nat.zero_add _)) (Nat.le_of_eq (Nat.zero_add _)) (fun r_63 G_63 h_63 => ?_)
    obtain ⟨rfl, e_63⟩ := h_63
    subst G_63
    refine ar_goto (pc := 66) 70 d_To_keepOne_66 (by decide) ?_
    refine ar_iast (pc := 70) d_To_keepOne_70 rfl (c) (by omega) (by omega) ⟨by omega, by omega⟩ ?_
    refine ar_aload_n (pc := 71) d_To_keepOne_71 rfl ?_
    refine ar_dup (pc := 72) d_To_keepOne_72 rfl ?_
    refine ar_getIv (pc := 73) gf_To_21 d_To_keepOne_73 (by first | rfl | exact sh_wheel (by omega) | exact sh_milk (by omega)) (show _ = (c : Int) from hc) (fun r_73 => ?_)
    refine ar_iconst (pc := 76) d_To_keepOne_76 ?_
    refine ar_iadd (pc := 77) d_To_keepOne_77 ?_
    refine ar_putI (pc := 78) gf_To_21 d_To_keepOne_78 rfl (by first | rfl | exact sh_wheel (by omega) | exact sh_milk (by omega)) ⟨by omega, by omega⟩ ?_
    refine ar_aload_n (pc := 81) d_To_keepOne_81 rfl ?_
    refine ar_getR (pc := 82) gf_To_9 d_To_keepOne_82 (by first | rfl | exact sh_wheel (by omega) | exact sh_milk (by omega)) (hF _ _ _ rfl) ?_
    refine ar_aload_n (pc := 85) d_To_keepOne_85 rfl ?_
    refine ar_getIv (pc := 86) gf_To_21 d_To_keepOne_86 (by first | rfl | exact sh_wheel (by omega) | exact sh_milk (by omega)) (show _ = (c : Int) + 1 from rfl) (fun r_86 => ?_)
    refine ar_iconst (pc := 89) d_To_keepOne_89 ?_
    refine ar_isub (pc := 90) d_To_keepOne_90 ?_
    refine ar_ialdv (pc := 91) d_To_keepOne_91 rfl (c) (by omega) (by omega) e91 (fun r_91 => ?_)
    refine ar_iret (pc := 92) d_To_keepOne_92 rfl ?_
    rotate_left
    -- leaves: ret 92
    · exact ⟨rfl, rfl⟩
  · have hm : tk_m B z a = 0 := by unfold tk_m; rw [if_neg h]
    rw [hm] at e91 ⊢
    generalize tk_k B z a = K at *
    clear hm
    refine aw_enter pf_To_keepOne (Nat.le_of_ble_eq_true rfl) ?_
    refine ar_aload_n (pc := 0) d_To_keepOne_0 rfl ?_
    refine ar_getIv (pc := 1) gf_To_21 d_To_keepOne_1 (by first | rfl | exact sh_wheel (by omega) | exact sh_milk (by omega)) hc (fun r_1 => ?_)
    refine ar_sipush (pc := 4) d_To_keepOne_4 (by decide) ?_
    refine ar_icmp_le (pc := 7) 14 d_To_keepOne_7 (by decide) ⟨by omega, by omega⟩ ⟨by omega, by omega⟩ (fun h_7 => ?_) (fun h_7 => by exfalso; omega)
    refine ar_aload_n (pc := 14) d_To_keepOne_14 rfl ?_
    refine ar_getR (pc := 15) gf_To_9 d_To_keepOne_15 (by first | rfl | exact sh_wheel (by omega) | exact sh_milk (by omega)) (hF _ _ _ rfl) ?_
    refine ar_aload_n (pc := 18) d_To_keepOne_18 rfl ?_
    refine ar_getIv (pc := 19) gf_To_21 d_To_keepOne_19 (by first | rfl | exact sh_wheel (by omega) | exact sh_milk (by omega)) hc (fun r_19 => ?_)
    refine ar_aload_n (pc := 22) d_To_keepOne_22 rfl ?_
    refine ar_iload_n (pc := 23) d_To_keepOne_23 rfl ?_
    refine ac_stat (pc := 24) (N := mt_To_kindOf) _ _ sv_To_kindOf ml_To_35 d_To_keepOne_24 c24 rfl rfl (Nat.le_of_ble_eq_true rfl) (Nat.le_of_eq (Nat.zero_add _)) (Nat.le_of_eq (Nat.zero_add _)) (fun r_24 G_24 h_24 => ?_)
    obtain ⟨rfl, e_24⟩ := h_24
    subst G_24
    refine ar_iast (pc := 27) d_To_keepOne_27 rfl (c) (by omega) (by omega) ⟨by omega, by omega⟩ ?_
    refine ar_aload_n (pc := 28) d_To_keepOne_28 rfl ?_
    refine ar_getR (pc := 29) gf_To_15 d_To_keepOne_29 (by first | rfl | exact sh_wheel (by omega) | exact sh_milk (by omega)) (hF _ _ _ rfl) ?_
    refine ar_aload_n (pc := 32) d_To_keepOne_32 rfl ?_
    refine ar_getIv (pc := 33) gf_To_21 d_To_keepOne_33 (by first | rfl | exact sh_wheel (by omega) | exact sh_milk (by omega)) (show _ = (c : Int) from hc) (fun r_33 => ?_)
    refine ar_iload_n (pc := 36) d_To_keepOne_36 rfl ?_
    refine ar_iast (pc := 37) d_To_keepOne_37 rfl (c) (by omega) (by omega) ⟨by omega, by omega⟩ ?_
    refine ar_aload_n (pc := 38) d_To_keepOne_38 rfl ?_
    refine ar_getR (pc := 39) gf_To_18 d_To_keepOne_39 (by first | rfl | exact sh_wheel (by omega) | exact sh_milk (by omega)) (hF _ _ _ rfl) ?_
    refine ar_aload_n (pc := 42) d_To_keepOne_42 rfl ?_
    refine ar_getIv (pc := 43) gf_To_21 d_To_keepOne_43 (by first | rfl | exact sh_wheel (by omega) | exact sh_milk (by omega)) (show _ = (c : Int) from hc) (fun r_43 => ?_)
    refine ar_aload_n (pc := 46) d_To_keepOne_46 rfl ?_
    refine ar_getR (pc := 47) gf_To_9 d_To_keepOne_47 (by first | rfl | exact sh_wheel (by omega) | exact sh_milk (by omega)) (hF _ _ _ rfl) ?_
    refine ar_aload_n (pc := 50) d_To_keepOne_50 rfl ?_
    refine ar_getIv (pc := 51) gf_To_21 d_To_keepOne_51 (by first | rfl | exact sh_wheel (by omega) | exact sh_milk (by omega)) (show _ = (c : Int) from hc) (fun r_51 => ?_)
    refine ar_ialdv (pc := 54) d_To_keepOne_54 rfl (c) (by omega) (by omega) e54 (fun r_54 => ?_)
    refine ar_sipush (pc := 55) d_To_keepOne_55 (by decide) ?_
    refine ar_icmp_ne (pc := 58) 69 d_To_keepOne_58 (by decide) ⟨by omega, by omega⟩ ⟨by omega, by omega⟩ (fun h_58 => ?_) (fun h_58 => by exfalso; omega)
    refine ar_iconst (pc := 69) d_To_keepOne_69 ?_
    refine ar_iast (pc := 70) d_To_keepOne_70 rfl (c) (by omega) (by omega) ⟨by omega, by omega⟩ ?_
    refine ar_aload_n (pc := 71) d_To_keepOne_71 rfl ?_
    refine ar_dup (pc := 72) d_To_keepOne_72 rfl ?_
    refine ar_getIv (pc := 73) gf_To_21 d_To_keepOne_73 (by first | rfl | exact sh_wheel (by omega) | exact sh_milk (by omega)) (show _ = (c : Int) from hc) (fun r_73 => ?_)
    refine ar_iconst (pc := 76) d_To_keepOne_76 ?_
    refine ar_iadd (pc := 77) d_To_keepOne_77 ?_
    refine ar_putI (pc := 78) gf_To_21 d_To_keepOne_78 rfl (by first | rfl | exact sh_wheel (by omega) | exact sh_milk (by omega)) ⟨by omega, by omega⟩ ?_
    refine ar_aload_n (pc := 81) d_To_keepOne_81 rfl ?_
    refine ar_getR (pc := 82) gf_To_9 d_To_keepOne_82 (by first | rfl | exact sh_wheel (by omega) | exact sh_milk (by omega)) (hF _ _ _ rfl) ?_
    refine ar_aload_n (pc := 85) d_To_keepOne_85 rfl ?_
    refine ar_getIv (pc := 86) gf_To_21 d_To_keepOne_86 (by first | rfl | exact sh_wheel (by omega) | exact sh_milk (by omega)) (show _ = (c : Int) + 1 from rfl) (fun r_86 => ?_)
    refine ar_iconst (pc := 89) d_To_keepOne_89 ?_
    refine ar_isub (pc := 90) d_To_keepOne_90 ?_
    refine ar_ialdv (pc := 91) d_To_keepOne_91 rfl (c) (by omega) (by omega) e91 (fun r_91 => ?_)
    refine ar_iret (pc := 92) d_To_keepOne_92 rfl ?_
    rotate_left
    -- leaves: ret 92
    · exact ⟨rfl, rfl⟩
/-- the first n tokens are kept, all else is as before -/
def tf_F (B : Nat → Int) (z : Nat) (G G1 : mm_T) (n : Nat) : Prop := (mm_R G1 = mm_R G ∧ mm_J G1 = mm_J G ∧ mm_A G1 = mm_A G) ∧ (∀ b k, ¬ (b = 36 ∧ k = 3) → b ≠ 37 → b ≠ 38 → b ≠ 39 → mm_I G1 b k = mm_I G b k) ∧ mm_I G1 36 3 = n ∧ ∀ k, k < n → mm_I G1 37 k = tn_K B z k ∧ mm_I G1 38 k = (ps_k B z k : Nat) ∧ mm_I G1 39 k = tn_M B z k
theorem tf_s {B : Nat → Int} {z : Nat} {G G1 : mm_T} {n : Nat} (h : tf_F B z G G1 n) : tf_F B z G (ms_I (ms_I (ms_I (ms_I G1 37 n (tn_K B z n)) 38 n (ps_k B z n : Nat)) 39 n (tn_M B z n)) 36 3 ((n : Int) + 1)) (n + 1) := by
  obtain ⟨h1, h2, h3, h4⟩ := h
  refine ⟨h1, fun b k b1 b2 b3 b4 => ?_, ?_, fun k hk => ?_⟩
  · rw [mi_n b1, mi_n (fun q => b4 q.1), mi_n (fun q => b3 q.1), mi_n (fun q => b2 q.1)]; exact h2 b k b1 b2 b3 b4
  · rw [mi_s]; omega
  · by_cases e : k = n
    · subst e
      refine ⟨?_, ?_, ?_⟩
      · rw [mi_n (by omega), mi_n (by omega), mi_n (by omega), mi_s]
      · rw [mi_n (by omega), mi_n (by omega), mi_s]
      · rw [mi_n (by omega), mi_s]
    · obtain ⟨q1, q2, q3⟩ := h4 k (by omega)
      refine ⟨?_, ?_, ?_⟩
      · rw [mi_n (by omega), mi_n (by omega), mi_n (by omega), mi_n (by omega)]; exact q1
      · rw [mi_n (by omega), mi_n (by omega), mi_n (by omega), mi_n (by omega)]; exact q2
      · rw [mi_n (by omega), mi_n (by omega), mi_n (by omega), mi_n (by omega)]; exact q3
theorem tf_w {B : Nat → Int} {z : Nat} {G G1 : mm_T} {n : Nat} (h : tf_F B z G G1 n) (hF : fx_R G) (hz : mm_I G 33 1 = z) (hB : tb_v G = B) : fx_R G1 ∧ mm_I G1 33 1 = z ∧ tb_v G1 = B := by
  obtain ⟨h1, h2, h3, h4⟩ := h
  have e1 : mm_I G1 33 1 = mm_I G 33 1 := h2 _ _ (by omega) (by omega) (by omega) (by omega)
  refine ⟨fun a k b h => by rw [h1.1]; exact hF a k b h, by rw [e1]; exact hz, ?_⟩
  rw [← hB]; funext i
  unfold tb_v
  rw [e1, h2 34 i (by omega) (by omega) (by omega) (by omega)]
def te_E (B : Nat → Int) (z n : Nat) : Prop := n ≤ 500 ∧ (tn_K B z n = 300 ∨ tn_K B z n = 301) ∧ ∀ k, k < n → tn_K B z k ≠ 300 ∧ tn_K B z k ≠ 301
theorem lp_To_cut (X : gx_T) (d : Nat) (G : mm_T) {B : Nat → Int} {z : Nat} (hF : fx_R G) (hz : mm_I G 33 1 = z) (bb : bb_B B z) (hB : tb_v G = B) : ∀ n i p G1, i + n = z + 1 → p ≤ z → sk_b B z p = ps_k B z i → tf_F B z G G1 i → (∀ k, k < i → tn_K B z k ≠ 300 ∧ tn_K B z k ≠ 301) → aw_W X mt_To_cut (d + 9) 9 [(0, some (av_r (some 36))), (1, some (av_r (some 33))), (2, some (av_i (p : Int))), (3, some (av_i (i : Int)))] [] G1 0 0 (fun r G' => r = none ∧ ∃ m, te_E B z m ∧ tf_F B z G G' (m + 1)) := by
  have z5 := bb.1
  intro n
  induction n with
  | zero =>
    intro i p G1 hi hp hs hT hk
    exfalso
    have := ps_z bb i (fun j hj => (hk j hj).2)
    omega
  | succ n ih =>
    intro i p G1 hi hp hs hT hk
    obtain ⟨q1, q2⟩ := ps_z bb i (fun j hj => (hk j hj).2)
    obtain ⟨hF1, hz1, hB1⟩ := tf_w hT hF hz hB
    have c18 := cm_To_behindBlanks X (d + 6) G1 (a := p) hF1 hz1 bb hB1 hp
    rw [hs] at c18
    have c25 := cm_To_keepOne X d G1 (a := ps_k B z i) hF1 hz1 bb hB1 q2 hT.2.2.1 (by omega)
    have hT2 := tf_s hT
    have rk := tk_r (a := ps_k B z i) bb
    change aw_M X (d + 8) mt_To_keepOne [av_r (some 36), av_r (some 33), av_i ((ps_k B z i : Nat) : Int)] G1 0 0 (fun r G' => r = some (av_i (tn_K B z i)) ∧ G' = ms_I (ms_I (ms_I (ms_I G1 37 i (tn_K B z i)) 38 i (ps_k B z i : Nat)) 39 i (tn_M B z i)) 36 3 ((i : Int) + 1)) at c25
    change 0 ≤ tn_K B z i ∧ tn_K B z i ≤ 303 at rk
    generalize ms_I (ms_I (ms_I (ms_I G1 37 i (tn_K B z i)) 38 i (ps_k B z i : Nat)) 39 i (tn_M B z i)) 36 3 ((i : Int) + 1) = G2 at *
    by_cases hend : tn_K B z i = 300 ∨ tn_K B z i = 301
    · have fin : ∃ m, te_E B z m ∧ tf_F B z G G2 (m + 1) := ⟨i, ⟨by omega, hend, hk⟩, hT2⟩
      clear ih hk hT hT2
      generalize tn_K B z i = K at *
      refine ar_iload_n (pc := 9) d_To_cut_9 rfl ?_
      refine ar_sipush (pc := 10) d_To_cut_10 (by decide) ?_
      refine ar_icmp_gt (pc := 13) 61 d_To_cut_13 (by decide) ⟨by omega, by omega⟩ ⟨by omega, by omega⟩ (fun h_13 => by exfalso; omega) (fun h_13 => ?_)
      refine ar_aload_n (pc := 16) d_To_cut_16 rfl ?_
      refine ar_iload_n (pc := 17) d_To_cut_17 rfl ?_
      refine ac_stat (pc := 18) (N := mt_To_behindBlanks) _ _ sv_To_behindBlanks ml_To_25 d_To_cut_18 c18 rfl rfl (Nat.le_of_ble_eq_true rfl) (Nat.le_of_eq (Nat.zero_add _)) (Nat.le_of_eq (Nat.zero_add _)) (fun r_18 G_18 h_18 => ?_)
      obtain ⟨rfl, e_18⟩ := h_18
      subst G_18
      refine ar_istore_n (pc := 21) d_To_cut_21 rfl (by decide) ?_
      refine ar_aload_n (pc := 22) d_To_cut_22 rfl ?_
      refine ar_aload_n (pc := 23) d_To_cut_23 rfl ?_
      refine ar_iload_n (pc := 24) d_To_cut_24 rfl ?_
      refine ac_virt (pc := 25) (N := mt_To_keepOne) _ _ mv_To_keepOne ml_To_29 ck_9 d_To_cut_25 c25 (by first | rfl | exact sh_wheel (by omega) | exact sh_milk (by omega)) rfl rfl (Nat.le_of_ble_eq_true rfl) (Nat.le_of_eq (Nat.zero_add _)) (Nat.le_of_eq (Nat.zero_add _)) (fun r_25 G_25 h_25 => ?_)
      obtain ⟨rfl, e_25⟩ := h_25
      subst G_25
      refine ar_istore (pc := 28) d_To_cut_28 rfl (by decide) ?_
      refine ar_iload (pc := 30) d_To_cut_30 rfl ?_
      refine ar_sipush (pc := 32) d_To_cut_32 (by decide) ?_
      refine ar_icmp_eq (pc := 35) 46 d_To_cut_35 (by decide) ⟨by omega, by omega⟩ ⟨by omega, by omega⟩ (fun h_35 => ?_) (fun h_35 => ?_)
      refine ar_ret (pc := 46) d_To_cut_46 rfl ?_
      rotate_left
      refine ar_iload (pc := 38) d_To_cut_38 rfl ?_
      refine ar_sipush (pc := 40) d_To_cut_40 (by decide) ?_
      refine ar_icmp_ne (pc := 43) 47 d_To_cut_43 (by decide) ⟨by omega, by omega⟩ ⟨by omega, by omega⟩ (fun h_43 => ?_) (fun h_43 => ?_)
      rotate_left
      refine ar_ret (pc := 46) d_To_cut_46 rfl ?_
      rotate_left
      -- leaves: ret 46, stop 47, ret 46
      · exact ⟨rfl, fin⟩
      · exfalso; omega
      · exact ⟨rfl, fin⟩
    · have haz : ps_k B z i < z := tk_end bb q2 (fun e => hend (Or.inr e))
      obtain ⟨hF2, hz2, hB2⟩ := tf_w hT2 hF hz hB
      have c50 := cm_To_lengthAt X (d + 5) G2 hF2 hz2 bb hB2 haz
      have tp := tl_pos bb haz
      have i1 := ih (i + 1) (ps_k B z i + tl_n B z (ps_k B z i)) G2 (by omega) tp.2 rfl hT2 (fun k hk2 => by by_cases e : k = i; rw [e]; exact ⟨fun q => hend (Or.inl q), fun q => hend (Or.inr q)⟩; exact hk k (by omega))
      clear ih hk hT hT2
      generalize tn_K B z i = K at *
      refine ar_iload_n (pc := 9) d_To_cut_9 rfl ?_
      refine ar_sipush (pc := 10) d_To_cut_10 (by decide) ?_
      refine ar_icmp_gt (pc := 13) 61 d_To_cut_13 (by decide) ⟨by omega, by omega⟩ ⟨by omega, by omega⟩ (fun h_13 => by exfalso; omega) (fun h_13 => ?_)
      refine ar_aload_n (pc := 16) d_To_cut_16 rfl ?_
      refine ar_iload_n (pc := 17) d_To_cut_17 rfl ?_
      refine ac_stat (pc := 18) (N := mt_To_behindBlanks) _ _ sv_To_behindBlanks ml_To_25 d_To_cut_18 c18 rfl rfl (Nat.le_of_ble_eq_true rfl) (Nat.le_of_eq (Nat.zero_add _)) (Nat.le_of_eq (Nat.zero_add _)) (fun r_18 G_18 h_18 => ?_)
      obtain ⟨rfl, e_18⟩ := h_18
      subst G_18
      refine ar_istore_n (pc := 21) d_To_cut_21 rfl (by decide) ?_
      refine ar_aload_n (pc := 22) d_To_cut_22 rfl ?_
      refine ar_aload_n (pc := 23) d_To_cut_23 rfl ?_
      refine ar_iload_n (pc := 24) d_To_cut_24 rfl ?_
      refine ac_virt (pc := 25) (N := mt_To_keepOne) _ _ mv_To_keepOne ml_To_29 ck_9 d_To_cut_25 c25 (by first | rfl | exact sh_wheel (by omega) | exact sh_milk (by omega)) rfl rfl (Nat.le_of_ble_eq_true rfl) (Nat.le_of_eq (Nat.zero_add _)) (Nat.le_of_eq (Nat.zero_add _)) (fun r_25 G_25 h_25 => ?_)
      obtain ⟨rfl, e_25⟩ := h_25
      subst G_25
      refine ar_istore (pc := 28) d_To_cut_28 rfl (by decide) ?_
      refine ar_iload (pc := 30) d_To_cut_30 rfl ?_
      refine ar_sipush (pc := 32) d_To_cut_32 (by decide) ?_
      refine ar_icmp_eq (pc := 35) 46 d_To_cut_35 (by decide) ⟨by omega, by omega⟩ ⟨by omega, by omega⟩ (fun h_35 => by exfalso; omega) (fun h_35 => ?_)
      refine ar_iload (pc := 38) d_To_cut_38 rfl ?_
      refine ar_sipush (pc := 40) d_To_cut_40 (by decide) ?_
      refine ar_icmp_ne (pc := 43) 47 d_To_cut_43 (by decide) ⟨by omega, by omega⟩ ⟨by omega, by omega⟩ (fun h_43 => ?_) (fun h_43 => by exfalso; omega)
      refine ar_iload_n (pc := 47) d_To_cut_47 rfl ?_
      refine ar_aload_n (pc := 48) d_To_cut_48 rfl ?_
      refine ar_iload_n (pc := 49) d_To_cut_49 rfl ?_
      refine ac_stat (pc := 50) (N := mt_To_lengthAt) _ _ sv_To_lengthAt ml_To_32 d_To_cut_50 c50 rfl rfl (Nat.le_of_ble_eq_true rfl) (Nat.le_of_eq (Nat.zero_add _)) (Nat.le_of_eq (Nat.zero_add _)) (fun r_50 G_50 h_50 => ?_)
      obtain ⟨rfl, e_50⟩ := h_50
      subst G_50
      refine ar_iadd (pc := 53) d_To_cut_53 ?_
      refine ar_istore_n (pc := 54) d_To_cut_54 rfl (by decide) ?_
      refine ar_iinc (pc := 55) d_To_cut_55 rfl rfl (by decide) ?_
      refine ar_goto (pc := 58) 9 d_To_cut_58 (by decide) ?_
      rotate_left
      -- leaves: stop 9
      · exact ar_loc i1 ⟨rfl, rfl, li_i rfl (by omega), li_i rfl (by omega), trivial⟩
theorem cm_To_cut (X : gx_T) (d : Nat) (G : mm_T) {B : Nat → Int} {z : Nat} (hF : fx_R G) (hz : mm_I G 33 1 = z) (bb : bb_B B z) (hB : tb_v G = B) : aw_M X (d + 9) mt_To_cut [av_r (some 36), av_r (some 33)] G 0 0 (fun r G' => r = none ∧ ∃ m, te_E B z m ∧ tf_F B z G G' (m + 1)) := by
  have h := lp_To_cut X d G hF hz bb hB (z + 1) 0 0 (ms_I G 36 3 0) (by omega) (by omega) rfl ⟨⟨rfl, rfl, rfl⟩, fun b k b1 b2 b3 b4 => mi_n b1, mi_s _ _ _ _, fun k hk => by omega⟩ (fun k hk => by omega)
  refine aw_enter pf_To_cut (Nat.le_of_ble_eq_true rfl) ?_
  refine ar_aload_n (pc := 0) d_To_cut_0 rfl ?_
  refine ar_iconst (pc := 1) d_To_cut_1 ?_
  refine ar_putI (pc := 2) gf_To_21 d_To_cut_2 rfl (by first | rfl | exact sh_wheel (by omega) | exact sh_milk (by omega)) ⟨by omega, by omega⟩ ?_
  refine ar_iconst (pc := 5) d_To_cut_5 ?_
  refine ar_istore_n (pc := 6) d_To_cut_6 rfl (by decide) ?_
  refine ar_iconst (pc := 7) d_To_cut_7 ?_
  refine ar_istore_n (pc := 8) d_To_cut_8 rfl (by decide) ?_
  rotate_left
  -- leaves: stop 9
  · exact ar_loc h ⟨rfl, rfl, rfl, rfl, trivial⟩
