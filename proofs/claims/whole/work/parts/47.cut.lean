/-! ===== the class keeps the tokens ===== -/
def tn_K (B : Nat → Int) (z k : Nat) : Int := tk_k B z (ps_k B z k)
def tn_M (B : Nat → Int) (z k : Nat) : Int := tk_m B z (ps_k B z k)
theorem lp_To_cutb (X : gx_T) (d : Nat) {G1 : mm_T} {B : Nat → Int} {z p a i : Nat} {Q : Option av_T → mm_T → Prop} (hF : fx_R G1) (hz1 : mm_I G1 33 1 = z) (bb : bb_B B z) (hB1 : tb_v G1 = B) (hp : p ≤ z) (hs : sk_b B z p = a) (ha : a ≤ z) (hi : i ≤ 500) (kk : aw_W X mt_To_cut (d + 9) 74 [(0, some (av_r (some 36))), (1, some (av_r (some 33))), (2, some (av_i (a : Int))), (3, some (av_i (i : Int))), (4, some (av_i (tk_k B z a)))] [] (ms_I (ms_I (ms_I (ms_I G1 37 i (tk_k B z a)) 38 i (a : Int)) 39 i (tk_m B z a)) 36 3 ((i : Int) + 1)) 0 0 Q) : aw_W X mt_To_cut (d + 9) 9 [(0, some (av_r (some 36))), (1, some (av_r (some 33))), (2, some (av_i (p : Int))), (3, some (av_i (i : Int)))] [] G1 0 0 Q := by
  have z5 := bb.1
  have rk := tk_r (a := a) bb
  have rm := tm_r (a := a) bb
  have c18 := cm_To_behindBlanks X (d + 6) G1 (a := p) hF hz1 bb hB1 hp
  rw [hs] at c18
  have c24 := cm_To_kindOf X (d + 1) G1 hF hz1 bb hB1 ha
  by_cases h : tk_k B z a = 302
  · have hm : tk_m B z a = nb_v B a (tl_n B z a) := by unfold tk_m; rw [if_pos h]
    have haz := tk_end bb ha (by omega)
    have hd : is_d (B a) = 1 ∧ tl_n B z a ≤ 6 := by
      have hw := wk_r (wv_n (fun i => B (a + i)) (tl_n B z a))
      have hbr := bb.2.1 a haz
      unfold tk_k at h
      rw [if_neg (by omega)] at h
      by_cases h2 : is_l (B a) = 1
      · rw [if_pos h2] at h; split at h <;> omega
      · rw [if_neg h2] at h
        by_cases h3 : is_d (B a) = 1
        · rw [if_pos h3] at h
          by_cases h4 : 6 < tl_n B z a ∨ is_l (B (a + tl_n B z a)) = 1
          · rw [if_pos h4] at h; omega
          · exact ⟨h3, by omega⟩
        · rw [if_neg h3] at h; split at h <;> omega
    have c59 := cm_To_numberOf X (d + 6) (ms_I (ms_I G1 37 i (tk_k B z a)) 38 i (a : Int)) (by exact hF) (by exact hz1) bb (by exact hB1) haz hd.1 hd.2
    rw [← hm] at c59
    clear hd hm hs
    generalize tk_m B z a = M at *
    generalize tk_k B z a = K at *
    refine ar_iload_n (pc := 9) d_To_cut_9 rfl ?_
    refine ar_sipush (pc := 10) d_To_cut_10 (by decide) ?_
    refine ar_icmp_gt (pc := 13) 105 d_To_cut_13 (by decide) ⟨by omega, by omega⟩ ⟨by omega, by omega⟩ (fun h_13 => by exfalso; omega) (fun h_13 => ?_)
    refine ar_aload_n (pc := 16) d_To_cut_16 rfl ?_
    refine ar_iload_n (pc := 17) d_To_cut_17 rfl ?_
    refine ac_stat (pc := 18) (N := mt_To_behindBlanks) _ _ sv_To_behindBlanks ml_To_25 d_To_cut_18 c18 rfl rfl (Nat.le_of_ble_eq_true rfl) (Nat.le_of_eq (Nat.zero_add _)) (Nat.le_of_eq (Nat.zero_add _)) (fun r_18 G_18 h_18 => ?_)
    obtain ⟨rfl, e_18⟩ := h_18
    subst G_18
    refine ar_istore_n (pc := 21) d_To_cut_21 rfl (by decide) ?_
    refine ar_aload_n (pc := 22) d_To_cut_22 rfl ?_
    refine ar_iload_n (pc := 23) d_To_cut_23 rfl ?_
    refine ac_stat (pc := 24) (N := mt_To_kindOf) _ _ sv_To_kindOf ml_To_29 d_To_cut_24 c24 rfl rfl (Nat.le_of_ble_eq_true rfl) (Nat.le_of_eq (Nat.zero_add _)) (Nat.le_of_eq (Nat.zero_add _)) (fun r_24 G_24 h_24 => ?_)
    obtain ⟨rfl, e_24⟩ := h_24
    subst G_24
    refine ar_istore (pc := 27) d_To_cut_27 rfl (by decide) ?_
    refine ar_aload_n (pc := 29) d_To_cut_29 rfl ?_
    refine ar_getR (pc := 30) gf_To_9 d_To_cut_30 (by first | rfl | exact sh_wheel (by omega) | exact sh_milk (by omega)) (hF _ _ _ rfl) ?_
    refine ar_iload_n (pc := 33) d_To_cut_33 rfl ?_
    refine ar_iload (pc := 34) d_To_cut_34 rfl ?_
    refine ar_iast (pc := 36) d_To_cut_36 rfl (i) (by omega) (by omega) ⟨by omega, by omega⟩ ?_
    refine ar_aload_n (pc := 37) d_To_cut_37 rfl ?_
    refine ar_getR (pc := 38) gf_To_15 d_To_cut_38 (by first | rfl | exact sh_wheel (by omega) | exact sh_milk (by omega)) (hF _ _ _ rfl) ?_
    refine ar_iload_n (pc := 41) d_To_cut_41 rfl ?_
    refine ar_iload_n (pc := 42) d_To_cut_42 rfl ?_
    refine ar_iast (pc := 43) d_To_cut_43 rfl (i) (by omega) (by omega) ⟨by omega, by omega⟩ ?_
    refine ar_aload_n (pc := 44) d_To_cut_44 rfl ?_
    refine ar_getR (pc := 45) gf_To_18 d_To_cut_45 (by first | rfl | exact sh_wheel (by omega) | exact sh_milk (by omega)) (hF _ _ _ rfl) ?_
    refine ar_iload_n (pc := 48) d_To_cut_48 rfl ?_
    refine ar_iload (pc := 49) d_To_cut_49 rfl ?_
    refine ar_sipush (pc := 51) d_To_cut_51 (by decide) ?_
    refine ar_icmp_ne (pc := 54) 65 d_To_cut_54 (by decide) ⟨by omega, by omega⟩ ⟨by omega, by omega⟩ (fun h_54 => by exfalso; omega) (fun h_54 => ?_)
    refine ar_aload_n (pc := 57) d_To_cut_57 rfl ?_
    refine ar_iload_n (pc := 58) d_To_cut_58 rfl ?_
    refine ac_stat (pc := 59) (N := mt_To_numberOf) _ _ sv_To_numberOf ml_To_32 d_To_cut_59 c59 rfl rfl (Nat.le_of_ble_eq_true rfl) (Nat.le_of_eq (Nat.zero_add _)) (Nat.le_of_eq (Nat.zero_add _)) (fun r_59 G_59 h_59 => ?_)
    obtain ⟨rfl, e_59⟩ := h_59
    subst G_59
    refine ar_goto (pc := 62) 66 d_To_cut_62 (by decide) ?_
    refine ar_iast (pc := 66) d_To_cut_66 rfl (i) (by omega) (by omega) ⟨by omega, by omega⟩ ?_
    refine ar_aload_n (pc := 67) d_To_cut_67 rfl ?_
    refine ar_iload_n (pc := 68) d_To_cut_68 rfl ?_
    refine ar_iconst (pc := 69) d_To_cut_69 ?_
    refine ar_iadd (pc := 70) d_To_cut_70 ?_
    refine ar_putI (pc := 71) gf_To_21 d_To_cut_71 rfl (by first | rfl | exact sh_wheel (by omega) | exact sh_milk (by omega)) ⟨by omega, by omega⟩ ?_
    rotate_left
    -- leaves: stop 74
    · exact ar_loc kk ⟨rfl, rfl, rfl, rfl, rfl, trivial⟩
  · have hm : tk_m B z a = 0 := by unfold tk_m; rw [if_neg h]
    rw [hm] at kk
    clear hm hs
    generalize tk_k B z a = K at *
    refine ar_iload_n (pc := 9) d_To_cut_9 rfl ?_
    refine ar_sipush (pc := 10) d_To_cut_10 (by decide) ?_
    refine ar_icmp_gt (pc := 13) 105 d_To_cut_13 (by decide) ⟨by omega, by omega⟩ ⟨by omega, by omega⟩ (fun h_13 => by exfalso; omega) (fun h_13 => ?_)
    refine ar_aload_n (pc := 16) d_To_cut_16 rfl ?_
    refine ar_iload_n (pc := 17) d_To_cut_17 rfl ?_
    refine ac_stat (pc := 18) (N := mt_To_behindBlanks) _ _ sv_To_behindBlanks ml_To_25 d_To_cut_18 c18 rfl rfl (Nat.le_of_ble_eq_true rfl) (Nat.le_of_eq (Nat.zero_add _)) (Nat.le_of_eq (Nat.zero_add _)) (fun r_18 G_18 h_18 => ?_)
    obtain ⟨rfl, e_18⟩ := h_18
    subst G_18
    refine ar_istore_n (pc := 21) d_To_cut_21 rfl (by decide) ?_
    refine ar_aload_n (pc := 22) d_To_cut_22 rfl ?_
    refine ar_iload_n (pc := 23) d_To_cut_23 rfl ?_
    refine ac_stat (pc := 24) (N := mt_To_kindOf) _ _ sv_To_kindOf ml_To_29 d_To_cut_24 c24 rfl rfl (Nat.le_of_ble_eq_true rfl) (Nat.le_of_eq (Nat.zero_add _)) (Nat.le_of_eq (Nat.zero_add _)) (fun r_24 G_24 h_24 => ?_)
    obtain ⟨rfl, e_24⟩ := h_24
    subst G_24
    refine ar_istore (pc := 27) d_To_cut_27 rfl (by decide) ?_
    refine ar_aload_n (pc := 29) d_To_cut_29 rfl ?_
    refine ar_getR (pc := 30) gf_To_9 d_To_cut_30 (by first | rfl | exact sh_wheel (by omega) | exact sh_milk (by omega)) (hF _ _ _ rfl) ?_
    refine ar_iload_n (pc := 33) d_To_cut_33 rfl ?_
    refine ar_iload (pc := 34) d_To_cut_34 rfl ?_
    refine ar_iast (pc := 36) d_To_cut_36 rfl (i) (by omega) (by omega) ⟨by omega, by omega⟩ ?_
    refine ar_aload_n (pc := 37) d_To_cut_37 rfl ?_
    refine ar_getR (pc := 38) gf_To_15 d_To_cut_38 (by first | rfl | exact sh_wheel (by omega) | exact sh_milk (by omega)) (hF _ _ _ rfl) ?_
    refine ar_iload_n (pc := 41) d_To_cut_41 rfl ?_
    refine ar_iload_n (pc := 42) d_To_cut_42 rfl ?_
    refine ar_iast (pc := 43) d_To_cut_43 rfl (i) (by omega) (by omega) ⟨by omega, by omega⟩ ?_
    refine ar_aload_n (pc := 44) d_To_cut_44 rfl ?_
    refine ar_getR (pc := 45) gf_To_18 d_To_cut_45 (by first | rfl | exact sh_wheel (by omega) | exact sh_milk (by omega)) (hF _ _ _ rfl) ?_
    refine ar_iload_n (pc := 48) d_To_cut_48 rfl ?_
    refine ar_iload (pc := 49) d_To_cut_49 rfl ?_
    refine ar_sipush (pc := 51) d_To_cut_51 (by decide) ?_
    refine ar_icmp_ne (pc := 54) 65 d_To_cut_54 (by decide) ⟨by omega, by omega⟩ ⟨by omega, by omega⟩ (fun h_54 => ?_) (fun h_54 => by exfalso; omega)
    refine ar_iconst (pc := 65) d_To_cut_65 ?_
    refine ar_iast (pc := 66) d_To_cut_66 rfl (i) (by omega) (by omega) ⟨by omega, by omega⟩ ?_
    refine ar_aload_n (pc := 67) d_To_cut_67 rfl ?_
    refine ar_iload_n (pc := 68) d_To_cut_68 rfl ?_
    refine ar_iconst (pc := 69) d_To_cut_69 ?_
    refine ar_iadd (pc := 70) d_To_cut_70 ?_
    refine ar_putI (pc := 71) gf_To_21 d_To_cut_71 rfl (by first | rfl | exact sh_wheel (by omega) | exact sh_milk (by omega)) ⟨by omega, by omega⟩ ?_
    rotate_left
    -- leaves: stop 74
    · exact ar_loc kk ⟨rfl, rfl, rfl, rfl, rfl, trivial⟩
/-- the first n tokens are kept, all else is as before -/
def tf_F (B : Nat → Int) (z : Nat) (G G1 : mm_T) (n : Nat) : Prop := (mm_R G1 = mm_R G ∧ mm_J G1 = mm_J G ∧ mm_A G1 = mm_A G) ∧ (∀ b k, ¬ (b = 36 ∧ k = 3) → b ≠ 37 → b ≠ 38 → b ≠ 39 → mm_I G1 b k = mm_I G b k) ∧ mm_I G1 36 3 = n ∧ ∀ k, k < n → mm_I G1 37 k = tn_K B z k ∧ mm_I G1 38 k = (ps_k B z k : Nat) ∧ mm_I G1 39 k = tn_M B z k
theorem tf_s {B : Nat → Int} {z : Nat} {G G1 : mm_T} {n : Nat} (h : tf_F B z G G1 n) : tf_F B z G (ms_I (ms_I (ms_I (ms_I G1 37 n (tn_K B z n)) 38 n (ps_k B z n : Nat)) 39 n (tn_M B z n)) 36 3 ((n : Int) + 1)) (n + 1) := by
  obtain ⟨h1, h2, h3, h4⟩ := h
  refine ⟨h1, fun b k b1 b2 b3 b4 => ?_, ?_, fun k hk => ?_⟩
  · rw [mi_n b1, mi_n (fun q => b4 q.1), mi_n (fun q => b3 q.1), mi_n (fun q => b2 q.1)]; exact h2 b k b1 b2 b3 b4
  · rw [mi_s]; omega
  · by_cases e : k = n
    · subst e
      refine ⟨?_, ?_, ?_⟩
      · rw [mi_n (by omega), mi_n (by omega), mi_n (by omega), mi_s]
      · rw [mi_n (by omega), mi_n (by omega), mi_s]
      · rw [mi_n (by omega), mi_s]
    · obtain ⟨q1, q2, q3⟩ := h4 k (by omega)
      refine ⟨?_, ?_, ?_⟩
      · rw [mi_n (by omega), mi_n (by omega), mi_n (by omega), mi_n (by omega)]; exact q1
      · rw [mi_n (by omega), mi_n (by omega), mi_n (by omega), mi_n (by omega)]; exact q2
      · rw [mi_n (by omega), mi_n (by omega), mi_n (by omega), mi_n (by omega)]; exact q3
theorem tf_w {B : Nat → Int} {z : Nat} {G G1 : mm_T} {n : Nat} (h : tf_F B z G G1 n) (hF : fx_R G) (hz : mm_I G 33 1 = z) (hB : tb_v G = B) : fx_R G1 ∧ mm_I G1 33 1 = z ∧ tb_v G1 = B := by
  obtain ⟨h1, h2, h3, h4⟩ := h
  have e1 : mm_I G1 33 1 = mm_I G 33 1 := h2 _ _ (by omega) (by omega) (by omega) (by omega)
  refine ⟨fun a k b h => by rw [h1.1]; exact hF a k b h, by rw [e1]; exact hz, ?_⟩
  rw [← hB]; funext i
  unfold tb_v
  rw [e1, h2 34 i (by omega) (by omega) (by omega) (by omega)]
def te_E (B : Nat → Int) (z n : Nat) : Prop := n ≤ 500 ∧ (tn_K B z n = 300 ∨ tn_K B z n = 301) ∧ ∀ k, k < n → tn_K B z k ≠ 300 ∧ tn_K B z k ≠ 301
theorem lp_To_cut (X : gx_T) (d : Nat) (G : mm_T) {B : Nat → Int} {z : Nat} (hF : fx_R G) (hz : mm_I G 33 1 = z) (bb : bb_B B z) (hB : tb_v G = B) : ∀ n i p G1, i + n = z + 1 → p ≤ z → sk_b B z p = ps_k B z i → tf_F B z G G1 i → (∀ k, k < i → tn_K B z k ≠ 300 ∧ tn_K B z k ≠ 301) → aw_W X mt_To_cut (d + 9) 9 [(0, some (av_r (some 36))), (1, some (av_r (some 33))), (2, some (av_i (p : Int))), (3, some (av_i (i : Int)))] [] G1 0 0 (fun r G' => r = none ∧ ∃ m, te_E B z m ∧ tf_F B z G G' (m + 1)) := by
  have z5 := bb.1
  intro n
  induction n with
  | zero =>
    intro i p G1 hi hp hs hT hk
    exfalso
    have := ps_z bb i (fun j hj => (hk j hj).2)
    omega
  | succ n ih =>
    intro i p G1 hi hp hs hT hk
    obtain ⟨q1, q2⟩ := ps_z bb i (fun j hj => (hk j hj).2)
    obtain ⟨hF1, hz1, hB1⟩ := tf_w hT hF hz hB
    have hT2 := tf_s hT
    have rk := tk_r (a := ps_k B z i) bb
    refine lp_To_cutb X d (a := ps_k B z i) hF1 hz1 bb hB1 hp hs q2 (by omega) ?_
    change aw_W X mt_To_cut (d + 9) 74 [(0, some (av_r (some 36))), (1, some (av_r (some 33))), (2, some (av_i ((ps_k B z i : Nat) : Int))), (3, some (av_i (i : Int))), (4, some (av_i (tn_K B z i)))] [] (ms_I (ms_I (ms_I (ms_I G1 37 i (tn_K B z i)) 38 i (ps_k B z i : Nat)) 39 i (tn_M B z i)) 36 3 ((i : Int) + 1)) 0 0 _
    change 0 ≤ tn_K B z i ∧ tn_K B z i ≤ 303 at rk
    generalize ms_I (ms_I (ms_I (ms_I G1 37 i (tn_K B z i)) 38 i (ps_k B z i : Nat)) 39 i (tn_M B z i)) 36 3 ((i : Int) + 1) = G2 at *
    by_cases hend : tn_K B z i = 300 ∨ tn_K B z i = 301
    · have fin : ∃ m, te_E B z m ∧ tf_F B z G G2 (m + 1) := ⟨i, ⟨by omega, hend, hk⟩, hT2⟩
      clear ih hk hT hT2
      generalize tn_K B z i = K at *
      refine ar_iload (pc := 74) d_To_cut_74 rfl ?_
      refine ar_sipush (pc := 76) d_To_cut_76 (by decide) ?_
      refine ar_icmp_eq (pc := 79) 90 d_To_cut_79 (by decide) ⟨by omega, by omega⟩ ⟨by omega, by omega⟩ (fun h_79 => ?_) (fun h_79 => ?_)
      refine ar_ret (pc := 90) d_To_cut_90 rfl ?_
      rotate_left
      refine ar_iload (pc := 82) d_To_cut_82 rfl ?_
      refine ar_sipush (pc := 84) d_To_cut_84 (by decide) ?_
      refine ar_icmp_ne (pc := 87) 91 d_To_cut_87 (by decide) ⟨by omega, by omega⟩ ⟨by omega, by omega⟩ (fun h_87 => ?_) (fun h_87 => ?_)
      rotate_left
      refine ar_ret (pc := 90) d_To_cut_90 rfl ?_
      rotate_left
      -- leaves: ret 90, stop 91, ret 90
      · exact ⟨rfl, fin⟩
      · exfalso; omega
      · exact ⟨rfl, fin⟩
    · have haz : ps_k B z i < z := tk_end bb q2 (fun e => hend (Or.inr e))
      obtain ⟨hF2, hz2, hB2⟩ := tf_w hT2 hF hz hB
      have c50 := cm_To_lengthAt X (d + 5) G2 hF2 hz2 bb hB2 haz
      have tp := tl_pos bb haz
      have i1 := ih (i + 1) (ps_k B z i + tl_n B z (ps_k B z i)) G2 (by omega) tp.2 rfl hT2 (fun k hk2 => by by_cases e : k = i; rw [e]; exact ⟨fun q => hend (Or.inl q), fun q => hend (Or.inr q)⟩; exact hk k (by omega))
      clear ih hk hT hT2
      generalize tn_K B z i = K at *
      refine ar_iload (pc := 74) d_To_cut_74 rfl ?_
      refine ar_sipush (pc := 76) d_To_cut_76 (by decide) ?_
      refine ar_icmp_eq (pc := 79) 90 d_To_cut_79 (by decide) ⟨by omega, by omega⟩ ⟨by omega, by omega⟩ (fun h_79 => by exfalso; omega) (fun h_79 => ?_)
      refine ar_iload (pc := 82) d_To_cut_82 rfl ?_
      refine ar_sipush (pc := 84) d_To_cut_84 (by decide) ?_
      refine ar_icmp_ne (pc := 87) 91 d_To_cut_87 (by decide) ⟨by omega, by omega⟩ ⟨by omega, by omega⟩ (fun h_87 => ?_) (fun h_87 => by exfalso; omega)
      refine ar_iload_n (pc := 91) d_To_cut_91 rfl ?_
      refine ar_aload_n (pc := 92) d_To_cut_92 rfl ?_
      refine ar_iload_n (pc := 93) d_To_cut_93 rfl ?_
      refine ac_stat (pc := 94) (N := mt_To_lengthAt) _ _ sv_To_lengthAt ml_To_35 d_To_cut_94 c50 rfl rfl (Nat.le_of_ble_eq_true rfl) (Nat.le_of_eq (Nat.zero_add _)) (Nat.le_of_eq (Nat.zero_add _)) (fun r_94 G_94 h_94 => ?_)
      obtain ⟨rfl, e_94⟩ := h_94
      subst G_94
      refine ar_iadd (pc := 97) d_To_cut_97 ?_
      refine ar_istore_n (pc := 98) d_To_cut_98 rfl (by decide) ?_
      refine ar_iinc (pc := 99) d_To_cut_99 rfl rfl (by decide) ?_
      refine ar_goto (pc := 102) 9 d_To_cut_102 (by decide) ?_
      rotate_left
      -- leaves: stop 9
      · exact ar_loc i1 ⟨rfl, rfl, li_i rfl (by omega), li_i rfl (by omega), trivial⟩
theorem cm_To_cut (X : gx_T) (d : Nat) (G : mm_T) {B : Nat → Int} {z : Nat} (hF : fx_R G) (hz : mm_I G 33 1 = z) (bb : bb_B B z) (hB : tb_v G = B) : aw_M X (d + 9) mt_To_cut [av_r (some 36), av_r (some 33)] G 0 0 (fun r G' => r = none ∧ ∃ m, te_E B z m ∧ tf_F B z G G' (m + 1)) := by
  have h := lp_To_cut X d G hF hz bb hB (z + 1) 0 0 (ms_I G 36 3 0) (by omega) (by omega) rfl ⟨⟨rfl, rfl, rfl⟩, fun b k b1 b2 b3 b4 => mi_n b1, mi_s _ _ _ _, fun k hk => by omega⟩ (fun k hk => by omega)
  refine aw_enter pf_To_cut (Nat.le_of_ble_eq_true rfl) ?_
  refine ar_iconst (pc := 0) d_To_cut_0 ?_
  refine ar_istore_n (pc := 1) d_To_cut_1 rfl (by decide) ?_
  refine ar_aload_n (pc := 2) d_To_cut_2 rfl ?_
  refine ar_iconst (pc := 3) d_To_cut_3 ?_
  refine ar_putI (pc := 4) gf_To_21 d_To_cut_4 rfl (by first | rfl | exact sh_wheel (by omega) | exact sh_milk (by omega)) ⟨by omega, by omega⟩ ?_
  refine ar_iconst (pc := 7) d_To_cut_7 ?_
  refine ar_istore_n (pc := 8) d_To_cut_8 rfl (by decide) ?_
  rotate_left
  -- leaves: stop 9
  · exact ar_loc h ⟨rfl, rfl, rfl, rfl, trivial⟩
