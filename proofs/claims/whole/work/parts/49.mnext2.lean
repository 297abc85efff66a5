/-! ===== the reference's next token: words, numbers, all ===== -/
theorem lp_next_w (X : gx_T) (d : Nat) {G : mm_T} {B : Nat → Int} {z p l : Nat} {Q : Option av_T → mm_T → Prop} (hF : fx_R G) (hz : mm_I G 60 39 = z) (bb : bb_B B z) (hB : mb_v G = B) (hp : p + l ≤ z) (hl : ∀ i, i < l → is_l (B (p + i)) = 1) (hl2 : is_l (B (p + l)) ≠ 1)
    (kk : ∀ G2, nx_L G G2 p (wv_n (fun i => B (p + i)) (min l 8)) 0 → aw_W X mt_Mo_next (d + 2) 119 [(0, some (av_r (some 60))), (2, some (av_i (l : Int)))] [] G2 0 0 Q) : ∀ n i G1, i + n = l → nx_L G G1 p (wv_n (fun i => B (p + i)) (min i 8)) 0 → aw_W X mt_Mo_next (d + 2) 78 [(0, some (av_r (some 60))), (2, some (av_i (i : Int)))] [] G1 0 0 Q := by
  have z5 := bb.1
  intro n
  induction n with
  | zero =>
    intro i G1 hi hL
    have hi : i = l := by omega
    subst hi
    obtain ⟨hF1, hz1, hB1⟩ := nb_w hL.1 hF hz hB
    have c := cm_Mo_here X d G1 (k := i) hF1 hz1 bb hB1 hL.1.2.2.2 (by omega) (by omega)
    have ri := bb_r bb (p + i)
    have cl := cm_Mo_isLetter X d G1 (b := B (p + i)) ⟨by omega, by omega⟩
    have l01 := is_l01 (B (p + i))
    have k1 := kk G1 hL
    clear kk
    refine ar_aload_n (pc := 78) d_Mo_next_78 rfl ?_
    refine ar_iload_n (pc := 79) d_Mo_next_79 rfl ?_
    refine ac_virt (pc := 80) (N := mt_Mo_here) _ _ mv_Mo_here ml_Mo_209 ck_12 d_Mo_next_80 c (by first | rfl | exact sh_wheel (by omega) | exact sh_milk (by omega)) rfl rfl (Nat.le_of_ble_eq_true rfl) (Nat.le_of_eq (Nat.zero_add _)) (Nat.le_of_eq (Nat.zero_add _)) (fun r_80 G_80 h_80 => ?_)
    obtain ⟨rfl, e_80⟩ := h_80
    subst G_80
    refine ac_stat (pc := 83) (N := mt_Mo_isLetter) _ _ sv_Mo_isLetter ml_Mo_225 d_Mo_next_83 cl rfl rfl (Nat.le_of_ble_eq_true rfl) (Nat.le_of_eq (Nat.zero_add _)) (Nat.le_of_eq (Nat.zero_add _)) (fun r_83 G_83 h_83 => ?_)
    obtain ⟨rfl, e_83⟩ := h_83
    subst G_83
    refine ar_if_eq (pc := 86) 119 d_Mo_next_86 (by decide) ⟨by omega, by omega⟩ (fun h_86 => ?_) (fun h_86 => by exfalso; omega)
    rotate_left
    -- leaves: stop 119
    · exact ar_loc k1 ⟨rfl, rfl, trivial⟩
  | succ n ih =>
    intro i G1 hi hL
    obtain ⟨hF1, hz1, hB1⟩ := nb_w hL.1 hF hz hB
    have c := cm_Mo_here X d G1 (k := i) hF1 hz1 bb hB1 hL.1.2.2.2 (by omega) (by omega)
    have ri := (is_l1 _).mp (hl i (by omega))
    have cl := cm_Mo_isLetter X d G1 (b := B (p + i)) ⟨by omega, by omega⟩
    have h1 := hl i (by omega)
    have e43 := hL.2.2.1
    by_cases h8 : i < 8
    · have hw := wv_in (f := fun i => B (p + i)) i (by omega) (fun k hk => (is_l1 _).mp (hl k (by omega)))
      have hw2 : 0 ≤ wv_n (fun i => B (p + i)) i ∧ wv_n (fun i => B (p + i)) i < 36028797018963968 := by
        rcases hw with hw | hw
        · have hi8 : i = 0 ∨ i = 1 ∨ i = 2 ∨ i = 3 ∨ i = 4 ∨ i = 5 ∨ i = 6 ∨ i = 7 := by omega
          generalize wv_n (fun i => B (p + i)) i = W at *
          rcases hi8 with rfl | rfl | rfl | rfl | rfl | rfl | rfl | rfl <;> omega
        · subst hw; exact ⟨Int.le_refl _, show (0 : Int) < 36028797018963968 by decide⟩
      rw [show min i 8 = i by omega] at hL e43
      have eo := lw_9 hw2 (show 0 ≤ B (p + i) ∧ B (p + i) < 256 by omega)
      have i1 := ih (i + 1) (ms_J G1 60 43 (wv_n (fun i => B (p + i)) i * 256 + B (p + i))) (by omega) (nx_w hL (by rw [show min (i + 1) 8 = i + 1 by omega, wv_n]))
      generalize wv_n (fun i => B (p + i)) i = W at *
      have hFF := hF1
      clear ih kk hL hw
      have rW : j6_in (W * 256 + B (p + i)) := ⟨by omega, by rw [← eo]; exact (lb_in_lor _ _).2⟩
      refine ar_aload_n (pc := 78) d_Mo_next_78 rfl ?_
      refine ar_iload_n (pc := 79) d_Mo_next_79 rfl ?_
      refine ac_virt (pc := 80) (N := mt_Mo_here) _ _ mv_Mo_here ml_Mo_209 ck_12 d_Mo_next_80 c (by first | rfl | exact sh_wheel (by omega) | exact sh_milk (by omega)) rfl rfl (Nat.le_of_ble_eq_true rfl) (Nat.le_of_eq (Nat.zero_add _)) (Nat.le_of_eq (Nat.zero_add _)) (fun r_80 G_80 h_80 => ?_)
      obtain ⟨rfl, e_80⟩ := h_80
      subst G_80
      refine ac_stat (pc := 83) (N := mt_Mo_isLetter) _ _ sv_Mo_isLetter ml_Mo_225 d_Mo_next_83 cl rfl rfl (Nat.le_of_ble_eq_true rfl) (Nat.le_of_eq (Nat.zero_add _)) (Nat.le_of_eq (Nat.zero_add _)) (fun r_83 G_83 h_83 => ?_)
      obtain ⟨rfl, e_83⟩ := h_83
      subst G_83
      refine ar_if_eq (pc := 86) 119 d_Mo_next_86 (by decide) ⟨by omega, by omega⟩ (fun h_86 => by exfalso; omega) (fun h_86 => ?_)
      refine ar_iload_n (pc := 89) d_Mo_next_89 rfl ?_
      refine ar_bipush (pc := 90) d_Mo_next_90 (by decide) ?_
      refine ar_icmp_ge (pc := 92) 113 d_Mo_next_92 (by decide) ⟨by omega, by omega⟩ ⟨by omega, by omega⟩ (fun h_92 => by exfalso; omega) (fun h_92 => ?_)
      refine ar_aload_n (pc := 95) d_Mo_next_95 rfl ?_
      refine ar_aload_n (pc := 96) d_Mo_next_96 rfl ?_
      refine ar_getJv (pc := 97) gf_Mo_215 d_Mo_next_97 (by first | rfl | exact sh_wheel (by omega) | exact sh_milk (by omega)) e43 (fun r_97 => ?_)
      refine ar_bipush (pc := 100) d_Mo_next_100 (by decide) ?_
      refine ar_lshl (pc := 102) d_Mo_next_102 ?_
      refine ar_aload_n (pc := 103) d_Mo_next_103 rfl ?_
      refine ar_iload_n (pc := 104) d_Mo_next_104 rfl ?_
      refine ac_virt (pc := 105) (N := mt_Mo_here) _ _ mv_Mo_here ml_Mo_209 ck_12 d_Mo_next_105 c (by first | rfl | exact sh_wheel (by omega) | exact sh_milk (by omega)) rfl rfl (Nat.le_of_ble_eq_true rfl) (Nat.le_of_eq (Nat.zero_add _)) (Nat.le_of_eq (Nat.zero_add _)) (fun r_105 G_105 h_105 => ?_)
      obtain ⟨rfl, e_105⟩ := h_105
      subst G_105
      refine ar_i2l (pc := 108) d_Mo_next_108 ⟨by omega, by omega⟩ ?_
      refine ar_lor (pc := 109) d_Mo_next_109 ?_
      rw [eo]
      refine ar_putJ (pc := 110) gf_Mo_215 d_Mo_next_110 rfl (by first | rfl | exact sh_wheel (by omega) | exact sh_milk (by omega)) rW ?_
      refine ar_iinc (pc := 113) d_Mo_next_113 rfl rfl (by decide) ?_
      refine ar_goto (pc := 116) 78 d_Mo_next_116 (by decide) ?_
      rotate_left
      -- leaves: stop 78
      · exact ar_loc i1 ⟨rfl, li_i rfl (by omega), trivial⟩
    · have i1 := ih (i + 1) G1 (by omega) (by rw [show min (i + 1) 8 = 8 by omega]; rw [show min i 8 = 8 by omega] at hL; exact hL)
      clear ih kk hL
      refine ar_aload_n (pc := 78) d_Mo_next_78 rfl ?_
      refine ar_iload_n (pc := 79) d_Mo_next_79 rfl ?_
      refine ac_virt (pc := 80) (N := mt_Mo_here) _ _ mv_Mo_here ml_Mo_209 ck_12 d_Mo_next_80 c (by first | rfl | exact sh_wheel (by omega) | exact sh_milk (by omega)) rfl rfl (Nat.le_of_ble_eq_true rfl) (Nat.le_of_eq (Nat.zero_add _)) (Nat.le_of_eq (Nat.zero_add _)) (fun r_80 G_80 h_80 => ?_)
      obtain ⟨rfl, e_80⟩ := h_80
      subst G_80
      refine ac_stat (pc := 83) (N := mt_Mo_isLetter) _ _ sv_Mo_isLetter ml_Mo_225 d_Mo_next_83 cl rfl rfl (Nat.le_of_ble_eq_true rfl) (Nat.le_of_eq (Nat.zero_add _)) (Nat.le_of_eq (Nat.zero_add _)) (fun r_83 G_83 h_83 => ?_)
      obtain ⟨rfl, e_83⟩ := h_83
      subst G_83
      refine ar_if_eq (pc := 86) 119 d_Mo_next_86 (by decide) ⟨by omega, by omega⟩ (fun h_86 => by exfalso; omega) (fun h_86 => ?_)
      refine ar_iload_n (pc := 89) d_Mo_next_89 rfl ?_
      refine ar_bipush (pc := 90) d_Mo_next_90 (by decide) ?_
      refine ar_icmp_ge (pc := 92) 113 d_Mo_next_92 (by decide) ⟨by omega, by omega⟩ ⟨by omega, by omega⟩ (fun h_92 => ?_) (fun h_92 => by exfalso; omega)
      refine ar_iinc (pc := 113) d_Mo_next_113 rfl rfl (by decide) ?_
      refine ar_goto (pc := 116) 78 d_Mo_next_116 (by decide) ?_
      rotate_left
      -- leaves: stop 78
      · exact ar_loc i1 ⟨rfl, li_i rfl (by omega), trivial⟩
theorem lp_next_d (X : gx_T) (d : Nat) {G : mm_T} {B : Nat → Int} {z p l : Nat} {Q : Option av_T → mm_T → Prop} (hF : fx_R G) (hz : mm_I G 60 39 = z) (bb : bb_B B z) (hB : mb_v G = B) (hp : p + l ≤ z) (hl : ∀ i, i < l → is_d (B (p + i)) = 1) (hl2 : is_d (B (p + l)) ≠ 1)
    (kk : ∀ G2, nx_L G G2 p 0 (nb_v B p (min l 6)) → aw_W X mt_Mo_next (d + 2) 187 [(0, some (av_r (some 60))), (2, some (av_i (l : Int)))] [] G2 0 0 Q) : ∀ n i G1, i + n = l → nx_L G G1 p 0 (nb_v B p (min i 6)) → aw_W X mt_Mo_next (d + 2) 144 [(0, some (av_r (some 60))), (2, some (av_i (i : Int)))] [] G1 0 0 Q := by
  have z5 := bb.1
  intro n
  induction n with
  | zero =>
    intro i G1 hi hL
    have hi : i = l := by omega
    subst hi
    obtain ⟨hF1, hz1, hB1⟩ := nb_w hL.1 hF hz hB
    have c := cm_Mo_here X d G1 (k := i) hF1 hz1 bb hB1 hL.1.2.2.2 (by omega) (by omega)
    have ri := bb_r bb (p + i)
    have cl := cm_Mo_isDigit X d G1 (b := B (p + i)) ⟨by omega, by omega⟩
    have l01 := is_d01 (B (p + i))
    have k1 := kk G1 hL
    clear kk
    refine ar_aload_n (pc := 144) d_Mo_next_144 rfl ?_
    refine ar_iload_n (pc := 145) d_Mo_next_145 rfl ?_
    refine ac_virt (pc := 146) (N := mt_Mo_here) _ _ mv_Mo_here ml_Mo_209 ck_12 d_Mo_next_146 c (by first | rfl | exact sh_wheel (by omega) | exact sh_milk (by omega)) rfl rfl (Nat.le_of_ble_eq_true rfl) (Nat.le_of_eq (Nat.zero_add _)) (Nat.le_of_eq (Nat.zero_add _)) (fun r_146 G_146 h_146 => ?_)
    obtain ⟨rfl, e_146⟩ := h_146
    subst G_146
    refine ac_stat (pc := 149) (N := mt_Mo_isDigit) _ _ sv_Mo_isDigit ml_Mo_228 d_Mo_next_149 cl rfl rfl (Nat.le_of_ble_eq_true rfl) (Nat.le_of_eq (Nat.zero_add _)) (Nat.le_of_eq (Nat.zero_add _)) (fun r_149 G_149 h_149 => ?_)
    obtain ⟨rfl, e_149⟩ := h_149
    subst G_149
    refine ar_if_eq (pc := 152) 187 d_Mo_next_152 (by decide) ⟨by omega, by omega⟩ (fun h_152 => ?_) (fun h_152 => by exfalso; omega)
    rotate_left
    -- leaves: stop 187
    · exact ar_loc k1 ⟨rfl, rfl, trivial⟩
  | succ n ih =>
    intro i G1 hi hL
    obtain ⟨hF1, hz1, hB1⟩ := nb_w hL.1 hF hz hB
    have c := cm_Mo_here X d G1 (k := i) hF1 hz1 bb hB1 hL.1.2.2.2 (by omega) (by omega)
    have ri := (is_d1 _).mp (hl i (by omega))
    have cl := cm_Mo_isDigit X d G1 (b := B (p + i)) ⟨by omega, by omega⟩
    have h1 := hl i (by omega)
    have e42 := hL.2.2.2
    by_cases h6 : i < 6
    · have hw := nb_r (B := B) (a := p) i (by omega) (fun k hk => (is_d1 _).mp (hl k (by omega)))
      have hw2 : 0 ≤ nb_v B p i ∧ nb_v B p i < 1000000 := by
        have hi8 : i = 0 ∨ i = 1 ∨ i = 2 ∨ i = 3 ∨ i = 4 ∨ i = 5 := by omega
        generalize nb_v B p i = W at *
        rcases hi8 with rfl | rfl | rfl | rfl | rfl | rfl <;> omega
      rw [show min i 6 = i by omega] at hL e42
      have i1 := ih (i + 1) (ms_I G1 60 42 (10 * nb_v B p i + B (p + i) - 48)) (by omega) (nx_m hL (by rw [show min (i + 1) 6 = i + 1 by omega, nb_v]))
      generalize nb_v B p i = W at *
      clear ih kk hL hw
      refine ar_aload_n (pc := 144) d_Mo_next_144 rfl ?_
      refine ar_iload_n (pc := 145) d_Mo_next_145 rfl ?_
      refine ac_virt (pc := 146) (N := mt_Mo_here) _ _ mv_Mo_here ml_Mo_209 ck_12 d_Mo_next_146 c (by first | rfl | exact sh_wheel (by omega) | exact sh_milk (by omega)) rfl rfl (Nat.le_of_ble_eq_true rfl) (Nat.le_of_eq (Nat.zero_add _)) (Nat.le_of_eq (Nat.zero_add _)) (fun r_146 G_146 h_146 => ?_)
      obtain ⟨rfl, e_146⟩ := h_146
      subst G_146
      refine ac_stat (pc := 149) (N := mt_Mo_isDigit) _ _ sv_Mo_isDigit ml_Mo_228 d_Mo_next_149 cl rfl rfl (Nat.le_of_ble_eq_true rfl) (Nat.le_of_eq (Nat.zero_add _)) (Nat.le_of_eq (Nat.zero_add _)) (fun r_149 G_149 h_149 => ?_)
      obtain ⟨rfl, e_149⟩ := h_149
      subst G_149
      refine ar_if_eq (pc := 152) 187 d_Mo_next_152 (by decide) ⟨by omega, by omega⟩ (fun h_152 => by exfalso; omega) (fun h_152 => ?_)
      refine ar_iload_n (pc := 155) d_Mo_next_155 rfl ?_
      refine ar_bipush (pc := 156) d_Mo_next_156 (by decide) ?_
      refine ar_icmp_ge (pc := 158) 181 d_Mo_next_158 (by decide) ⟨by omega, by omega⟩ ⟨by omega, by omega⟩ (fun h_158 => by exfalso; omega) (fun h_158 => ?_)
      refine ar_aload_n (pc := 161) d_Mo_next_161 rfl ?_
      refine ar_bipush (pc := 162) d_Mo_next_162 (by decide) ?_
      refine ar_aload_n (pc := 164) d_Mo_next_164 rfl ?_
      refine ar_getIv (pc := 165) gf_Mo_219 d_Mo_next_165 (by first | rfl | exact sh_wheel (by omega) | exact sh_milk (by omega)) e42 (fun r_165 => ?_)
      refine ar_imul (pc := 168) d_Mo_next_168 ?_
      refine ar_aload_n (pc := 169) d_Mo_next_169 rfl ?_
      refine ar_iload_n (pc := 170) d_Mo_next_170 rfl ?_
      refine ac_virt (pc := 171) (N := mt_Mo_here) _ _ mv_Mo_here ml_Mo_209 ck_12 d_Mo_next_171 c (by first | rfl | exact sh_wheel (by omega) | exact sh_milk (by omega)) rfl rfl (Nat.le_of_ble_eq_true rfl) (Nat.le_of_eq (Nat.zero_add _)) (Nat.le_of_eq (Nat.zero_add _)) (fun r_171 G_171 h_171 => ?_)
      obtain ⟨rfl, e_171⟩ := h_171
      subst G_171
      refine ar_iadd (pc := 174) d_Mo_next_174 ?_
      refine ar_bipush (pc := 175) d_Mo_next_175 (by decide) ?_
      refine ar_isub (pc := 177) d_Mo_next_177 ?_
      refine ar_putI (pc := 178) gf_Mo_219 d_Mo_next_178 rfl (by first | rfl | exact sh_wheel (by omega) | exact sh_milk (by omega)) ⟨by omega, by omega⟩ ?_
      refine ar_iinc (pc := 181) d_Mo_next_181 rfl rfl (by decide) ?_
      refine ar_goto (pc := 184) 144 d_Mo_next_184 (by decide) ?_
      rotate_left
      -- leaves: stop 144
      · exact ar_loc i1 ⟨rfl, li_i rfl (by omega), trivial⟩
    · have i1 := ih (i + 1) G1 (by omega) (by rw [show min (i + 1) 6 = 6 by omega]; rw [show min i 6 = 6 by omega] at hL; exact hL)
      clear ih kk hL
      refine ar_aload_n (pc := 144) d_Mo_next_144 rfl ?_
      refine ar_iload_n (pc := 145) d_Mo_next_145 rfl ?_
      refine ac_virt (pc := 146) (N := mt_Mo_here) _ _ mv_Mo_here ml_Mo_209 ck_12 d_Mo_next_146 c (by first | rfl | exact sh_wheel (by omega) | exact sh_milk (by omega)) rfl rfl (Nat.le_of_ble_eq_true rfl) (Nat.le_of_eq (Nat.zero_add _)) (Nat.le_of_eq (Nat.zero_add _)) (fun r_146 G_146 h_146 => ?_)
      obtain ⟨rfl, e_146⟩ := h_146
      subst G_146
      refine ac_stat (pc := 149) (N := mt_Mo_isDigit) _ _ sv_Mo_isDigit ml_Mo_228 d_Mo_next_149 cl rfl rfl (Nat.le_of_ble_eq_true rfl) (Nat.le_of_eq (Nat.zero_add _)) (Nat.le_of_eq (Nat.zero_add _)) (fun r_149 G_149 h_149 => ?_)
      obtain ⟨rfl, e_149⟩ := h_149
      subst G_149
      refine ar_if_eq (pc := 152) 187 d_Mo_next_152 (by decide) ⟨by omega, by omega⟩ (fun h_152 => by exfalso; omega) (fun h_152 => ?_)
      refine ar_iload_n (pc := 155) d_Mo_next_155 rfl ?_
      refine ar_bipush (pc := 156) d_Mo_next_156 (by decide) ?_
      refine ar_icmp_ge (pc := 158) 181 d_Mo_next_158 (by decide) ⟨by omega, by omega⟩ ⟨by omega, by omega⟩ (fun h_158 => ?_) (fun h_158 => by exfalso; omega)
      refine ar_iinc (pc := 181) d_Mo_next_181 rfl rfl (by decide) ?_
      refine ar_goto (pc := 184) 144 d_Mo_next_184 (by decide) ?_
      rotate_left
      -- leaves: stop 144
      · exact ar_loc i1 ⟨rfl, li_i rfl (by omega), trivial⟩
theorem nx_i {G G1 : mm_T} {p : Nat} (h : nb_L G G1 p) : nx_L G (ms_I (ms_J (ms_I G1 60 41 (p : Int)) 60 43 0) 60 42 0) p 0 0 := by
  obtain ⟨h1, h2, h3, h4⟩ := h
  refine ⟨⟨h1, fun b j hj => ?_, fun b j hj => ?_, ?_⟩, ?_, rfl, mi_s _ _ _ _⟩
  · rw [mi_n (by omega)]; show mm_I (ms_I G1 60 41 (p : Int)) b j = _; rw [mi_n (by omega)]; exact h2 b j hj
  · show (if b = 60 ∧ j = 43 then 0 else mm_J G1 b j) = _
    rw [if_neg hj]; exact h3 b j hj
  · rw [mi_n (by omega)]; show mm_I (ms_I G1 60 41 (p : Int)) 60 38 = _; rw [mi_n (by omega)]; exact h4
  · rw [mi_n (by omega)]; exact mi_s G1 60 41 (p : Int)
theorem cm_Mo_next (X : gx_T) (d : Nat) (G : mm_T) {B : Nat → Int} {z a : Nat} (hF : fx_R G) (hz : mm_I G 60 39 = z) (bb : bb_B B z) (hB : mb_v G = B) (ha : mm_I G 60 38 = a) (ha2 : a ≤ z) : aw_M X (d + 2) mt_Mo_next [av_r (some 60)] G 0 0 (fun r G' => r = none ∧ nx_F B z G G' (sk_b B z a)) := by
  have z5 := bb.1
  refine aw_enter pf_Mo_next (Nat.le_of_ble_eq_true rfl) ?_
  refine ar_loc (lp_next_b X d (Q := fun r G' => r = none ∧ nx_F B z G G' (sk_b B z a)) hF hz bb hB ha2 ?_ (z - a) a G (by omega) (Nat.le_refl _) (fun k k1 k2 => by omega) ⟨⟨rfl, rfl⟩, fun _ _ _ => rfl, fun _ _ _ => rfl, ha⟩) ⟨rfl, trivial⟩
  intro G2 hb
  have hp := (sk_bp (a := a) bb ha2).2.1
  generalize sk_b B z a = p at *
  have hX := nx_i hb
  have e38 := hb.2.2.2
  have hF2 := (nb_w hb hF hz hB).1
  have c43 := cm_Mo_here X d (ms_I G2 60 41 (p : Int)) (k := 0) (a := p) (by exact hF2) (by exact (nb_w hb hF hz hB).2.1) bb (by exact (nb_w hb hF hz hB).2.2) (by exact e38) hp (by omega)
  rw [show p + 0 = p from Nat.add_zero p] at c43
  have rp := bb_r bb p
  obtain ⟨hF3, hz3, hB3⟩ := nb_w hX.1 hF hz hB
  have cl := cm_Mo_isLetter X d (ms_I (ms_J (ms_I G2 60 41 (p : Int)) 60 43 0) 60 42 0) (b := B p) ⟨by omega, by omega⟩
  have cd := cm_Mo_isDigit X d (ms_I (ms_J (ms_I G2 60 41 (p : Int)) 60 43 0) 60 42 0) (b := B p) ⟨by omega, by omega⟩
  have cs := cm_Mo_isSign X d (ms_I (ms_J (ms_I G2 60 41 (p : Int)) 60 43 0) 60 42 0) (b := B p) ⟨by omega, by omega⟩
  have l01 := is_l01 (B p)
  have d01 := is_d01 (B p)
  have s01 := is_s01 (B p)
  have e38' := hX.1.2.2.2
  suffices hh : aw_W X mt_Mo_next (d + 2) 59 [(0, some (av_r (some 60))), (1, some (av_i (B p))), (2, some (av_i 0))] [] (ms_I (ms_J (ms_I G2 60 41 (p : Int)) 60 43 0) 60 42 0) 0 0 (fun r G' => r = none ∧ nx_F B z G G' p) by
    have hF := hF2
    refine ar_aload_n (pc := 33) d_Mo_next_33 rfl ?_
    refine ar_aload_n (pc := 34) d_Mo_next_34 rfl ?_
    refine ar_getIv (pc := 35) gf_Mo_203 d_Mo_next_35 (by first | rfl | exact sh_wheel (by omega) | exact sh_milk (by omega)) e38 (fun r_35 => ?_)
    refine ar_putI (pc := 38) gf_Mo_212 d_Mo_next_38 rfl (by first | rfl | exact sh_wheel (by omega) | exact sh_milk (by omega)) ⟨by omega, by omega⟩ ?_
    refine ar_aload_n (pc := 41) d_Mo_next_41 rfl ?_
    refine ar_iconst (pc := 42) d_Mo_next_42 ?_
    refine ac_virt (pc := 43) (N := mt_Mo_here) _ _ mv_Mo_here ml_Mo_209 ck_12 d_Mo_next_43 c43 (by first | rfl | exact sh_wheel (by omega) | exact sh_milk (by omega)) rfl rfl (Nat.le_of_ble_eq_true rfl) (Nat.le_of_eq (Nat.zero_add _)) (Nat.le_of_eq (Nat.zero_add _)) (fun r_43 G_43 h_43 => ?_)
    obtain ⟨rfl, e_43⟩ := h_43
    subst G_43
    refine ar_istore_n (pc := 46) d_Mo_next_46 rfl (by decide) ?_
    refine ar_iconst (pc := 47) d_Mo_next_47 ?_
    refine ar_istore_n (pc := 48) d_Mo_next_48 rfl (by decide) ?_
    refine ar_aload_n (pc := 49) d_Mo_next_49 rfl ?_
    refine ar_lconst (pc := 50) 0 d_Mo_next_50 (by decide) ?_
    refine ar_putJ (pc := 51) gf_Mo_215 d_Mo_next_51 rfl (by first | rfl | exact sh_wheel (by omega) | exact sh_milk (by omega)) ⟨by omega, by omega⟩ ?_
    refine ar_aload_n (pc := 54) d_Mo_next_54 rfl ?_
    refine ar_iconst (pc := 55) d_Mo_next_55 ?_
    refine ar_putI (pc := 56) gf_Mo_219 d_Mo_next_56 rfl (by first | rfl | exact sh_wheel (by omega) | exact sh_milk (by omega)) ⟨by omega, by omega⟩ ?_
    rotate_left
    -- leaves: stop 59
    · exact ar_loc hh ⟨rfl, rfl, rfl, trivial⟩
  generalize ms_I (ms_J (ms_I G2 60 41 (p : Int)) 60 43 0) 60 42 0 = G3 at *
  clear c43 hb hF2 e38
  by_cases h1 : B p = -1
  · have hk : tk_k B z p = 301 := by unfold tk_k; rw [if_pos h1]
    have f1 := nx_o (s := 0) (v := (p : Int) + 0) hX (Or.inl ⟨hk, rfl⟩) (fun q => by omega) (fun q1 q2 => absurd hk q2)
    refine ar_iload_n (pc := 59) d_Mo_next_59 rfl ?_
    refine ar_if_ge (pc := 60) 71 d_Mo_next_60 (by decide) ⟨by omega, by omega⟩ (fun h_60 => by exfalso; omega) (fun h_60 => ?_)
    refine ar_aload_n (pc := 63) d_Mo_next_63 rfl ?_
    refine ar_iconst (pc := 64) d_Mo_next_64 ?_
    refine ar_putI (pc := 65) gf_Mo_222 d_Mo_next_65 rfl (by first | rfl | exact sh_wheel (by omega) | exact sh_milk (by omega)) ⟨by omega, by omega⟩ ?_
    refine ar_goto (pc := 68) 234 d_Mo_next_68 (by decide) ?_
    refine ar_aload_n (pc := 234) d_Mo_next_234 rfl ?_
    refine ar_getIv (pc := 235) gf_Mo_222 d_Mo_next_235 (by first | rfl | exact sh_wheel (by omega) | exact sh_milk (by omega)) (show _ = (0 : Int) from mi_s _ _ _ _) (fun r_235 => ?_)
    refine ar_iconst (pc := 238) d_Mo_next_238 ?_
    refine ar_icmp_eq (pc := 239) 252 d_Mo_next_239 (by decide) ⟨by omega, by omega⟩ ⟨by omega, by omega⟩ (fun h_239 => by exfalso; omega) (fun h_239 => ?_)
    refine ar_aload_n (pc := 242) d_Mo_next_242 rfl ?_
    refine ar_dup (pc := 243) d_Mo_next_243 rfl ?_
    refine ar_getIv (pc := 244) gf_Mo_203 d_Mo_next_244 (by first | rfl | exact sh_wheel (by omega) | exact sh_milk (by omega)) (show _ = (p : Int) from e38') (fun r_244 => ?_)
    refine ar_iload_n (pc := 247) d_Mo_next_247 rfl ?_
    refine ar_iadd (pc := 248) d_Mo_next_248 ?_
    refine ar_putI (pc := 249) gf_Mo_203 d_Mo_next_249 rfl (by first | rfl | exact sh_wheel (by omega) | exact sh_milk (by omega)) ⟨by omega, by omega⟩ ?_
    refine ar_ret (pc := 252) d_Mo_next_252 rfl ?_
    rotate_left
    -- leaves: ret 252
    · exact ⟨rfl, f1⟩
  · have hpz : p < z := by
      by_cases q : p < z
      · exact q
      · exact absurd (bb.2.2 p (by omega)) h1
    have rp0 := bb.2.1 p hpz
    have tp := tl_pos bb hpz
    by_cases h2 : is_l (B p) = 1
    · obtain ⟨t1, t2⟩ := tl_l bb hpz h2
      have hk : tk_k B z p = if 8 < tl_n B z p then 300 else wk_v (wv_n (fun i => B (p + i)) (tl_n B z p)) := by unfold tk_k; rw [if_neg h1, if_pos h2]
      have hw := lp_next_w X d (l := tl_n B z p) (Q := fun r G' => r = none ∧ nx_F B z G G' p) hF hz bb hB tp.2 t1 t2 ?_ (tl_n B z p) 0 G3 (by omega) hX
      · skip
        refine ar_iload_n (pc := 59) d_Mo_next_59 rfl ?_
        refine ar_if_ge (pc := 60) 71 d_Mo_next_60 (by decide) ⟨by omega, by omega⟩ (fun h_60 => ?_) (fun h_60 => by exfalso; omega)
        refine ar_iload_n (pc := 71) d_Mo_next_71 rfl ?_
        refine ac_stat (pc := 72) (N := mt_Mo_isLetter) _ _ sv_Mo_isLetter ml_Mo_225 d_Mo_next_72 cl rfl rfl (Nat.le_of_ble_eq_true rfl) (Nat.le_of_eq (Nat.zero_add _)) (Nat.le_of_eq (Nat.zero_add _)) (fun r_72 G_72 h_72 => ?_)
        obtain ⟨rfl, e_72⟩ := h_72
        subst G_72
        refine ar_if_eq (pc := 75) 137 d_Mo_next_75 (by decide) ⟨by omega, by omega⟩ (fun h_75 => by exfalso; omega) (fun h_75 => ?_)
        rotate_left
        -- leaves: stop 78
        · exact ar_loc hw ⟨rfl, rfl, trivial⟩
      · intro G4 hX4
        have e4 := hX4.1.2.2.2
        by_cases h8 : 8 < tl_n B z p
        · rw [if_pos h8] at hk
          have f3 := nx_o3 hX4 hk
          generalize tl_n B z p = l at *
          refine ar_aload_n (pc := 119) d_Mo_next_119 rfl ?_
          refine ar_iload_n (pc := 120) d_Mo_next_120 rfl ?_
          refine ar_bipush (pc := 121) d_Mo_next_121 (by decide) ?_
          refine ar_icmp_le (pc := 123) 130 d_Mo_next_123 (by decide) ⟨by omega, by omega⟩ ⟨by omega, by omega⟩ (fun h_123 => by exfalso; omega) (fun h_123 => ?_)
          refine ar_iconst (pc := 126) d_Mo_next_126 ?_
          refine ar_goto (pc := 127) 131 d_Mo_next_127 (by decide) ?_
          refine ar_putI (pc := 131) gf_Mo_222 d_Mo_next_131 rfl (by first | rfl | exact sh_wheel (by omega) | exact sh_milk (by omega)) ⟨by omega, by omega⟩ ?_
          refine ar_goto (pc := 134) 234 d_Mo_next_134 (by decide) ?_
          refine ar_aload_n (pc := 234) d_Mo_next_234 rfl ?_
          refine ar_getIv (pc := 235) gf_Mo_222 d_Mo_next_235 (by first | rfl | exact sh_wheel (by omega) | exact sh_milk (by omega)) (show _ = (3 : Int) from mi_s _ _ _ _) (fun r_235 => ?_)
          refine ar_iconst (pc := 238) d_Mo_next_238 ?_
          refine ar_icmp_eq (pc := 239) 252 d_Mo_next_239 (by decide) ⟨by omega, by omega⟩ ⟨by omega, by omega⟩ (fun h_239 => ?_) (fun h_239 => by exfalso; omega)
          refine ar_ret (pc := 252) d_Mo_next_252 rfl ?_
          rotate_left
          -- leaves: ret 252
          · exact ⟨rfl, f3⟩
        · rw [if_neg h8] at hk
          rw [show min (tl_n B z p) 8 = tl_n B z p by omega] at hX4
          have hr := wk_r (wv_n (fun i => B (p + i)) (tl_n B z p))
          have f1 := nx_o (s := 1) (v := (p : Int) + (tl_n B z p : Int)) hX4 (Or.inr (Or.inr (Or.inr (Or.inl ⟨by rw [hk]; exact hr, rfl, hk.symm⟩)))) (fun q => by omega) (fun q1 q2 => by omega)
          generalize tl_n B z p = l at *
          refine ar_aload_n (pc := 119) d_Mo_next_119 rfl ?_
          refine ar_iload_n (pc := 120) d_Mo_next_120 rfl ?_
          refine ar_bipush (pc := 121) d_Mo_next_121 (by decide) ?_
          refine ar_icmp_le (pc := 123) 130 d_Mo_next_123 (by decide) ⟨by omega, by omega⟩ ⟨by omega, by omega⟩ (fun h_123 => ?_) (fun h_123 => by exfalso; omega)
          refine ar_iconst (pc := 130) d_Mo_next_130 ?_
          refine ar_putI (pc := 131) gf_Mo_222 d_Mo_next_131 rfl (by first | rfl | exact sh_wheel (by omega) | exact sh_milk (by omega)) ⟨by omega, by omega⟩ ?_
          refine ar_goto (pc := 134) 234 d_Mo_next_134 (by decide) ?_
          refine ar_aload_n (pc := 234) d_Mo_next_234 rfl ?_
          refine ar_getIv (pc := 235) gf_Mo_222 d_Mo_next_235 (by first | rfl | exact sh_wheel (by omega) | exact sh_milk (by omega)) (show _ = (1 : Int) from mi_s _ _ _ _) (fun r_235 => ?_)
          refine ar_iconst (pc := 238) d_Mo_next_238 ?_
          refine ar_icmp_eq (pc := 239) 252 d_Mo_next_239 (by decide) ⟨by omega, by omega⟩ ⟨by omega, by omega⟩ (fun h_239 => by exfalso; omega) (fun h_239 => ?_)
          refine ar_aload_n (pc := 242) d_Mo_next_242 rfl ?_
          refine ar_dup (pc := 243) d_Mo_next_243 rfl ?_
          refine ar_getIv (pc := 244) gf_Mo_203 d_Mo_next_244 (by first | rfl | exact sh_wheel (by omega) | exact sh_milk (by omega)) (show _ = (p : Int) from e4) (fun r_244 => ?_)
          refine ar_iload_n (pc := 247) d_Mo_next_247 rfl ?_
          refine ar_iadd (pc := 248) d_Mo_next_248 ?_
          refine ar_putI (pc := 249) gf_Mo_203 d_Mo_next_249 rfl (by first | rfl | exact sh_wheel (by omega) | exact sh_milk (by omega)) ⟨by omega, by omega⟩ ?_
          refine ar_ret (pc := 252) d_Mo_next_252 rfl ?_
          rotate_left
          -- leaves: ret 252
          · exact ⟨rfl, f1⟩
    · by_cases h3 : is_d (B p) = 1
      · obtain ⟨t1, t2⟩ := tl_d bb hpz h3
        have hk : tk_k B z p = if 6 < tl_n B z p ∨ is_l (B (p + tl_n B z p)) = 1 then 300 else 302 := by unfold tk_k; rw [if_neg h1, if_neg h2, if_pos h3]
        have hw := lp_next_d X d (l := tl_n B z p) (Q := fun r G' => r = none ∧ nx_F B z G G' p) hF hz bb hB tp.2 t1 t2 ?_ (tl_n B z p) 0 G3 (by omega) hX
        · skip
          refine ar_iload_n (pc := 59) d_Mo_next_59 rfl ?_
          refine ar_if_ge (pc := 60) 71 d_Mo_next_60 (by decide) ⟨by omega, by omega⟩ (fun h_60 => ?_) (fun h_60 => by exfalso; omega)
          refine ar_iload_n (pc := 71) d_Mo_next_71 rfl ?_
          refine ac_stat (pc := 72) (N := mt_Mo_isLetter) _ _ sv_Mo_isLetter ml_Mo_225 d_Mo_next_72 cl rfl rfl (Nat.le_of_ble_eq_true rfl) (Nat.le_of_eq (Nat.zero_add _)) (Nat.le_of_eq (Nat.zero_add _)) (fun r_72 G_72 h_72 => ?_)
          obtain ⟨rfl, e_72⟩ := h_72
          subst G_72
          refine ar_if_eq (pc := 75) 137 d_Mo_next_75 (by decide) ⟨by omega, by omega⟩ (fun h_75 => ?_) (fun h_75 => by exfalso; omega)
          refine ar_iload_n (pc := 137) d_Mo_next_137 rfl ?_
          refine ac_stat (pc := 138) (N := mt_Mo_isDigit) _ _ sv_Mo_isDigit ml_Mo_228 d_Mo_next_138 cd rfl rfl (Nat.le_of_ble_eq_true rfl) (Nat.le_of_eq (Nat.zero_add _)) (Nat.le_of_eq (Nat.zero_add _)) (fun r_138 G_138 h_138 => ?_)
          obtain ⟨rfl, e_138⟩ := h_138
          subst G_138
          refine ar_if_eq (pc := 141) 216 d_Mo_next_141 (by decide) ⟨by omega, by omega⟩ (fun h_141 => by exfalso; omega) (fun h_141 => ?_)
          rotate_left
          -- leaves: stop 144
          · exact ar_loc hw ⟨rfl, rfl, trivial⟩
        · intro G4 hX4
          have e4 := hX4.1.2.2.2
          obtain ⟨hF4, hz4, hB4⟩ := nb_w hX4.1 hF hz hB
          have c196 := cm_Mo_here X d G4 (k := tl_n B z p) hF4 hz4 bb hB4 e4 hp (by omega)
          have rq := bb_r bb (p + tl_n B z p)
          have c199 := cm_Mo_isLetter X d G4 (b := B (p + tl_n B z p)) ⟨by omega, by omega⟩
          have l02 := is_l01 (B (p + tl_n B z p))
          by_cases h6 : 6 < tl_n B z p ∨ is_l (B (p + tl_n B z p)) = 1
          · rw [if_pos h6] at hk
            have f3 := nx_o3 hX4 hk
            generalize tl_n B z p = l at *
            refine ar_aload_n (pc := 187) d_Mo_next_187 rfl ?_
            refine ar_iload_n (pc := 188) d_Mo_next_188 rfl ?_
            refine ar_bipush (pc := 189) d_Mo_next_189 (by decide) ?_
            refine ar_icmp_gt (pc := 191) 205 d_Mo_next_191 (by decide) ⟨by omega, by omega⟩ ⟨by omega, by omega⟩ (fun h_191 => ?_) (fun h_191 => ?_)
            refine ar_iconst (pc := 205) d_Mo_next_205 ?_
            refine ar_goto (pc := 206) 210 d_Mo_next_206 (by decide) ?_
            refine ar_putI (pc := 210) gf_Mo_222 d_Mo_next_210 rfl (by first | rfl | exact sh_wheel (by omega) | exact sh_milk (by omega)) ⟨by omega, by omega⟩ ?_
            refine ar_goto (pc := 213) 234 d_Mo_next_213 (by decide) ?_
            refine ar_aload_n (pc := 234) d_Mo_next_234 rfl ?_
            refine ar_getIv (pc := 235) gf_Mo_222 d_Mo_next_235 (by first | rfl | exact sh_wheel (by omega) | exact sh_milk (by omega)) (show _ = (3 : Int) from mi_s _ _ _ _) (fun r_235 => ?_)
            refine ar_iconst (pc := 238) d_Mo_next_238 ?_
            refine ar_icmp_eq (pc := 239) 252 d_Mo_next_239 (by decide) ⟨by omega, by omega⟩ ⟨by omega, by omega⟩ (fun h_239 => ?_) (fun h_239 => by exfalso; omega)
            refine ar_ret (pc := 252) d_Mo_next_252 rfl ?_
            rotate_left
            refine ar_aload_n (pc := 194) d_Mo_next_194 rfl ?_
            refine ar_iload_n (pc := 195) d_Mo_next_195 rfl ?_
            refine ac_virt (pc := 196) (N := mt_Mo_here) _ _ mv_Mo_here ml_Mo_209 ck_12 d_Mo_next_196 c196 (by first | rfl | exact sh_wheel (by omega) | exact sh_milk (by omega)) rfl rfl (Nat.le_of_ble_eq_true rfl) (Nat.le_of_eq (Nat.zero_add _)) (Nat.le_of_eq (Nat.zero_add _)) (fun r_196 G_196 h_196 => ?_)
            obtain ⟨rfl, e_196⟩ := h_196
            subst G_196
            refine ac_stat (pc := 199) (N := mt_Mo_isLetter) _ _ sv_Mo_isLetter ml_Mo_225 d_Mo_next_199 c199 rfl rfl (Nat.le_of_ble_eq_true rfl) (Nat.le_of_eq (Nat.zero_add _)) (Nat.le_of_eq (Nat.zero_add _)) (fun r_199 G_199 h_199 => ?_)
            obtain ⟨rfl, e_199⟩ := h_199
            subst G_199
            refine ar_if_eq (pc := 202) 209 d_Mo_next_202 (by decide) ⟨by omega, by omega⟩ (fun h_202 => ?_) (fun h_202 => ?_)
            rotate_left
            refine ar_iconst (pc := 205) d_Mo_next_205 ?_
            refine ar_goto (pc := 206) 210 d_Mo_next_206 (by decide) ?_
            refine ar_putI (pc := 210) gf_Mo_222 d_Mo_next_210 rfl (by first | rfl | exact sh_wheel (by omega) | exact sh_milk (by omega)) ⟨by omega, by omega⟩ ?_
            refine ar_goto (pc := 213) 234 d_Mo_next_213 (by decide) ?_
            refine ar_aload_n (pc := 234) d_Mo_next_234 rfl ?_
            refine ar_getIv (pc := 235) gf_Mo_222 d_Mo_next_235 (by first | rfl | exact sh_wheel (by omega) | exact sh_milk (by omega)) (show _ = (3 : Int) from mi_s _ _ _ _) (fun r_235 => ?_)
            refine ar_iconst (pc := 238) d_Mo_next_238 ?_
            refine ar_icmp_eq (pc := 239) 252 d_Mo_next_239 (by decide) ⟨by omega, by omega⟩ ⟨by omega, by omega⟩ (fun h_239 => ?_) (fun h_239 => by exfalso; omega)
            refine ar_ret (pc := 252) d_Mo_next_252 rfl ?_
            rotate_left
            -- leaves: ret 252, stop 209, ret 252
            · exact ⟨rfl, f3⟩
            · exfalso; omega
            · exact ⟨rfl, f3⟩
          · rw [if_neg h6] at hk
            rw [show min (tl_n B z p) 6 = tl_n B z p by omega] at hX4
            have hm : nb_v B p (tl_n B z p) = tk_m B z p := by unfold tk_m; rw [if_pos hk]
            have f1 := nx_o (s := 2) (v := (p : Int) + (tl_n B z p : Int)) hX4 (Or.inr (Or.inr (Or.inl ⟨hk, rfl⟩))) (fun q => hm) (fun q1 q2 => by omega)
            generalize tl_n B z p = l at *
            refine ar_aload_n (pc := 187) d_Mo_next_187 rfl ?_
            refine ar_iload_n (pc := 188) d_Mo_next_188 rfl ?_
            refine ar_bipush (pc := 189) d_Mo_next_189 (by decide) ?_
            refine ar_icmp_gt (pc := 191) 205 d_Mo_next_191 (by decide) ⟨by omega, by omega⟩ ⟨by omega, by omega⟩ (fun h_191 => by exfalso; omega) (fun h_191 => ?_)
            refine ar_aload_n (pc := 194) d_Mo_next_194 rfl ?_
            refine ar_iload_n (pc := 195) d_Mo_next_195 rfl ?_
            refine ac_virt (pc := 196) (N := mt_Mo_here) _ _ mv_Mo_here ml_Mo_209 ck_12 d_Mo_next_196 c196 (by first | rfl | exact sh_wheel (by omega) | exact sh_milk (by omega)) rfl rfl (Nat.le_of_ble_eq_true rfl) (Nat.le_of_eq (Nat.zero_add _)) (Nat.le_of_eq (Nat.zero_add _)) (fun r_196 G_196 h_196 => ?_)
            obtain ⟨rfl, e_196⟩ := h_196
            subst G_196
            refine ac_stat (pc := 199) (N := mt_Mo_isLetter) _ _ sv_Mo_isLetter ml_Mo_225 d_Mo_next_199 c199 rfl rfl (Nat.le_of_ble_eq_true rfl) (Nat.le_of_eq (Nat.zero_add _)) (Nat.le_of_eq (Nat.zero_add _)) (fun r_199 G_199 h_199 => ?_)
            obtain ⟨rfl, e_199⟩ := h_199
            subst G_199
            refine ar_if_eq (pc := 202) 209 d_Mo_next_202 (by decide) ⟨by omega, by omega⟩ (fun h_202 => ?_) (fun h_202 => by exfalso; omega)
            refine ar_iconst (pc := 209) d_Mo_next_209 ?_
            refine ar_putI (pc := 210) gf_Mo_222 d_Mo_next_210 rfl (by first | rfl | exact sh_wheel (by omega) | exact sh_milk (by omega)) ⟨by omega, by omega⟩ ?_
            refine ar_goto (pc := 213) 234 d_Mo_next_213 (by decide) ?_
            refine ar_aload_n (pc := 234) d_Mo_next_234 rfl ?_
            refine ar_getIv (pc := 235) gf_Mo_222 d_Mo_next_235 (by first | rfl | exact sh_wheel (by omega) | exact sh_milk (by omega)) (show _ = (2 : Int) from mi_s _ _ _ _) (fun r_235 => ?_)
            refine ar_iconst (pc := 238) d_Mo_next_238 ?_
            refine ar_icmp_eq (pc := 239) 252 d_Mo_next_239 (by decide) ⟨by omega, by omega⟩ ⟨by omega, by omega⟩ (fun h_239 => by exfalso; omega) (fun h_239 => ?_)
            refine ar_aload_n (pc := 242) d_Mo_next_242 rfl ?_
            refine ar_dup (pc := 243) d_Mo_next_243 rfl ?_
            refine ar_getIv (pc := 244) gf_Mo_203 d_Mo_next_244 (by first | rfl | exact sh_wheel (by omega) | exact sh_milk (by omega)) (show _ = (p : Int) from e4) (fun r_244 => ?_)
            refine ar_iload_n (pc := 247) d_Mo_next_247 rfl ?_
            refine ar_iadd (pc := 248) d_Mo_next_248 ?_
            refine ar_putI (pc := 249) gf_Mo_203 d_Mo_next_249 rfl (by first | rfl | exact sh_wheel (by omega) | exact sh_milk (by omega)) ⟨by omega, by omega⟩ ?_
            refine ar_ret (pc := 252) d_Mo_next_252 rfl ?_
            rotate_left
            -- leaves: ret 252
            · exact ⟨rfl, f1⟩
      · have hk : tk_k B z p = if is_s (B p) = 1 then B p else 300 := by unfold tk_k; rw [if_neg h1, if_neg h2, if_neg h3]
        have ht : tl_n B z p = 1 := by unfold tl_n; rw [if_neg h2, if_neg h3]
        by_cases h4 : is_s (B p) = 1
        · rw [if_pos h4] at hk
          have sg : B p = 59 ∨ B p = 60 ∨ B p = 62 ∨ B p = 61 ∨ B p = 43 ∨ B p = 45 ∨ B p = 40 ∨ B p = 41 := by
            unfold is_s at h4
            by_cases q : B p = 59 ∨ B p = 60 ∨ B p = 62 ∨ B p = 61 ∨ B p = 43 ∨ B p = 45 ∨ B p = 40 ∨ B p = 41
            · exact q
            · rw [if_neg q] at h4; omega
          have f1 := nx_o (s := B p) (v := (p : Int) + 1) hX (Or.inr (Or.inr (Or.inr (Or.inr ⟨by rw [hk]; exact h4, hk.symm⟩)))) (fun q => by omega) (fun q1 q2 => by omega)
          refine ar_iload_n (pc := 59) d_Mo_next_59 rfl ?_
          refine ar_if_ge (pc := 60) 71 d_Mo_next_60 (by decide) ⟨by omega, by omega⟩ (fun h_60 => ?_) (fun h_60 => by exfalso; omega)
          refine ar_iload_n (pc := 71) d_Mo_next_71 rfl ?_
          refine ac_stat (pc := 72) (N := mt_Mo_isLetter) _ _ sv_Mo_isLetter ml_Mo_225 d_Mo_next_72 cl rfl rfl (Nat.le_of_ble_eq_true rfl) (Nat.le_of_eq (Nat.zero_add _)) (Nat.le_of_eq (Nat.zero_add _)) (fun r_72 G_72 h_72 => ?_)
          obtain ⟨rfl, e_72⟩ := h_72
          subst G_72
          refine ar_if_eq (pc := 75) 137 d_Mo_next_75 (by decide) ⟨by omega, by omega⟩ (fun h_75 => ?_) (fun h_75 => by exfalso; omega)
          refine ar_iload_n (pc := 137) d_Mo_next_137 rfl ?_
          refine ac_stat (pc := 138) (N := mt_Mo_isDigit) _ _ sv_Mo_isDigit ml_Mo_228 d_Mo_next_138 cd rfl rfl (Nat.le_of_ble_eq_true rfl) (Nat.le_of_eq (Nat.zero_add _)) (Nat.le_of_eq (Nat.zero_add _)) (fun r_138 G_138 h_138 => ?_)
          obtain ⟨rfl, e_138⟩ := h_138
          subst G_138
          refine ar_if_eq (pc := 141) 216 d_Mo_next_141 (by decide) ⟨by omega, by omega⟩ (fun h_141 => ?_) (fun h_141 => by exfalso; omega)
          refine ar_iconst (pc := 216) d_Mo_next_216 ?_
          refine ar_istore_n (pc := 217) d_Mo_next_217 rfl (by decide) ?_
          refine ar_aload_n (pc := 218) d_Mo_next_218 rfl ?_
          refine ar_iload_n (pc := 219) d_Mo_next_219 rfl ?_
          refine ac_stat (pc := 220) (N := mt_Mo_isSign) _ _ sv_Mo_isSign ml_Mo_231 d_Mo_next_220 cs rfl rfl (Nat.le_of_ble_eq_true rfl) (Nat.le_of_eq (Nat.zero_add _)) (Nat.le_of_eq (Nat.zero_add _)) (fun r_220 G_220 h_220 => ?_)
          obtain ⟨rfl, e_220⟩ := h_220
          subst G_220
          refine ar_if_eq (pc := 223) 230 d_Mo_next_223 (by decide) ⟨by omega, by omega⟩ (fun h_223 => by exfalso; omega) (fun h_223 => ?_)
          refine ar_iload_n (pc := 226) d_Mo_next_226 rfl ?_
          refine ar_goto (pc := 227) 231 d_Mo_next_227 (by decide) ?_
          refine ar_putI (pc := 231) gf_Mo_222 d_Mo_next_231 rfl (by first | rfl | exact sh_wheel (by omega) | exact sh_milk (by omega)) ⟨by omega, by omega⟩ ?_
          refine ar_aload_n (pc := 234) d_Mo_next_234 rfl ?_
          refine ar_getIv (pc := 235) gf_Mo_222 d_Mo_next_235 (by first | rfl | exact sh_wheel (by omega) | exact sh_milk (by omega)) (show _ = B p from mi_s _ _ _ _) (fun r_235 => ?_)
          refine ar_iconst (pc := 238) d_Mo_next_238 ?_
          refine ar_icmp_eq (pc := 239) 252 d_Mo_next_239 (by decide) ⟨by omega, by omega⟩ ⟨by omega, by omega⟩ (fun h_239 => by exfalso; omega) (fun h_239 => ?_)
          refine ar_aload_n (pc := 242) d_Mo_next_242 rfl ?_
          refine ar_dup (pc := 243) d_Mo_next_243 rfl ?_
          refine ar_getIv (pc := 244) gf_Mo_203 d_Mo_next_244 (by first | rfl | exact sh_wheel (by omega) | exact sh_milk (by omega)) (show _ = (p : Int) from e38') (fun r_244 => ?_)
          refine ar_iload_n (pc := 247) d_Mo_next_247 rfl ?_
          refine ar_iadd (pc := 248) d_Mo_next_248 ?_
          refine ar_putI (pc := 249) gf_Mo_203 d_Mo_next_249 rfl (by first | rfl | exact sh_wheel (by omega) | exact sh_milk (by omega)) ⟨by omega, by omega⟩ ?_
          refine ar_ret (pc := 252) d_Mo_next_252 rfl ?_
          rotate_left
          -- leaves: ret 252
          · exact ⟨rfl, f1⟩
        · rw [if_neg h4] at hk
          have f3 := nx_o3 hX hk
          refine ar_iload_n (pc := 59) d_Mo_next_59 rfl ?_
          refine ar_if_ge (pc := 60) 71 d_Mo_next_60 (by decide) ⟨by omega, by omega⟩ (fun h_60 => ?_) (fun h_60 => by exfalso; omega)
          refine ar_iload_n (pc := 71) d_Mo_next_71 rfl ?_
          refine ac_stat (pc := 72) (N := mt_Mo_isLetter) _ _ sv_Mo_isLetter ml_Mo_225 d_Mo_next_72 cl rfl rfl (Nat.le_of_ble_eq_true rfl) (Nat.le_of_eq (Nat.zero_add _)) (Nat.le_of_eq (Nat.zero_add _)) (fun r_72 G_72 h_72 => ?_)
          obtain ⟨rfl, e_72⟩ := h_72
          subst G_72
          refine ar_if_eq (pc := 75) 137 d_Mo_next_75 (by decide) ⟨by omega, by omega⟩ (fun h_75 => ?_) (fun h_75 => by exfalso; omega)
          refine ar_iload_n (pc := 137) d_Mo_next_137 rfl ?_
          refine ac_stat (pc := 138) (N := mt_Mo_isDigit) _ _ sv_Mo_isDigit ml_Mo_228 d_Mo_next_138 cd rfl rfl (Nat.le_of_ble_eq_true rfl) (Nat.le_of_eq (Nat.zero_add _)) (Nat.le_of_eq (Nat.zero_add _)) (fun r_138 G_138 h_138 => ?_)
          obtain ⟨rfl, e_138⟩ := h_138
          subst G_138
          refine ar_if_eq (pc := 141) 216 d_Mo_next_141 (by decide) ⟨by omega, by omega⟩ (fun h_141 => ?_) (fun h_141 => by exfalso; omega)
          refine ar_iconst (pc := 216) d_Mo_next_216 ?_
          refine ar_istore_n (pc := 217) d_Mo_next_217 rfl (by decide) ?_
          refine ar_aload_n (pc := 218) d_Mo_next_218 rfl ?_
          refine ar_iload_n (pc := 219) d_Mo_next_219 rfl ?_
          refine ac_stat (pc := 220) (N := mt_Mo_isSign) _ _ sv_Mo_isSign ml_Mo_231 d_Mo_next_220 cs rfl rfl (Nat.le_of_ble_eq_true rfl) (Nat.le_of_eq (Nat.zero_add _)) (Nat.le_of_eq (Nat.zero_add _)) (fun r_220 G_220 h_220 => ?_)
          obtain ⟨rfl, e_220⟩ := h_220
          subst G_220
          refine ar_if_eq (pc := 223) 230 d_Mo_next_223 (by decide) ⟨by omega, by omega⟩ (fun h_223 => ?_) (fun h_223 => by exfalso; omega)
          refine ar_iconst (pc := 230) d_Mo_next_230 ?_
          refine ar_putI (pc := 231) gf_Mo_222 d_Mo_next_231 rfl (by first | rfl | exact sh_wheel (by omega) | exact sh_milk (by omega)) ⟨by omega, by omega⟩ ?_
          refine ar_aload_n (pc := 234) d_Mo_next_234 rfl ?_
          refine ar_getIv (pc := 235) gf_Mo_222 d_Mo_next_235 (by first | rfl | exact sh_wheel (by omega) | exact sh_milk (by omega)) (show _ = (3 : Int) from mi_s _ _ _ _) (fun r_235 => ?_)
          refine ar_iconst (pc := 238) d_Mo_next_238 ?_
          refine ar_icmp_eq (pc := 239) 252 d_Mo_next_239 (by decide) ⟨by omega, by omega⟩ ⟨by omega, by omega⟩ (fun h_239 => ?_) (fun h_239 => by exfalso; omega)
          refine ar_ret (pc := 252) d_Mo_next_252 rfl ?_
          rotate_left
          -- leaves: ret 252
          · exact ⟨rfl, f3⟩
