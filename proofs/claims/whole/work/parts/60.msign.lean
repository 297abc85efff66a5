/-! ===== the reference's reader: signs, an e ===== -/
theorem mo_sg {B : Nat → Int} {z : Nat} {G2 : mm_T} {i : Nat} (h : mo_T B z G2 i) (hk : 40 ≤ tn_K B z i ∧ tn_K B z i ≤ 62) : mm_I G2 60 40 = tn_K B z i := by
  have t2 := h.2.1
  unfold tw_R at t2
  omega
theorem mo_top {B : Nat → Int} {z : Nat} {G G2 : mm_T} {i v : Nat} {W o : List Int} (h : mo_F B z G G2 i v W o) : (W = [] ∧ mm_I G2 60 45 = 0) ∨ ∃ w t, W = w :: t ∧ mm_I G2 60 45 = (t.length : Nat) + 1 ∧ mm_I G2 88 t.length = w := by
  cases W with
  | nil => exact Or.inl ⟨rfl, h.2.2.2.2.2.1.1⟩
  | cons w t => exact Or.inr ⟨w, t, rfl, by rw [h.2.2.2.2.2.1.1]; simp, h.2.2.2.2.2.1.2.1.1⟩
theorem cm_Mo_sign (X : gx_T) (d : Nat) {B : Nat → Int} {z n : Nat} {G G1 : mm_T} {v0 : Nat} {o0 : List Int} {i v : Nat} {W o : List Int} (hF : fx_R G) (hz : mm_I G 60 39 = z) (bb : bb_B B z) (hB : mb_v G = B) (hE : te_E B z n) (h0 : mm_I G 60 36 = 0) (h : mo_F B z G G1 i v W o) (hj : jo_I n v0 o0 2 i v W o) : aw_M X (d + 4) mt_Mo_sign [av_r (some 60)] G1 0 0 (mx_P B z G (px_g (tn_K B z) (pl_i B z) i v W o)) := by
  have hW := jo_len hj
  obtain ⟨-, hwz, ⟨hdp, hdp'⟩, -, hv80, hin, hlen⟩ := hj
  have n5 := hE.1
  have hT := h.2.2.2.1
  have kr := tk_r (B := B) (z := z) (a := ps_k B z i) bb
  change 0 ≤ tn_K B z i ∧ tn_K B z i ≤ 303 at kr
  have hF1 : fx_R G1 := fun a k b q => by rw [h.1.1]; exact hF a k b q
  have t2 := hT.2.1
  unfold tw_R at t2
  rw [is_sv] at t2
  have w2 := cm_Mo_wrong X (d + 2) (k := 2) h h0 (by omega)
  have cAnd := cm_Mo_isWord X (d + 2) (w := 6) (c := 6385252) hT (by omega) rfl
  have cOr := cm_Mo_isWord X (d + 2) (w := 5) (c := 28530) hT (by omega) rfl
  have cOp := cm_Mo_isOpen X (d + 2) hF h (by omega)
  have b2 := fq_r (tn_K B z) i (k := 2) (by omega)
  have hlt := fun q => te_n hE hin (i := i) q
  obtain ⟨Q, q1, q2, q3, -⟩ := pp_sx 46 W o
  have ql := congrArg List.length q1
  have qd := congrArg dp_n q1
  rw [List.length_append] at ql
  rw [dp_a] at qd
  have cset := cm_Mo_settle' X d (l := 46) hF (by omega) h hwz (by omega) (by omega)
  have cnx := fun G2 W2 o2 (q : mo_F B z G G2 i v W2 o2) hl => cm_Mo_nx X (d + 1) hF hz bb hB hE q hl
  generalize hs : mm_I G1 60 40 = s at *
  have hFG := hF
  clear hF
  have hF := hF1
  by_cases c1 : tn_K B z i = 43 ∨ tn_K B z i = 45
  · have hl := hlt (by omega)
    have hsv : s = tn_K B z i := by omega
    have hPX : px_g (tn_K B z) (pl_i B z) i v W o = .inr (1, i + 1, v, (if tn_K B z i = 43 then 46 else 47) :: (pp_s 46 W o).1, (pp_s 46 W o).2) := by unfold px_g; rw [if_pos c1]
    rw [hPX]
    have chold := fun G2 (q : mo_F B z G G2 i v (pp_s 46 W o).1 (pp_s 46 W o).2) w (hw : 40 ≤ w ∧ w ≤ 48) => cm_Mo_hold X (d + 2) (w := w) hFG q hw (by omega) (by omega)
    clear cAnd cOr cOp w2 q2 q3 hPX
    generalize (pp_s 46 W o).1 = W1 at *
    generalize (pp_s 46 W o).2 = o1 at *
    by_cases k43 : tn_K B z i = 43
    · rw [if_pos k43]
      refine aw_enter pf_Mo_sign (Nat.le_of_ble_eq_true rfl) ?_
      refine ar_aload_n (pc := 0) d_Mo_sign_0 rfl ?_
      refine ar_getIv (pc := 1) gf_Mo_222 d_Mo_sign_1 (by first | rfl | exact sh_wheel (by omega) | exact sh_milk (by omega)) hs (fun r_1 => ?_)
      refine ar_bipush (pc := 4) d_Mo_sign_4 (by decide) ?_
      refine ar_icmp_eq (pc := 6) 18 d_Mo_sign_6 (by decide) ⟨by omega, by omega⟩ ⟨by omega, by omega⟩ (fun h_6 => ?_) (fun h_6 => by exfalso; omega)
      refine ar_aload_n (pc := 18) d_Mo_sign_18 rfl ?_
      refine ar_bipush (pc := 19) d_Mo_sign_19 (by decide) ?_
      refine ac_virt (pc := 21) (N := mt_Mo_settle) _ _ mv_Mo_settle ml_Mo_303 ck_12 d_Mo_sign_21 cset (by first | rfl | exact sh_wheel (by omega) | exact sh_milk (by omega)) rfl rfl (Nat.le_of_ble_eq_true rfl) (Nat.le_of_eq (Nat.zero_add _)) (Nat.le_of_eq (Nat.zero_add _)) (fun r_21 G_21 h_21 => ?_)
      obtain ⟨rfl, q21⟩ := h_21
      refine ar_aload_n (pc := 24) d_Mo_sign_24 rfl ?_
      refine ar_aload_n (pc := 25) d_Mo_sign_25 rfl ?_
      refine ar_getIv (pc := 26) gf_Mo_222 d_Mo_sign_26 (by first | rfl | exact sh_wheel (by omega) | exact sh_milk (by omega)) (mo_sg q21.2.2.2.1 (by omega)) (fun r_26 => ?_)
      refine ar_bipush (pc := 29) d_Mo_sign_29 (by decide) ?_
      refine ar_icmp_ne (pc := 31) 39 d_Mo_sign_31 (by decide) ⟨by omega, by omega⟩ ⟨by omega, by omega⟩ (fun h_31 => by exfalso; omega) (fun h_31 => ?_)
      refine ar_bipush (pc := 34) d_Mo_sign_34 (by decide) ?_
      refine ar_goto (pc := 36) 41 d_Mo_sign_36 (by decide) ?_
      refine ac_virt (pc := 41) (N := mt_Mo_hold) _ _ mv_Mo_hold ml_Mo_321 ck_12 d_Mo_sign_41 (chold _ q21 46 (by omega)) (by first | rfl | exact sh_wheel (by omega) | exact sh_milk (by omega)) rfl rfl (Nat.le_of_ble_eq_true rfl) (Nat.le_of_eq (Nat.zero_add _)) (Nat.le_of_eq (Nat.zero_add _)) (fun r_41 G_41 h_41 => ?_)
      obtain ⟨rfl, q41⟩ := h_41
      refine ar_aload_n (pc := 44) d_Mo_sign_44 rfl ?_
      refine ac_virt (pc := 45) (N := mt_Mo_next) _ _ mv_Mo_next ml_Mo_318 ck_12 d_Mo_sign_45 (cnx _ _ _ q41 hl) (by first | rfl | exact sh_wheel (by omega) | exact sh_milk (by omega)) rfl rfl (Nat.le_of_ble_eq_true rfl) (Nat.le_of_eq (Nat.zero_add _)) (Nat.le_of_eq (Nat.zero_add _)) (fun r_45 G_45 h_45 => ?_)
      obtain ⟨rfl, q45⟩ := h_45
      refine ar_iconst (pc := 48) d_Mo_sign_48 ?_
      refine ar_iret (pc := 49) d_Mo_sign_49 rfl ?_
      rotate_left
      -- leaves: ret 49
      · exact Or.inl ⟨1, i + 1, v, 46 :: W1, o1, rfl, rfl, q45⟩
    · rw [if_neg k43]
      refine aw_enter pf_Mo_sign (Nat.le_of_ble_eq_true rfl) ?_
      refine ar_aload_n (pc := 0) d_Mo_sign_0 rfl ?_
      refine ar_getIv (pc := 1) gf_Mo_222 d_Mo_sign_1 (by first | rfl | exact sh_wheel (by omega) | exact sh_milk (by omega)) hs (fun r_1 => ?_)
      refine ar_bipush (pc := 4) d_Mo_sign_4 (by decide) ?_
      refine ar_icmp_eq (pc := 6) 18 d_Mo_sign_6 (by decide) ⟨by omega, by omega⟩ ⟨by omega, by omega⟩ (fun h_6 => by exfalso; omega) (fun h_6 => ?_)
      refine ar_aload_n (pc := 9) d_Mo_sign_9 rfl ?_
      refine ar_getIv (pc := 10) gf_Mo_222 d_Mo_sign_10 (by first | rfl | exact sh_wheel (by omega) | exact sh_milk (by omega)) hs (fun r_10 => ?_)
      refine ar_bipush (pc := 13) d_Mo_sign_13 (by decide) ?_
      refine ar_icmp_ne (pc := 15) 50 d_Mo_sign_15 (by decide) ⟨by omega, by omega⟩ ⟨by omega, by omega⟩ (fun h_15 => by exfalso; omega) (fun h_15 => ?_)
      refine ar_aload_n (pc := 18) d_Mo_sign_18 rfl ?_
      refine ar_bipush (pc := 19) d_Mo_sign_19 (by decide) ?_
      refine ac_virt (pc := 21) (N := mt_Mo_settle) _ _ mv_Mo_settle ml_Mo_303 ck_12 d_Mo_sign_21 cset (by first | rfl | exact sh_wheel (by omega) | exact sh_milk (by omega)) rfl rfl (Nat.le_of_ble_eq_true rfl) (Nat.le_of_eq (Nat.zero_add _)) (Nat.le_of_eq (Nat.zero_add _)) (fun r_21 G_21 h_21 => ?_)
      obtain ⟨rfl, q21⟩ := h_21
      refine ar_aload_n (pc := 24) d_Mo_sign_24 rfl ?_
      refine ar_aload_n (pc := 25) d_Mo_sign_25 rfl ?_
      refine ar_getIv (pc := 26) gf_Mo_222 d_Mo_sign_26 (by first | rfl | exact sh_wheel (by omega) | exact sh_milk (by omega)) (mo_sg q21.2.2.2.1 (by omega)) (fun r_26 => ?_)
      refine ar_bipush (pc := 29) d_Mo_sign_29 (by decide) ?_
      refine ar_icmp_ne (pc := 31) 39 d_Mo_sign_31 (by decide) ⟨by omega, by omega⟩ ⟨by omega, by omega⟩ (fun h_31 => ?_) (fun h_31 => by exfalso; omega)
      refine ar_bipush (pc := 39) d_Mo_sign_39 (by decide) ?_
      refine ac_virt (pc := 41) (N := mt_Mo_hold) _ _ mv_Mo_hold ml_Mo_321 ck_12 d_Mo_sign_41 (chold _ q21 47 (by omega)) (by first | rfl | exact sh_wheel (by omega) | exact sh_milk (by omega)) rfl rfl (Nat.le_of_ble_eq_true rfl) (Nat.le_of_eq (Nat.zero_add _)) (Nat.le_of_eq (Nat.zero_add _)) (fun r_41 G_41 h_41 => ?_)
      obtain ⟨rfl, q41⟩ := h_41
      refine ar_aload_n (pc := 44) d_Mo_sign_44 rfl ?_
      refine ac_virt (pc := 45) (N := mt_Mo_next) _ _ mv_Mo_next ml_Mo_318 ck_12 d_Mo_sign_45 (cnx _ _ _ q41 hl) (by first | rfl | exact sh_wheel (by omega) | exact sh_milk (by omega)) rfl rfl (Nat.le_of_ble_eq_true rfl) (Nat.le_of_eq (Nat.zero_add _)) (Nat.le_of_eq (Nat.zero_add _)) (fun r_45 G_45 h_45 => ?_)
      obtain ⟨rfl, q45⟩ := h_45
      refine ar_iconst (pc := 48) d_Mo_sign_48 ?_
      refine ar_iret (pc := 49) d_Mo_sign_49 rfl ?_
      rotate_left
      -- leaves: ret 49
      · exact Or.inl ⟨1, i + 1, v, 47 :: W1, o1, rfl, rfl, q45⟩
  · by_cases c2 : tn_K B z i = 61 ∨ tn_K B z i = 60 ∨ tn_K B z i = 62
    · have hl := hlt (by omega)
      have hsv : s = tn_K B z i := by omega
      have hPX : px_g (tn_K B z) (pl_i B z) i v W o = if 43 ≤ (pp_s 46 W o).1.headD (-1) ∧ (pp_s 46 W o).1.headD (-1) ≤ 45 then pb_v (tn_K B z) (pl_i B z) i 2 else .inr (1, i + 1, v, cm_v (tn_K B z i) :: (pp_s 46 W o).1, (pp_s 46 W o).2) := by unfold px_g; rw [if_neg c1, if_pos c2]
      rw [hPX]
      have chold := fun G2 (q : mo_F B z G G2 i v (pp_s 46 W o).1 (pp_s 46 W o).2) w (hw : 40 ≤ w ∧ w ≤ 48) => cm_Mo_hold X (d + 2) (w := w) hFG q hw (by omega) (by omega)
      have cwr := fun G2 (q : mo_F B z G G2 i v (pp_s 46 W o).1 (pp_s 46 W o).2) => cm_Mo_wrong X (d + 2) (k := 2) q h0 (by omega)
      have f36 := fun G2 (q : mo_F B z G G2 i v (pp_s 46 W o).1 (pp_s 46 W o).2) => (show mm_I G2 60 36 = 0 by rw [q.2.1 _ _ (by omega) (by omega) (by omega) (by omega)]; exact h0)
      clear cAnd cOr cOp w2 q2 q3 hPX
      have go : ∀ G2 (top : Int), mo_F B z G G2 i v (pp_s 46 W o).1 (pp_s 46 W o).2 → top = (pp_s 46 W o).1.headD (-1) → i3_in top → aw_W X mt_Mo_sign (d + 4) 106 [(0, some (av_r (some 60))), (1, some (av_i top))] [] G2 0 0 (mx_P B z G (if 43 ≤ (pp_s 46 W o).1.headD (-1) ∧ (pp_s 46 W o).1.headD (-1) ≤ 45 then pb_v (tn_K B z) (pl_i B z) i 2 else .inr (1, i + 1, v, cm_v (tn_K B z i) :: (pp_s 46 W o).1, (pp_s 46 W o).2))) := by
        intro G2 top q ht hr
        rw [← ht]
        have e40 := mo_sg q.2.2.2.1 (by omega)
        have e36 := f36 G2 q
        have ch := chold G2 q
        have cw := cwr G2 q
        clear chold cwr f36 cset
        generalize (pp_s 46 W o).1 = W1 at *
        generalize (pp_s 46 W o).2 = o1 at *
        by_cases hb : 43 ≤ top ∧ top ≤ 45
        · rw [if_pos hb]
          refine ar_iload_n (pc := 106) d_Mo_sign_106 rfl ?_
          refine ar_bipush (pc := 107) d_Mo_sign_107 (by decide) ?_
          refine ar_icmp_lt (pc := 109) 123 d_Mo_sign_109 (by decide) ⟨by omega, by omega⟩ ⟨by omega, by omega⟩ (fun h_109 => by exfalso; omega) (fun h_109 => ?_)
          refine ar_iload_n (pc := 112) d_Mo_sign_112 rfl ?_
          refine ar_bipush (pc := 113) d_Mo_sign_113 (by decide) ?_
          refine ar_icmp_gt (pc := 115) 123 d_Mo_sign_115 (by decide) ⟨by omega, by omega⟩ ⟨by omega, by omega⟩ (fun h_115 => by exfalso; omega) (fun h_115 => ?_)
          refine ar_aload_n (pc := 118) d_Mo_sign_118 rfl ?_
          refine ar_iconst (pc := 119) d_Mo_sign_119 ?_
          refine ac_virt (pc := 120) (N := mt_Mo_wrong) _ _ mv_Mo_wrong ml_Mo_309 ck_12 d_Mo_sign_120 cw (by first | rfl | exact sh_wheel (by omega) | exact sh_milk (by omega)) rfl rfl (Nat.le_of_ble_eq_true rfl) (Nat.le_of_eq (Nat.zero_add _)) (Nat.le_of_eq (Nat.zero_add _)) (fun r_120 G_120 h_120 => ?_)
          obtain ⟨rfl, q120⟩ := h_120
          refine ar_aload_n (pc := 123) d_Mo_sign_123 rfl ?_
          refine ar_getIv (pc := 124) gf_Mo_234 d_Mo_sign_124 (by first | rfl | exact sh_wheel (by omega) | exact sh_milk (by omega)) (mw_e q120) (fun r_124 => ?_)
          refine ar_if_le (pc := 127) 132 d_Mo_sign_127 (by decide) ⟨by omega, by omega⟩ (fun h_127 => by exfalso; omega) (fun h_127 => ?_)
          refine ar_iconst (pc := 130) d_Mo_sign_130 ?_
          refine ar_iret (pc := 131) d_Mo_sign_131 rfl ?_
          rotate_left
          -- leaves: ret 131
          · exact Or.inr ⟨_, _, 2, rfl, b2, rfl, ⟨by omega, by omega⟩, q120⟩
        · rw [if_neg hb]
          have mid : aw_W X mt_Mo_sign (d + 4) 123 [(0, some (av_r (some 60)))] [] G2 0 0 (mx_P B z G (.inr (1, i + 1, v, cm_v (tn_K B z i) :: W1, o1))) := by
            unfold cm_v
            rcases c2 with k | k | k
            · rw [if_pos k]
              refine ar_aload_n (pc := 123) d_Mo_sign_123 rfl ?_
              refine ar_getIv (pc := 124) gf_Mo_234 d_Mo_sign_124 (by first | rfl | exact sh_wheel (by omega) | exact sh_milk (by omega)) e36 (fun r_124 => ?_)
              refine ar_if_le (pc := 127) 132 d_Mo_sign_127 (by decide) ⟨by omega, by omega⟩ (fun h_127 => ?_) (fun h_127 => by exfalso; omega)
              refine ar_aload_n (pc := 132) d_Mo_sign_132 rfl ?_
              refine ar_aload_n (pc := 133) d_Mo_sign_133 rfl ?_
              refine ar_getIv (pc := 134) gf_Mo_222 d_Mo_sign_134 (by first | rfl | exact sh_wheel (by omega) | exact sh_milk (by omega)) e40 (fun r_134 => ?_)
              refine ar_bipush (pc := 137) d_Mo_sign_137 (by decide) ?_
              refine ar_icmp_ne (pc := 139) 147 d_Mo_sign_139 (by decide) ⟨by omega, by omega⟩ ⟨by omega, by omega⟩ (fun h_139 => by exfalso; omega) (fun h_139 => ?_)
              refine ar_bipush (pc := 142) d_Mo_sign_142 (by decide) ?_
              refine ar_goto (pc := 144) 163 d_Mo_sign_144 (by decide) ?_
              refine ac_virt (pc := 163) (N := mt_Mo_hold) _ _ mv_Mo_hold ml_Mo_321 ck_12 d_Mo_sign_163 (ch 43 (by omega)) (by first | rfl | exact sh_wheel (by omega) | exact sh_milk (by omega)) rfl rfl (Nat.le_of_ble_eq_true rfl) (Nat.le_of_eq (Nat.zero_add _)) (Nat.le_of_eq (Nat.zero_add _)) (fun r_163 G_163 h_163 => ?_)
              obtain ⟨rfl, q163⟩ := h_163
              refine ar_aload_n (pc := 166) d_Mo_sign_166 rfl ?_
              refine ac_virt (pc := 167) (N := mt_Mo_next) _ _ mv_Mo_next ml_Mo_318 ck_12 d_Mo_sign_167 (cnx _ _ _ q163 hl) (by first | rfl | exact sh_wheel (by omega) | exact sh_milk (by omega)) rfl rfl (Nat.le_of_ble_eq_true rfl) (Nat.le_of_eq (Nat.zero_add _)) (Nat.le_of_eq (Nat.zero_add _)) (fun r_167 G_167 h_167 => ?_)
              obtain ⟨rfl, q167⟩ := h_167
              refine ar_iconst (pc := 170) d_Mo_sign_170 ?_
              refine ar_iret (pc := 171) d_Mo_sign_171 rfl ?_
              rotate_left
              -- leaves: ret 171
              · exact Or.inl ⟨1, i + 1, v, 43 :: W1, o1, rfl, rfl, q167⟩
            · rw [if_neg (by omega), if_pos k]
              refine ar_aload_n (pc := 123) d_Mo_sign_123 rfl ?_
              refine ar_getIv (pc := 124) gf_Mo_234 d_Mo_sign_124 (by first | rfl | exact sh_wheel (by omega) | exact sh_milk (by omega)) e36 (fun r_124 => ?_)
              refine ar_if_le (pc := 127) 132 d_Mo_sign_127 (by decide) ⟨by omega, by omega⟩ (fun h_127 => ?_) (fun h_127 => by exfalso; omega)
              refine ar_aload_n (pc := 132) d_Mo_sign_132 rfl ?_
              refine ar_aload_n (pc := 133) d_Mo_sign_133 rfl ?_
              refine ar_getIv (pc := 134) gf_Mo_222 d_Mo_sign_134 (by first | rfl | exact sh_wheel (by omega) | exact sh_milk (by omega)) e40 (fun r_134 => ?_)
              refine ar_bipush (pc := 137) d_Mo_sign_137 (by decide) ?_
              refine ar_icmp_ne (pc := 139) 147 d_Mo_sign_139 (by decide) ⟨by omega, by omega⟩ ⟨by omega, by omega⟩ (fun h_139 => ?_) (fun h_139 => by exfalso; omega)
              refine ar_aload_n (pc := 147) d_Mo_sign_147 rfl ?_
              refine ar_getIv (pc := 148) gf_Mo_222 d_Mo_sign_148 (by first | rfl | exact sh_wheel (by omega) | exact sh_milk (by omega)) e40 (fun r_148 => ?_)
              refine ar_bipush (pc := 151) d_Mo_sign_151 (by decide) ?_
              refine ar_icmp_ne (pc := 153) 161 d_Mo_sign_153 (by decide) ⟨by omega, by omega⟩ ⟨by omega, by omega⟩ (fun h_153 => by exfalso; omega) (fun h_153 => ?_)
              refine ar_bipush (pc := 156) d_Mo_sign_156 (by decide) ?_
              refine ar_goto (pc := 158) 163 d_Mo_sign_158 (by decide) ?_
              refine ac_virt (pc := 163) (N := mt_Mo_hold) _ _ mv_Mo_hold ml_Mo_321 ck_12 d_Mo_sign_163 (ch 44 (by omega)) (by first | rfl | exact sh_wheel (by omega) | exact sh_milk (by omega)) rfl rfl (Nat.le_of_ble_eq_true rfl) (Nat.le_of_eq (Nat.zero_add _)) (Nat.le_of_eq (Nat.zero_add _)) (fun r_163 G_163 h_163 => ?_)
              obtain ⟨rfl, q163⟩ := h_163
              refine ar_aload_n (pc := 166) d_Mo_sign_166 rfl ?_
              refine ac_virt (pc := 167) (N := mt_Mo_next) _ _ mv_Mo_next ml_Mo_318 ck_12 d_Mo_sign_167 (cnx _ _ _ q163 hl) (by first | rfl | exact sh_wheel (by omega) | exact sh_milk (by omega)) rfl rfl (Nat.le_of_ble_eq_true rfl) (Nat.le_of_eq (Nat.zero_add _)) (Nat.le_of_eq (Nat.zero_add _)) (fun r_167 G_167 h_167 => ?_)
              obtain ⟨rfl, q167⟩ := h_167
              refine ar_iconst (pc := 170) d_Mo_sign_170 ?_
              refine ar_iret (pc := 171) d_Mo_sign_171 rfl ?_
              rotate_left
              -- leaves: ret 171
              · exact Or.inl ⟨1, i + 1, v, 44 :: W1, o1, rfl, rfl, q167⟩
            · rw [if_neg (by omega), if_neg (by omega)]
              refine ar_aload_n (pc := 123) d_Mo_sign_123 rfl ?_
              refine ar_getIv (pc := 124) gf_Mo_234 d_Mo_sign_124 (by first | rfl | exact sh_wheel (by omega) | exact sh_milk (by omega)) e36 (fun r_124 => ?_)
              refine ar_if_le (pc := 127) 132 d_Mo_sign_127 (by decide) ⟨by omega, by omega⟩ (fun h_127 => ?_) (fun h_127 => by exfalso; omega)
              refine ar_aload_n (pc := 132) d_Mo_sign_132 rfl ?_
              refine ar_aload_n (pc := 133) d_Mo_sign_133 rfl ?_
              refine ar_getIv (pc := 134) gf_Mo_222 d_Mo_sign_134 (by first | rfl | exact sh_wheel (by omega) | exact sh_milk (by omega)) e40 (fun r_134 => ?_)
              refine ar_bipush (pc := 137) d_Mo_sign_137 (by decide) ?_
              refine ar_icmp_ne (pc := 139) 147 d_Mo_sign_139 (by decide) ⟨by omega, by omega⟩ ⟨by omega, by omega⟩ (fun h_139 => ?_) (fun h_139 => by exfalso; omega)
              refine ar_aload_n (pc := 147) d_Mo_sign_147 rfl ?_
              refine ar_getIv (pc := 148) gf_Mo_222 d_Mo_sign_148 (by first | rfl | exact sh_wheel (by omega) | exact sh_milk (by omega)) e40 (fun r_148 => ?_)
              refine ar_bipush (pc := 151) d_Mo_sign_151 (by decide) ?_
              refine ar_icmp_ne (pc := 153) 161 d_Mo_sign_153 (by decide) ⟨by omega, by omega⟩ ⟨by omega, by omega⟩ (fun h_153 => ?_) (fun h_153 => by exfalso; omega)
              refine ar_bipush (pc := 161) d_Mo_sign_161 (by decide) ?_
              refine ac_virt (pc := 163) (N := mt_Mo_hold) _ _ mv_Mo_hold ml_Mo_321 ck_12 d_Mo_sign_163 (ch 45 (by omega)) (by first | rfl | exact sh_wheel (by omega) | exact sh_milk (by omega)) rfl rfl (Nat.le_of_ble_eq_true rfl) (Nat.le_of_eq (Nat.zero_add _)) (Nat.le_of_eq (Nat.zero_add _)) (fun r_163 G_163 h_163 => ?_)
              obtain ⟨rfl, q163⟩ := h_163
              refine ar_aload_n (pc := 166) d_Mo_sign_166 rfl ?_
              refine ac_virt (pc := 167) (N := mt_Mo_next) _ _ mv_Mo_next ml_Mo_318 ck_12 d_Mo_sign_167 (cnx _ _ _ q163 hl) (by first | rfl | exact sh_wheel (by omega) | exact sh_milk (by omega)) rfl rfl (Nat.le_of_ble_eq_true rfl) (Nat.le_of_eq (Nat.zero_add _)) (Nat.le_of_eq (Nat.zero_add _)) (fun r_167 G_167 h_167 => ?_)
              obtain ⟨rfl, q167⟩ := h_167
              refine ar_iconst (pc := 170) d_Mo_sign_170 ?_
              refine ar_iret (pc := 171) d_Mo_sign_171 rfl ?_
              rotate_left
              -- leaves: ret 171
              · exact Or.inl ⟨1, i + 1, v, 45 :: W1, o1, rfl, rfl, q167⟩
          refine ar_iload_n (pc := 106) d_Mo_sign_106 rfl ?_
          refine ar_bipush (pc := 107) d_Mo_sign_107 (by decide) ?_
          refine ar_icmp_lt (pc := 109) 123 d_Mo_sign_109 (by decide) ⟨by omega, by omega⟩ ⟨by omega, by omega⟩ (fun h_109 => ?_) (fun h_109 => ?_)
          rotate_left
          refine ar_iload_n (pc := 112) d_Mo_sign_112 rfl ?_
          refine ar_bipush (pc := 113) d_Mo_sign_113 (by decide) ?_
          refine ar_icmp_gt (pc := 115) 123 d_Mo_sign_115 (by decide) ⟨by omega, by omega⟩ ⟨by omega, by omega⟩ (fun h_115 => ?_) (fun h_115 => ?_)
          rotate_left
          rotate_left
          -- leaves: stop 123, stop 123, stop 118
          all_goals first | (exfalso; omega) | exact ar_loc mid ⟨rfl, trivial⟩
      have go2 : ∀ G2, mo_F B z G G2 i v (pp_s 46 W o).1 (pp_s 46 W o).2 → aw_W X mt_Mo_sign (d + 4) 83 [(0, some (av_r (some 60)))] [] G2 0 0 (mx_P B z G (if 43 ≤ (pp_s 46 W o).1.headD (-1) ∧ (pp_s 46 W o).1.headD (-1) ≤ 45 then pb_v (tn_K B z) (pl_i B z) i 2 else .inr (1, i + 1, v, cm_v (tn_K B z i) :: (pp_s 46 W o).1, (pp_s 46 W o).2))) := by
        intro G2 q
        have hF2 : fx_R G2 := fun a k b q9 => by rw [q.1.1]; exact hFG a k b q9
        rcases mo_top q with ⟨e1, e45⟩ | ⟨w, t, e1, e45, e88⟩
        · have g := go G2 (-1) q (by rw [e1]; rfl) ⟨by omega, by omega⟩
          clear go
          refine ar_aload_n (pc := 83) d_Mo_sign_83 rfl ?_
          refine ar_getIv (pc := 84) gf_Mo_276 d_Mo_sign_84 (by first | rfl | exact sh_wheel (by omega) | exact sh_milk (by omega)) e45 (fun r_84 => ?_)
          refine ar_if_ne (pc := 87) 94 d_Mo_sign_87 (by decide) ⟨by omega, by omega⟩ (fun h_87 => by exfalso; omega) (fun h_87 => ?_)
          refine ar_iconst (pc := 90) d_Mo_sign_90 ?_
          refine ar_goto (pc := 91) 105 d_Mo_sign_91 (by decide) ?_
          refine ar_istore_n (pc := 105) d_Mo_sign_105 rfl (by decide) ?_
          rotate_left
          -- leaves: stop 106
          · exact ar_loc g ⟨rfl, rfl, trivial⟩
        · have hwz1 : 40 ≤ w ∧ w ≤ 48 := hwz w (by rw [q1, e1]; exact List.mem_append_right _ List.mem_cons_self)
          have g := go G2 w q (by rw [e1]; rfl) ⟨by omega, by omega⟩
          have tl : t.length < 400 := by rw [e1] at ql; rw [List.length_cons] at ql; omega
          clear go
          have hF := hF2
          refine ar_aload_n (pc := 83) d_Mo_sign_83 rfl ?_
          refine ar_getIv (pc := 84) gf_Mo_276 d_Mo_sign_84 (by first | rfl | exact sh_wheel (by omega) | exact sh_milk (by omega)) e45 (fun r_84 => ?_)
          refine ar_if_ne (pc := 87) 94 d_Mo_sign_87 (by decide) ⟨by omega, by omega⟩ (fun h_87 => ?_) (fun h_87 => by exfalso; omega)
          refine ar_aload_n (pc := 94) d_Mo_sign_94 rfl ?_
          refine ar_getR (pc := 95) gf_Mo_96 d_Mo_sign_95 (by first | rfl | exact sh_wheel (by omega) | exact sh_milk (by omega)) (hF _ _ _ rfl) ?_
          refine ar_aload_n (pc := 98) d_Mo_sign_98 rfl ?_
          refine ar_getIv (pc := 99) gf_Mo_276 d_Mo_sign_99 (by first | rfl | exact sh_wheel (by omega) | exact sh_milk (by omega)) e45 (fun r_99 => ?_)
          refine ar_iconst (pc := 102) d_Mo_sign_102 ?_
          refine ar_isub (pc := 103) d_Mo_sign_103 ?_
          refine ar_ialdv (pc := 104) d_Mo_sign_104 rfl (t.length) (by omega) (by omega) e88 (fun r_104 => ?_)
          refine ar_istore_n (pc := 105) d_Mo_sign_105 rfl (by decide) ?_
          rotate_left
          -- leaves: stop 106
          · exact ar_loc g ⟨rfl, rfl, trivial⟩
      clear go cnx chold cwr f36
      refine aw_enter pf_Mo_sign (Nat.le_of_ble_eq_true rfl) ?_
      refine ar_aload_n (pc := 0) d_Mo_sign_0 rfl ?_
      refine ar_getIv (pc := 1) gf_Mo_222 d_Mo_sign_1 (by first | rfl | exact sh_wheel (by omega) | exact sh_milk (by omega)) hs (fun r_1 => ?_)
      refine ar_bipush (pc := 4) d_Mo_sign_4 (by decide) ?_
      refine ar_icmp_eq (pc := 6) 18 d_Mo_sign_6 (by decide) ⟨by omega, by omega⟩ ⟨by omega, by omega⟩ (fun h_6 => by exfalso; omega) (fun h_6 => ?_)
      refine ar_aload_n (pc := 9) d_Mo_sign_9 rfl ?_
      refine ar_getIv (pc := 10) gf_Mo_222 d_Mo_sign_10 (by first | rfl | exact sh_wheel (by omega) | exact sh_milk (by omega)) hs (fun r_10 => ?_)
      refine ar_bipush (pc := 13) d_Mo_sign_13 (by decide) ?_
      refine ar_icmp_ne (pc := 15) 50 d_Mo_sign_15 (by decide) ⟨by omega, by omega⟩ ⟨by omega, by omega⟩ (fun h_15 => ?_) (fun h_15 => by exfalso; omega)
      refine ar_aload_n (pc := 50) d_Mo_sign_50 rfl ?_
      refine ar_getIv (pc := 51) gf_Mo_222 d_Mo_sign_51 (by first | rfl | exact sh_wheel (by omega) | exact sh_milk (by omega)) hs (fun r_51 => ?_)
      refine ar_bipush (pc := 54) d_Mo_sign_54 (by decide) ?_
      refine ar_icmp_eq (pc := 56) 77 d_Mo_sign_56 (by decide) ⟨by omega, by omega⟩ ⟨by omega, by omega⟩ (fun h_56 => ?_) (fun h_56 => ?_)
      refine ar_aload_n (pc := 77) d_Mo_sign_77 rfl ?_
      refine ar_bipush (pc := 78) d_Mo_sign_78 (by decide) ?_
      refine ac_virt (pc := 80) (N := mt_Mo_settle) _ _ mv_Mo_settle ml_Mo_303 ck_12 d_Mo_sign_80 cset (by first | rfl | exact sh_wheel (by omega) | exact sh_milk (by omega)) rfl rfl (Nat.le_of_ble_eq_true rfl) (Nat.le_of_eq (Nat.zero_add _)) (Nat.le_of_eq (Nat.zero_add _)) (fun r_80 G_80 h_80 => ?_)
      obtain ⟨rfl, q80⟩ := h_80
      rotate_left
      refine ar_aload_n (pc := 59) d_Mo_sign_59 rfl ?_
      refine ar_getIv (pc := 60) gf_Mo_222 d_Mo_sign_60 (by first | rfl | exact sh_wheel (by omega) | exact sh_milk (by omega)) hs (fun r_60 => ?_)
      refine ar_bipush (pc := 63) d_Mo_sign_63 (by decide) ?_
      refine ar_icmp_eq (pc := 65) 77 d_Mo_sign_65 (by decide) ⟨by omega, by omega⟩ ⟨by omega, by omega⟩ (fun h_65 => ?_) (fun h_65 => ?_)
      refine ar_aload_n (pc := 77) d_Mo_sign_77 rfl ?_
      refine ar_bipush (pc := 78) d_Mo_sign_78 (by decide) ?_
      refine ac_virt (pc := 80) (N := mt_Mo_settle) _ _ mv_Mo_settle ml_Mo_303 ck_12 d_Mo_sign_80 cset (by first | rfl | exact sh_wheel (by omega) | exact sh_milk (by omega)) rfl rfl (Nat.le_of_ble_eq_true rfl) (Nat.le_of_eq (Nat.zero_add _)) (Nat.le_of_eq (Nat.zero_add _)) (fun r_80 G_80 h_80 => ?_)
      obtain ⟨rfl, q80⟩ := h_80
      rotate_left
      refine ar_aload_n (pc := 68) d_Mo_sign_68 rfl ?_
      refine ar_getIv (pc := 69) gf_Mo_222 d_Mo_sign_69 (by first | rfl | exact sh_wheel (by omega) | exact sh_milk (by omega)) hs (fun r_69 => ?_)
      refine ar_bipush (pc := 72) d_Mo_sign_72 (by decide) ?_
      refine ar_icmp_ne (pc := 74) 172 d_Mo_sign_74 (by decide) ⟨by omega, by omega⟩ ⟨by omega, by omega⟩ (fun h_74 => ?_) (fun h_74 => ?_)
      rotate_left
      refine ar_aload_n (pc := 77) d_Mo_sign_77 rfl ?_
      refine ar_bipush (pc := 78) d_Mo_sign_78 (by decide) ?_
      refine ac_virt (pc := 80) (N := mt_Mo_settle) _ _ mv_Mo_settle ml_Mo_303 ck_12 d_Mo_sign_80 cset (by first | rfl | exact sh_wheel (by omega) | exact sh_milk (by omega)) rfl rfl (Nat.le_of_ble_eq_true rfl) (Nat.le_of_eq (Nat.zero_add _)) (Nat.le_of_eq (Nat.zero_add _)) (fun r_80 G_80 h_80 => ?_)
      obtain ⟨rfl, q80⟩ := h_80
      rotate_left
      -- leaves: stop 83, stop 83, stop 172, stop 83
      all_goals first | (exfalso; omega) | exact ar_loc (go2 _ q80) ⟨rfl, trivial⟩
    · have hs62 : s ≠ 43 ∧ s ≠ 45 ∧ s ≠ 61 ∧ s ≠ 60 ∧ s ≠ 62 ∧ i3_in s := by omega
      by_cases c3 : tn_K B z i = 6 ∨ tn_K B z i = 5
      · have hl := hlt (by omega)
        have hPX : px_g (tn_K B z) (pl_i B z) i v W o = .inr (0, i + 1, v, (if tn_K B z i = 6 then 42 else 41) :: (pp_o (if tn_K B z i = 6 then 1 else 0) W o).1, (pp_o (if tn_K B z i = 6 then 1 else 0) W o).2) := by unfold px_g; rw [if_neg c1, if_neg c2, if_pos c3]
        rw [hPX]
        obtain ⟨Q2, r1, r2, r3⟩ := pp_ox (if tn_K B z i = 6 then 1 else 0) W o
        have rl := congrArg List.length r1
        have rd := congrArg dp_n r1
        rw [List.length_append] at rl
        rw [dp_a] at rd
        have cso := fun a (ha : a = 0 ∨ a = 1) => cm_Mo_settleOnes X d (a := a) hFG ha h hwz (by omega) (by omega)
        have chold := fun G2 W2 o2 (q : mo_F B z G G2 i v W2 o2) (hl1 : W2.length < 400) (hd1 : dp_n W2 ≤ 100) w (hw : 40 ≤ w ∧ w ≤ 48) => cm_Mo_hold X (d + 2) (w := w) hFG q hw hl1 hd1
        clear cset cOp w2 q2 q3 hPX r2 r3
        by_cases k6 : tn_K B z i = 6
        · rw [if_pos k6] at rl rd
          rw [if_pos k6, if_pos k6]
          have cs := cso 1 (by omega)
          rw [if_pos (by omega)] at cAnd
          generalize (pp_o 1 W o).1 = W1 at *
          generalize (pp_o 1 W o).2 = o1 at *
          refine aw_enter pf_Mo_sign (Nat.le_of_ble_eq_true rfl) ?_
          refine ar_aload_n (pc := 0) d_Mo_sign_0 rfl ?_
          refine ar_getIv (pc := 1) gf_Mo_222 d_Mo_sign_1 (by first | rfl | exact sh_wheel (by omega) | exact sh_milk (by omega)) hs (fun r_1 => ?_)
          refine ar_bipush (pc := 4) d_Mo_sign_4 (by decide) ?_
          refine ar_icmp_eq (pc := 6) 18 d_Mo_sign_6 (by decide) ⟨by omega, by omega⟩ ⟨by omega, by omega⟩ (fun h_6 => by exfalso; omega) (fun h_6 => ?_)
          refine ar_aload_n (pc := 9) d_Mo_sign_9 rfl ?_
          refine ar_getIv (pc := 10) gf_Mo_222 d_Mo_sign_10 (by first | rfl | exact sh_wheel (by omega) | exact sh_milk (by omega)) hs (fun r_10 => ?_)
          refine ar_bipush (pc := 13) d_Mo_sign_13 (by decide) ?_
          refine ar_icmp_ne (pc := 15) 50 d_Mo_sign_15 (by decide) ⟨by omega, by omega⟩ ⟨by omega, by omega⟩ (fun h_15 => ?_) (fun h_15 => by exfalso; omega)
          refine ar_aload_n (pc := 50) d_Mo_sign_50 rfl ?_
          refine ar_getIv (pc := 51) gf_Mo_222 d_Mo_sign_51 (by first | rfl | exact sh_wheel (by omega) | exact sh_milk (by omega)) hs (fun r_51 => ?_)
          refine ar_bipush (pc := 54) d_Mo_sign_54 (by decide) ?_
          refine ar_icmp_eq (pc := 56) 77 d_Mo_sign_56 (by decide) ⟨by omega, by omega⟩ ⟨by omega, by omega⟩ (fun h_56 => by exfalso; omega) (fun h_56 => ?_)
          refine ar_aload_n (pc := 59) d_Mo_sign_59 rfl ?_
          refine ar_getIv (pc := 60) gf_Mo_222 d_Mo_sign_60 (by first | rfl | exact sh_wheel (by omega) | exact sh_milk (by omega)) hs (fun r_60 => ?_)
          refine ar_bipush (pc := 63) d_Mo_sign_63 (by decide) ?_
          refine ar_icmp_eq (pc := 65) 77 d_Mo_sign_65 (by decide) ⟨by omega, by omega⟩ ⟨by omega, by omega⟩ (fun h_65 => by exfalso; omega) (fun h_65 => ?_)
          refine ar_aload_n (pc := 68) d_Mo_sign_68 rfl ?_
          refine ar_getIv (pc := 69) gf_Mo_222 d_Mo_sign_69 (by first | rfl | exact sh_wheel (by omega) | exact sh_milk (by omega)) hs (fun r_69 => ?_)
          refine ar_bipush (pc := 72) d_Mo_sign_72 (by decide) ?_
          refine ar_icmp_ne (pc := 74) 172 d_Mo_sign_74 (by decide) ⟨by omega, by omega⟩ ⟨by omega, by omega⟩ (fun h_74 => ?_) (fun h_74 => by exfalso; omega)
          refine ar_aload_n (pc := 172) d_Mo_sign_172 rfl ?_
          refine ar_ldc2 (pc := 173) (6385252) kj_Mo_249 d_Mo_sign_173 (by decide) ?_
          refine ac_virt (pc := 176) (N := mt_Mo_isWord) _ _ mv_Mo_isWord ml_Mo_288 ck_12 d_Mo_sign_176 cAnd (by first | rfl | exact sh_wheel (by omega) | exact sh_milk (by omega)) rfl rfl (Nat.le_of_ble_eq_true rfl) (Nat.le_of_eq (Nat.zero_add _)) (Nat.le_of_eq (Nat.zero_add _)) (fun r_176 G_176 h_176 => ?_)
          obtain ⟨rfl, e_176⟩ := h_176
          subst G_176
          refine ar_if_ne (pc := 179) 192 d_Mo_sign_179 (by decide) ⟨by omega, by omega⟩ (fun h_179 => ?_) (fun h_179 => by exfalso; omega)
          refine ar_aload_n (pc := 192) d_Mo_sign_192 rfl ?_
          refine ar_ldc2 (pc := 193) (6385252) kj_Mo_249 d_Mo_sign_193 (by decide) ?_
          refine ac_virt (pc := 196) (N := mt_Mo_isWord) _ _ mv_Mo_isWord ml_Mo_288 ck_12 d_Mo_sign_196 cAnd (by first | rfl | exact sh_wheel (by omega) | exact sh_milk (by omega)) rfl rfl (Nat.le_of_ble_eq_true rfl) (Nat.le_of_eq (Nat.zero_add _)) (Nat.le_of_eq (Nat.zero_add _)) (fun r_196 G_196 h_196 => ?_)
          obtain ⟨rfl, e_196⟩ := h_196
          subst G_196
          refine ar_istore_n (pc := 199) d_Mo_sign_199 rfl (by decide) ?_
          refine ar_aload_n (pc := 200) d_Mo_sign_200 rfl ?_
          refine ar_iload_n (pc := 201) d_Mo_sign_201 rfl ?_
          refine ac_virt (pc := 202) (N := mt_Mo_settleOnes) _ _ mv_Mo_settleOnes ml_Mo_324 ck_12 d_Mo_sign_202 cs (by first | rfl | exact sh_wheel (by omega) | exact sh_milk (by omega)) rfl rfl (Nat.le_of_ble_eq_true rfl) (Nat.le_of_eq (Nat.zero_add _)) (Nat.le_of_eq (Nat.zero_add _)) (fun r_202 G_202 h_202 => ?_)
          obtain ⟨rfl, q202⟩ := h_202
          refine ar_aload_n (pc := 205) d_Mo_sign_205 rfl ?_
          refine ar_iload_n (pc := 206) d_Mo_sign_206 rfl ?_
          refine ar_if_eq (pc := 207) 215 d_Mo_sign_207 (by decide) ⟨by omega, by omega⟩ (fun h_207 => by exfalso; omega) (fun h_207 => ?_)
          refine ar_bipush (pc := 210) d_Mo_sign_210 (by decide) ?_
          refine ar_goto (pc := 212) 217 d_Mo_sign_212 (by decide) ?_
          refine ac_virt (pc := 217) (N := mt_Mo_hold) _ _ mv_Mo_hold ml_Mo_321 ck_12 d_Mo_sign_217 (chold _ _ _ q202 (by omega) (by omega) 42 (by omega)) (by first | rfl | exact sh_wheel (by omega) | exact sh_milk (by omega)) rfl rfl (Nat.le_of_ble_eq_true rfl) (Nat.le_of_eq (Nat.zero_add _)) (Nat.le_of_eq (Nat.zero_add _)) (fun r_217 G_217 h_217 => ?_)
          obtain ⟨rfl, q217⟩ := h_217
          refine ar_aload_n (pc := 220) d_Mo_sign_220 rfl ?_
          refine ac_virt (pc := 221) (N := mt_Mo_next) _ _ mv_Mo_next ml_Mo_318 ck_12 d_Mo_sign_221 (cnx _ _ _ q217 hl) (by first | rfl | exact sh_wheel (by omega) | exact sh_milk (by omega)) rfl rfl (Nat.le_of_ble_eq_true rfl) (Nat.le_of_eq (Nat.zero_add _)) (Nat.le_of_eq (Nat.zero_add _)) (fun r_221 G_221 h_221 => ?_)
          obtain ⟨rfl, q221⟩ := h_221
          refine ar_iconst (pc := 224) d_Mo_sign_224 ?_
          refine ar_iret (pc := 225) d_Mo_sign_225 rfl ?_
          rotate_left
          -- leaves: ret 225
          · exact Or.inl ⟨0, i + 1, v, 42 :: W1, o1, rfl, rfl, q221⟩
        · rw [if_neg k6] at rl rd
          rw [if_neg k6, if_neg k6]
          have cs := cso 0 (by omega)
          rw [if_neg (by omega)] at cAnd
          rw [if_pos (by omega)] at cOr
          generalize (pp_o 0 W o).1 = W1 at *
          generalize (pp_o 0 W o).2 = o1 at *
          refine aw_enter pf_Mo_sign (Nat.le_of_ble_eq_true rfl) ?_
          refine ar_aload_n (pc := 0) d_Mo_sign_0 rfl ?_
          refine ar_getIv (pc := 1) gf_Mo_222 d_Mo_sign_1 (by first | rfl | exact sh_wheel (by omega) | exact sh_milk (by omega)) hs (fun r_1 => ?_)
          refine ar_bipush (pc := 4) d_Mo_sign_4 (by decide) ?_
          refine ar_icmp_eq (pc := 6) 18 d_Mo_sign_6 (by decide) ⟨by omega, by omega⟩ ⟨by omega, by omega⟩ (fun h_6 => by exfalso; omega) (fun h_6 => ?_)
          refine ar_aload_n (pc := 9) d_Mo_sign_9 rfl ?_
          refine ar_getIv (pc := 10) gf_Mo_222 d_Mo_sign_10 (by first | rfl | exact sh_wheel (by omega) | exact sh_milk (by omega)) hs (fun r_10 => ?_)
          refine ar_bipush (pc := 13) d_Mo_sign_13 (by decide) ?_
          refine ar_icmp_ne (pc := 15) 50 d_Mo_sign_15 (by decide) ⟨by omega, by omega⟩ ⟨by omega, by omega⟩ (fun h_15 => ?_) (fun h_15 => by exfalso; omega)
          refine ar_aload_n (pc := 50) d_Mo_sign_50 rfl ?_
          refine ar_getIv (pc := 51) gf_Mo_222 d_Mo_sign_51 (by first | rfl | exact sh_wheel (by omega) | exact sh_milk (by omega)) hs (fun r_51 => ?_)
          refine ar_bipush (pc := 54) d_Mo_sign_54 (by decide) ?_
          refine ar_icmp_eq (pc := 56) 77 d_Mo_sign_56 (by decide) ⟨by omega, by omega⟩ ⟨by omega, by omega⟩ (fun h_56 => by exfalso; omega) (fun h_56 => ?_)
          refine ar_aload_n (pc := 59) d_Mo_sign_59 rfl ?_
          refine ar_getIv (pc := 60) gf_Mo_222 d_Mo_sign_60 (by first | rfl | exact sh_wheel (by omega) | exact sh_milk (by omega)) hs (fun r_60 => ?_)
          refine ar_bipush (pc := 63) d_Mo_sign_63 (by decide) ?_
          refine ar_icmp_eq (pc := 65) 77 d_Mo_sign_65 (by decide) ⟨by omega, by omega⟩ ⟨by omega, by omega⟩ (fun h_65 => by exfalso; omega) (fun h_65 => ?_)
          refine ar_aload_n (pc := 68) d_Mo_sign_68 rfl ?_
          refine ar_getIv (pc := 69) gf_Mo_222 d_Mo_sign_69 (by first | rfl | exact sh_wheel (by omega) | exact sh_milk (by omega)) hs (fun r_69 => ?_)
          refine ar_bipush (pc := 72) d_Mo_sign_72 (by decide) ?_
          refine ar_icmp_ne (pc := 74) 172 d_Mo_sign_74 (by decide) ⟨by omega, by omega⟩ ⟨by omega, by omega⟩ (fun h_74 => ?_) (fun h_74 => by exfalso; omega)
          refine ar_aload_n (pc := 172) d_Mo_sign_172 rfl ?_
          refine ar_ldc2 (pc := 173) (6385252) kj_Mo_249 d_Mo_sign_173 (by decide) ?_
          refine ac_virt (pc := 176) (N := mt_Mo_isWord) _ _ mv_Mo_isWord ml_Mo_288 ck_12 d_Mo_sign_176 cAnd (by first | rfl | exact sh_wheel (by omega) | exact sh_milk (by omega)) rfl rfl (Nat.le_of_ble_eq_true rfl) (Nat.le_of_eq (Nat.zero_add _)) (Nat.le_of_eq (Nat.zero_add _)) (fun r_176 G_176 h_176 => ?_)
          obtain ⟨rfl, e_176⟩ := h_176
          subst G_176
          refine ar_if_ne (pc := 179) 192 d_Mo_sign_179 (by decide) ⟨by omega, by omega⟩ (fun h_179 => by exfalso; omega) (fun h_179 => ?_)
          refine ar_aload_n (pc := 182) d_Mo_sign_182 rfl ?_
          refine ar_ldc2 (pc := 183) (28530) kj_Mo_247 d_Mo_sign_183 (by decide) ?_
          refine ac_virt (pc := 186) (N := mt_Mo_isWord) _ _ mv_Mo_isWord ml_Mo_288 ck_12 d_Mo_sign_186 cOr (by first | rfl | exact sh_wheel (by omega) | exact sh_milk (by omega)) rfl rfl (Nat.le_of_ble_eq_true rfl) (Nat.le_of_eq (Nat.zero_add _)) (Nat.le_of_eq (Nat.zero_add _)) (fun r_186 G_186 h_186 => ?_)
          obtain ⟨rfl, e_186⟩ := h_186
          subst G_186
          refine ar_if_eq (pc := 189) 226 d_Mo_sign_189 (by decide) ⟨by omega, by omega⟩ (fun h_189 => by exfalso; omega) (fun h_189 => ?_)
          refine ar_aload_n (pc := 192) d_Mo_sign_192 rfl ?_
          refine ar_ldc2 (pc := 193) (6385252) kj_Mo_249 d_Mo_sign_193 (by decide) ?_
          refine ac_virt (pc := 196) (N := mt_Mo_isWord) _ _ mv_Mo_isWord ml_Mo_288 ck_12 d_Mo_sign_196 cAnd (by first | rfl | exact sh_wheel (by omega) | exact sh_milk (by omega)) rfl rfl (Nat.le_of_ble_eq_true rfl) (Nat.le_of_eq (Nat.zero_add _)) (Nat.le_of_eq (Nat.zero_add _)) (fun r_196 G_196 h_196 => ?_)
          obtain ⟨rfl, e_196⟩ := h_196
          subst G_196
          refine ar_istore_n (pc := 199) d_Mo_sign_199 rfl (by decide) ?_
          refine ar_aload_n (pc := 200) d_Mo_sign_200 rfl ?_
          refine ar_iload_n (pc := 201) d_Mo_sign_201 rfl ?_
          refine ac_virt (pc := 202) (N := mt_Mo_settleOnes) _ _ mv_Mo_settleOnes ml_Mo_324 ck_12 d_Mo_sign_202 cs (by first | rfl | exact sh_wheel (by omega) | exact sh_milk (by omega)) rfl rfl (Nat.le_of_ble_eq_true rfl) (Nat.le_of_eq (Nat.zero_add _)) (Nat.le_of_eq (Nat.zero_add _)) (fun r_202 G_202 h_202 => ?_)
          obtain ⟨rfl, q202⟩ := h_202
          refine ar_aload_n (pc := 205) d_Mo_sign_205 rfl ?_
          refine ar_iload_n (pc := 206) d_Mo_sign_206 rfl ?_
          refine ar_if_eq (pc := 207) 215 d_Mo_sign_207 (by decide) ⟨by omega, by omega⟩ (fun h_207 => ?_) (fun h_207 => by exfalso; omega)
          refine ar_bipush (pc := 215) d_Mo_sign_215 (by decide) ?_
          refine ac_virt (pc := 217) (N := mt_Mo_hold) _ _ mv_Mo_hold ml_Mo_321 ck_12 d_Mo_sign_217 (chold _ _ _ q202 (by omega) (by omega) 41 (by omega)) (by first | rfl | exact sh_wheel (by omega) | exact sh_milk (by omega)) rfl rfl (Nat.le_of_ble_eq_true rfl) (Nat.le_of_eq (Nat.zero_add _)) (Nat.le_of_eq (Nat.zero_add _)) (fun r_217 G_217 h_217 => ?_)
          obtain ⟨rfl, q217⟩ := h_217
          refine ar_aload_n (pc := 220) d_Mo_sign_220 rfl ?_
          refine ac_virt (pc := 221) (N := mt_Mo_next) _ _ mv_Mo_next ml_Mo_318 ck_12 d_Mo_sign_221 (cnx _ _ _ q217 hl) (by first | rfl | exact sh_wheel (by omega) | exact sh_milk (by omega)) rfl rfl (Nat.le_of_ble_eq_true rfl) (Nat.le_of_eq (Nat.zero_add _)) (Nat.le_of_eq (Nat.zero_add _)) (fun r_221 G_221 h_221 => ?_)
          obtain ⟨rfl, q221⟩ := h_221
          refine ar_iconst (pc := 224) d_Mo_sign_224 ?_
          refine ar_iret (pc := 225) d_Mo_sign_225 rfl ?_
          rotate_left
          -- leaves: ret 225
          · exact Or.inl ⟨0, i + 1, v, 41 :: W1, o1, rfl, rfl, q221⟩
      · rw [if_neg (by omega)] at cAnd
        rw [if_neg (by omega)] at cOr
        by_cases c4 : tn_K B z i = 41 ∧ 48 ∈ W
        · have hl := hlt (by omega)
          have hsv : s = 41 := by omega
          have hPX : px_g (tn_K B z) (pl_i B z) i v W o = .inr (2, i + 1, v, (pp_s 0 W o).1.tail, (pp_s 0 W o).2) := by unfold px_g; rw [if_neg c1, if_neg c2, if_neg c3, if_pos c4]
          rw [hPX]
          rw [if_pos c4.2] at cOp
          have cs0 := cm_Mo_settle' X d (l := 0) hFG (by omega) h hwz (by omega) (by omega)
          obtain ⟨Q3, s1, s2, s3, s4⟩ := pp_sx 0 W o
          have ⟨t, ht⟩ : ∃ t, (pp_s 0 W o).1 = 48 :: t := by
            rcases s4 with s4 | ⟨w, t, s4, s5⟩
            · exfalso
              have := c4.2
              rw [s1, s4, List.append_nil] at this
              exact s3 48 this rfl
            · have hw := hwz w (by rw [s1, s4]; exact List.mem_append_right _ List.mem_cons_self)
              have w48 : w = 48 := by omega
              subst w48
              exact ⟨t, s4⟩
          have sl := congrArg List.length s1
          rw [List.length_append, ht, List.length_cons] at sl
          have sd := congrArg dp_n s1
          rw [dp_a, ht] at sd
          rw [ht] at cs0 ⊢
          generalize (pp_s 0 W o).2 = o1 at *
          have dt : dp_n (48 :: t) = 1 + dp_n t := by rw [dp_n, if_pos (Or.inr rfl)]
          clear cset w2 q2 q3 hPX s2 s3 s4
          refine aw_enter pf_Mo_sign (Nat.le_of_ble_eq_true rfl) ?_
          refine ar_aload_n (pc := 0) d_Mo_sign_0 rfl ?_
          refine ar_getIv (pc := 1) gf_Mo_222 d_Mo_sign_1 (by first | rfl | exact sh_wheel (by omega) | exact sh_milk (by omega)) hs (fun r_1 => ?_)
          refine ar_bipush (pc := 4) d_Mo_sign_4 (by decide) ?_
          refine ar_icmp_eq (pc := 6) 18 d_Mo_sign_6 (by decide) ⟨by omega, by omega⟩ ⟨by omega, by omega⟩ (fun h_6 => by exfalso; omega) (fun h_6 => ?_)
          refine ar_aload_n (pc := 9) d_Mo_sign_9 rfl ?_
          refine ar_getIv (pc := 10) gf_Mo_222 d_Mo_sign_10 (by first | rfl | exact sh_wheel (by omega) | exact sh_milk (by omega)) hs (fun r_10 => ?_)
          refine ar_bipush (pc := 13) d_Mo_sign_13 (by decide) ?_
          refine ar_icmp_ne (pc := 15) 50 d_Mo_sign_15 (by decide) ⟨by omega, by omega⟩ ⟨by omega, by omega⟩ (fun h_15 => ?_) (fun h_15 => by exfalso; omega)
          refine ar_aload_n (pc := 50) d_Mo_sign_50 rfl ?_
          refine ar_getIv (pc := 51) gf_Mo_222 d_Mo_sign_51 (by first | rfl | exact sh_wheel (by omega) | exact sh_milk (by omega)) hs (fun r_51 => ?_)
          refine ar_bipush (pc := 54) d_Mo_sign_54 (by decide) ?_
          refine ar_icmp_eq (pc := 56) 77 d_Mo_sign_56 (by decide) ⟨by omega, by omega⟩ ⟨by omega, by omega⟩ (fun h_56 => by exfalso; omega) (fun h_56 => ?_)
          refine ar_aload_n (pc := 59) d_Mo_sign_59 rfl ?_
          refine ar_getIv (pc := 60) gf_Mo_222 d_Mo_sign_60 (by first | rfl | exact sh_wheel (by omega) | exact sh_milk (by omega)) hs (fun r_60 => ?_)
          refine ar_bipush (pc := 63) d_Mo_sign_63 (by decide) ?_
          refine ar_icmp_eq (pc := 65) 77 d_Mo_sign_65 (by decide) ⟨by omega, by omega⟩ ⟨by omega, by omega⟩ (fun h_65 => by exfalso; omega) (fun h_65 => ?_)
          refine ar_aload_n (pc := 68) d_Mo_sign_68 rfl ?_
          refine ar_getIv (pc := 69) gf_Mo_222 d_Mo_sign_69 (by first | rfl | exact sh_wheel (by omega) | exact sh_milk (by omega)) hs (fun r_69 => ?_)
          refine ar_bipush (pc := 72) d_Mo_sign_72 (by decide) ?_
          refine ar_icmp_ne (pc := 74) 172 d_Mo_sign_74 (by decide) ⟨by omega, by omega⟩ ⟨by omega, by omega⟩ (fun h_74 => ?_) (fun h_74 => by exfalso; omega)
          refine ar_aload_n (pc := 172) d_Mo_sign_172 rfl ?_
          refine ar_ldc2 (pc := 173) (6385252) kj_Mo_249 d_Mo_sign_173 (by decide) ?_
          refine ac_virt (pc := 176) (N := mt_Mo_isWord) _ _ mv_Mo_isWord ml_Mo_288 ck_12 d_Mo_sign_176 cAnd (by first | rfl | exact sh_wheel (by omega) | exact sh_milk (by omega)) rfl rfl (Nat.le_of_ble_eq_true rfl) (Nat.le_of_eq (Nat.zero_add _)) (Nat.le_of_eq (Nat.zero_add _)) (fun r_176 G_176 h_176 => ?_)
          obtain ⟨rfl, e_176⟩ := h_176
          subst G_176
          refine ar_if_ne (pc := 179) 192 d_Mo_sign_179 (by decide) ⟨by omega, by omega⟩ (fun h_179 => by exfalso; omega) (fun h_179 => ?_)
          refine ar_aload_n (pc := 182) d_Mo_sign_182 rfl ?_
          refine ar_ldc2 (pc := 183) (28530) kj_Mo_247 d_Mo_sign_183 (by decide) ?_
          refine ac_virt (pc := 186) (N := mt_Mo_isWord) _ _ mv_Mo_isWord ml_Mo_288 ck_12 d_Mo_sign_186 cOr (by first | rfl | exact sh_wheel (by omega) | exact sh_milk (by omega)) rfl rfl (Nat.le_of_ble_eq_true rfl) (Nat.le_of_eq (Nat.zero_add _)) (Nat.le_of_eq (Nat.zero_add _)) (fun r_186 G_186 h_186 => ?_)
          obtain ⟨rfl, e_186⟩ := h_186
          subst G_186
          refine ar_if_eq (pc := 189) 226 d_Mo_sign_189 (by decide) ⟨by omega, by omega⟩ (fun h_189 => ?_) (fun h_189 => by exfalso; omega)
          refine ar_aload_n (pc := 226) d_Mo_sign_226 rfl ?_
          refine ar_getIv (pc := 227) gf_Mo_222 d_Mo_sign_227 (by first | rfl | exact sh_wheel (by omega) | exact sh_milk (by omega)) hs (fun r_227 => ?_)
          refine ar_bipush (pc := 230) d_Mo_sign_230 (by decide) ?_
          refine ar_icmp_ne (pc := 232) 273 d_Mo_sign_232 (by decide) ⟨by omega, by omega⟩ ⟨by omega, by omega⟩ (fun h_232 => by exfalso; omega) (fun h_232 => ?_)
          refine ar_aload_n (pc := 235) d_Mo_sign_235 rfl ?_
          refine ac_virt (pc := 236) (N := mt_Mo_isOpen) _ _ mv_Mo_isOpen ml_Mo_292 ck_12 d_Mo_sign_236 cOp (by first | rfl | exact sh_wheel (by omega) | exact sh_milk (by omega)) rfl rfl (Nat.le_of_ble_eq_true rfl) (Nat.le_of_eq (Nat.zero_add _)) (Nat.le_of_eq (Nat.zero_add _)) (fun r_236 G_236 h_236 => ?_)
          obtain ⟨rfl, e_236⟩ := h_236
          subst G_236
          refine ar_if_eq (pc := 239) 273 d_Mo_sign_239 (by decide) ⟨by omega, by omega⟩ (fun h_239 => by exfalso; omega) (fun h_239 => ?_)
          refine ar_aload_n (pc := 242) d_Mo_sign_242 rfl ?_
          refine ar_iconst (pc := 243) d_Mo_sign_243 ?_
          refine ac_virt (pc := 244) (N := mt_Mo_settle) _ _ mv_Mo_settle ml_Mo_303 ck_12 d_Mo_sign_244 cs0 (by first | rfl | exact sh_wheel (by omega) | exact sh_milk (by omega)) rfl rfl (Nat.le_of_ble_eq_true rfl) (Nat.le_of_eq (Nat.zero_add _)) (Nat.le_of_eq (Nat.zero_add _)) (fun r_244 G_244 h_244 => ?_)
          obtain ⟨rfl, q244⟩ := h_244
          rotate_left
          -- leaves: stop 247
          · have e45 : mm_I G_244 60 45 = (t.length : Nat) + 1 := by rw [q244.2.2.2.2.2.1.1]; simp
            have e46 := q244.2.2.2.2.2.1.2.2
            have hp := mo_p q244 (D := (dp_n (48 :: t) : Nat) - 1) (by omega)
            rw [show ((t.length : Nat) : Int) = ((t.length : Nat) : Int) + 1 - 1 by omega] at hp
            have cn := cnx _ _ _ hp hl
            refine ar_aload_n (pc := 247) d_Mo_sign_247 rfl ?_
            refine ar_dup (pc := 248) d_Mo_sign_248 rfl ?_
            refine ar_getIv (pc := 249) gf_Mo_276 d_Mo_sign_249 (by first | rfl | exact sh_wheel (by omega) | exact sh_milk (by omega)) e45 (fun r_249 => ?_)
            refine ar_iconst (pc := 252) d_Mo_sign_252 ?_
            refine ar_isub (pc := 253) d_Mo_sign_253 ?_
            refine ar_putI (pc := 254) gf_Mo_276 d_Mo_sign_254 rfl (by first | rfl | exact sh_wheel (by omega) | exact sh_milk (by omega)) ⟨by omega, by omega⟩ ?_
            refine ar_aload_n (pc := 257) d_Mo_sign_257 rfl ?_
            refine ar_dup (pc := 258) d_Mo_sign_258 rfl ?_
            refine ar_getIv (pc := 259) gf_Mo_279 d_Mo_sign_259 (by first | rfl | exact sh_wheel (by omega) | exact sh_milk (by omega)) (show _ = ((dp_n (48 :: t) : Nat) : Int) from e46) (fun r_259 => ?_)
            refine ar_iconst (pc := 262) d_Mo_sign_262 ?_
            refine ar_isub (pc := 263) d_Mo_sign_263 ?_
            refine ar_putI (pc := 264) gf_Mo_279 d_Mo_sign_264 rfl (by first | rfl | exact sh_wheel (by omega) | exact sh_milk (by omega)) ⟨by omega, by omega⟩ ?_
            refine ar_aload_n (pc := 267) d_Mo_sign_267 rfl ?_
            refine ac_virt (pc := 268) (N := mt_Mo_next) _ _ mv_Mo_next ml_Mo_318 ck_12 d_Mo_sign_268 cn (by first | rfl | exact sh_wheel (by omega) | exact sh_milk (by omega)) rfl rfl (Nat.le_of_ble_eq_true rfl) (Nat.le_of_eq (Nat.zero_add _)) (Nat.le_of_eq (Nat.zero_add _)) (fun r_268 G_268 h_268 => ?_)
            obtain ⟨rfl, q268⟩ := h_268
            refine ar_iconst (pc := 271) d_Mo_sign_271 ?_
            refine ar_iret (pc := 272) d_Mo_sign_272 rfl ?_
            rotate_left
            -- leaves: ret 272
            · exact Or.inl ⟨2, i + 1, v, t, o1, rfl, rfl, q268⟩
        · have hPX : px_g (tn_K B z) (pl_i B z) i v W o = .inl (fq_v (tn_K B z) i 2, pl_i B z i) := by unfold px_g; rw [if_neg c1, if_neg c2, if_neg c3, if_neg c4]; rfl
          rw [hPX]
          clear cset q2 q3 hPX cnx
          by_cases k41 : tn_K B z i = 41
          · have hsv : s = 41 := by omega
            rw [if_neg (fun q => c4 ⟨k41, q⟩)] at cOp
            refine aw_enter pf_Mo_sign (Nat.le_of_ble_eq_true rfl) ?_
            refine ar_aload_n (pc := 0) d_Mo_sign_0 rfl ?_
            refine ar_getIv (pc := 1) gf_Mo_222 d_Mo_sign_1 (by first | rfl | exact sh_wheel (by omega) | exact sh_milk (by omega)) hs (fun r_1 => ?_)
            refine ar_bipush (pc := 4) d_Mo_sign_4 (by decide) ?_
            refine ar_icmp_eq (pc := 6) 18 d_Mo_sign_6 (by decide) ⟨by omega, by omega⟩ ⟨by omega, by omega⟩ (fun h_6 => by exfalso; omega) (fun h_6 => ?_)
            refine ar_aload_n (pc := 9) d_Mo_sign_9 rfl ?_
            refine ar_getIv (pc := 10) gf_Mo_222 d_Mo_sign_10 (by first | rfl | exact sh_wheel (by omega) | exact sh_milk (by omega)) hs (fun r_10 => ?_)
            refine ar_bipush (pc := 13) d_Mo_sign_13 (by decide) ?_
            refine ar_icmp_ne (pc := 15) 50 d_Mo_sign_15 (by decide) ⟨by omega, by omega⟩ ⟨by omega, by omega⟩ (fun h_15 => ?_) (fun h_15 => by exfalso; omega)
            refine ar_aload_n (pc := 50) d_Mo_sign_50 rfl ?_
            refine ar_getIv (pc := 51) gf_Mo_222 d_Mo_sign_51 (by first | rfl | exact sh_wheel (by omega) | exact sh_milk (by omega)) hs (fun r_51 => ?_)
            refine ar_bipush (pc := 54) d_Mo_sign_54 (by decide) ?_
            refine ar_icmp_eq (pc := 56) 77 d_Mo_sign_56 (by decide) ⟨by omega, by omega⟩ ⟨by omega, by omega⟩ (fun h_56 => by exfalso; omega) (fun h_56 => ?_)
            refine ar_aload_n (pc := 59) d_Mo_sign_59 rfl ?_
            refine ar_getIv (pc := 60) gf_Mo_222 d_Mo_sign_60 (by first | rfl | exact sh_wheel (by omega) | exact sh_milk (by omega)) hs (fun r_60 => ?_)
            refine ar_bipush (pc := 63) d_Mo_sign_63 (by decide) ?_
            refine ar_icmp_eq (pc := 65) 77 d_Mo_sign_65 (by decide) ⟨by omega, by omega⟩ ⟨by omega, by omega⟩ (fun h_65 => by exfalso; omega) (fun h_65 => ?_)
            refine ar_aload_n (pc := 68) d_Mo_sign_68 rfl ?_
            refine ar_getIv (pc := 69) gf_Mo_222 d_Mo_sign_69 (by first | rfl | exact sh_wheel (by omega) | exact sh_milk (by omega)) hs (fun r_69 => ?_)
            refine ar_bipush (pc := 72) d_Mo_sign_72 (by decide) ?_
            refine ar_icmp_ne (pc := 74) 172 d_Mo_sign_74 (by decide) ⟨by omega, by omega⟩ ⟨by omega, by omega⟩ (fun h_74 => ?_) (fun h_74 => by exfalso; omega)
            refine ar_aload_n (pc := 172) d_Mo_sign_172 rfl ?_
            refine ar_ldc2 (pc := 173) (6385252) kj_Mo_249 d_Mo_sign_173 (by decide) ?_
            refine ac_virt (pc := 176) (N := mt_Mo_isWord) _ _ mv_Mo_isWord ml_Mo_288 ck_12 d_Mo_sign_176 cAnd (by first | rfl | exact sh_wheel (by omega) | exact sh_milk (by omega)) rfl rfl (Nat.le_of_ble_eq_true rfl) (Nat.le_of_eq (Nat.zero_add _)) (Nat.le_of_eq (Nat.zero_add _)) (fun r_176 G_176 h_176 => ?_)
            obtain ⟨rfl, e_176⟩ := h_176
            subst G_176
            refine ar_if_ne (pc := 179) 192 d_Mo_sign_179 (by decide) ⟨by omega, by omega⟩ (fun h_179 => by exfalso; omega) (fun h_179 => ?_)
            refine ar_aload_n (pc := 182) d_Mo_sign_182 rfl ?_
            refine ar_ldc2 (pc := 183) (28530) kj_Mo_247 d_Mo_sign_183 (by decide) ?_
            refine ac_virt (pc := 186) (N := mt_Mo_isWord) _ _ mv_Mo_isWord ml_Mo_288 ck_12 d_Mo_sign_186 cOr (by first | rfl | exact sh_wheel (by omega) | exact sh_milk (by omega)) rfl rfl (Nat.le_of_ble_eq_true rfl) (Nat.le_of_eq (Nat.zero_add _)) (Nat.le_of_eq (Nat.zero_add _)) (fun r_186 G_186 h_186 => ?_)
            obtain ⟨rfl, e_186⟩ := h_186
            subst G_186
            refine ar_if_eq (pc := 189) 226 d_Mo_sign_189 (by decide) ⟨by omega, by omega⟩ (fun h_189 => ?_) (fun h_189 => by exfalso; omega)
            refine ar_aload_n (pc := 226) d_Mo_sign_226 rfl ?_
            refine ar_getIv (pc := 227) gf_Mo_222 d_Mo_sign_227 (by first | rfl | exact sh_wheel (by omega) | exact sh_milk (by omega)) hs (fun r_227 => ?_)
            refine ar_bipush (pc := 230) d_Mo_sign_230 (by decide) ?_
            refine ar_icmp_ne (pc := 232) 273 d_Mo_sign_232 (by decide) ⟨by omega, by omega⟩ ⟨by omega, by omega⟩ (fun h_232 => by exfalso; omega) (fun h_232 => ?_)
            refine ar_aload_n (pc := 235) d_Mo_sign_235 rfl ?_
            refine ac_virt (pc := 236) (N := mt_Mo_isOpen) _ _ mv_Mo_isOpen ml_Mo_292 ck_12 d_Mo_sign_236 cOp (by first | rfl | exact sh_wheel (by omega) | exact sh_milk (by omega)) rfl rfl (Nat.le_of_ble_eq_true rfl) (Nat.le_of_eq (Nat.zero_add _)) (Nat.le_of_eq (Nat.zero_add _)) (fun r_236 G_236 h_236 => ?_)
            obtain ⟨rfl, e_236⟩ := h_236
            subst G_236
            refine ar_if_eq (pc := 239) 273 d_Mo_sign_239 (by decide) ⟨by omega, by omega⟩ (fun h_239 => ?_) (fun h_239 => by exfalso; omega)
            refine ar_aload_n (pc := 273) d_Mo_sign_273 rfl ?_
            refine ar_iconst (pc := 274) d_Mo_sign_274 ?_
            refine ac_virt (pc := 275) (N := mt_Mo_wrong) _ _ mv_Mo_wrong ml_Mo_309 ck_12 d_Mo_sign_275 w2 (by first | rfl | exact sh_wheel (by omega) | exact sh_milk (by omega)) rfl rfl (Nat.le_of_ble_eq_true rfl) (Nat.le_of_eq (Nat.zero_add _)) (Nat.le_of_eq (Nat.zero_add _)) (fun r_275 G_275 h_275 => ?_)
            obtain ⟨rfl, q275⟩ := h_275
            refine ar_iconst (pc := 278) d_Mo_sign_278 ?_
            refine ar_iret (pc := 279) d_Mo_sign_279 rfl ?_
            rotate_left
            -- leaves: ret 279
            · exact Or.inr ⟨_, _, 2, rfl, b2, rfl, ⟨by omega, by omega⟩, q275⟩
          · have hsv : s ≠ 41 := by omega
            clear t2
            refine aw_enter pf_Mo_sign (Nat.le_of_ble_eq_true rfl) ?_
            refine ar_aload_n (pc := 0) d_Mo_sign_0 rfl ?_
            refine ar_getIv (pc := 1) gf_Mo_222 d_Mo_sign_1 (by first | rfl | exact sh_wheel (by omega) | exact sh_milk (by omega)) hs (fun r_1 => ?_)
            refine ar_bipush (pc := 4) d_Mo_sign_4 (by decide) ?_
            refine ar_icmp_eq (pc := 6) 18 d_Mo_sign_6 (by decide) ⟨by omega, by omega⟩ ⟨by omega, by omega⟩ (fun h_6 => by exfalso; omega) (fun h_6 => ?_)
            refine ar_aload_n (pc := 9) d_Mo_sign_9 rfl ?_
            refine ar_getIv (pc := 10) gf_Mo_222 d_Mo_sign_10 (by first | rfl | exact sh_wheel (by omega) | exact sh_milk (by omega)) hs (fun r_10 => ?_)
            refine ar_bipush (pc := 13) d_Mo_sign_13 (by decide) ?_
            refine ar_icmp_ne (pc := 15) 50 d_Mo_sign_15 (by decide) ⟨by omega, by omega⟩ ⟨by omega, by omega⟩ (fun h_15 => ?_) (fun h_15 => by exfalso; omega)
            refine ar_aload_n (pc := 50) d_Mo_sign_50 rfl ?_
            refine ar_getIv (pc := 51) gf_Mo_222 d_Mo_sign_51 (by first | rfl | exact sh_wheel (by omega) | exact sh_milk (by omega)) hs (fun r_51 => ?_)
            refine ar_bipush (pc := 54) d_Mo_sign_54 (by decide) ?_
            refine ar_icmp_eq (pc := 56) 77 d_Mo_sign_56 (by decide) ⟨by omega, by omega⟩ ⟨by omega, by omega⟩ (fun h_56 => by exfalso; omega) (fun h_56 => ?_)
            refine ar_aload_n (pc := 59) d_Mo_sign_59 rfl ?_
            refine ar_getIv (pc := 60) gf_Mo_222 d_Mo_sign_60 (by first | rfl | exact sh_wheel (by omega) | exact sh_milk (by omega)) hs (fun r_60 => ?_)
            refine ar_bipush (pc := 63) d_Mo_sign_63 (by decide) ?_
            refine ar_icmp_eq (pc := 65) 77 d_Mo_sign_65 (by decide) ⟨by omega, by omega⟩ ⟨by omega, by omega⟩ (fun h_65 => by exfalso; omega) (fun h_65 => ?_)
            refine ar_aload_n (pc := 68) d_Mo_sign_68 rfl ?_
            refine ar_getIv (pc := 69) gf_Mo_222 d_Mo_sign_69 (by first | rfl | exact sh_wheel (by omega) | exact sh_milk (by omega)) hs (fun r_69 => ?_)
            refine ar_bipush (pc := 72) d_Mo_sign_72 (by decide) ?_
            refine ar_icmp_ne (pc := 74) 172 d_Mo_sign_74 (by decide) ⟨by omega, by omega⟩ ⟨by omega, by omega⟩ (fun h_74 => ?_) (fun h_74 => by exfalso; omega)
            refine ar_aload_n (pc := 172) d_Mo_sign_172 rfl ?_
            refine ar_ldc2 (pc := 173) (6385252) kj_Mo_249 d_Mo_sign_173 (by decide) ?_
            refine ac_virt (pc := 176) (N := mt_Mo_isWord) _ _ mv_Mo_isWord ml_Mo_288 ck_12 d_Mo_sign_176 cAnd (by first | rfl | exact sh_wheel (by omega) | exact sh_milk (by omega)) rfl rfl (Nat.le_of_ble_eq_true rfl) (Nat.le_of_eq (Nat.zero_add _)) (Nat.le_of_eq (Nat.zero_add _)) (fun r_176 G_176 h_176 => ?_)
            obtain ⟨rfl, e_176⟩ := h_176
            subst G_176
            refine ar_if_ne (pc := 179) 192 d_Mo_sign_179 (by decide) ⟨by omega, by omega⟩ (fun h_179 => by exfalso; omega) (fun h_179 => ?_)
            refine ar_aload_n (pc := 182) d_Mo_sign_182 rfl ?_
            refine ar_ldc2 (pc := 183) (28530) kj_Mo_247 d_Mo_sign_183 (by decide) ?_
            refine ac_virt (pc := 186) (N := mt_Mo_isWord) _ _ mv_Mo_isWord ml_Mo_288 ck_12 d_Mo_sign_186 cOr (by first | rfl | exact sh_wheel (by omega) | exact sh_milk (by omega)) rfl rfl (Nat.le_of_ble_eq_true rfl) (Nat.le_of_eq (Nat.zero_add _)) (Nat.le_of_eq (Nat.zero_add _)) (fun r_186 G_186 h_186 => ?_)
            obtain ⟨rfl, e_186⟩ := h_186
            subst G_186
            refine ar_if_eq (pc := 189) 226 d_Mo_sign_189 (by decide) ⟨by omega, by omega⟩ (fun h_189 => ?_) (fun h_189 => by exfalso; omega)
            refine ar_aload_n (pc := 226) d_Mo_sign_226 rfl ?_
            refine ar_getIv (pc := 227) gf_Mo_222 d_Mo_sign_227 (by first | rfl | exact sh_wheel (by omega) | exact sh_milk (by omega)) hs (fun r_227 => ?_)
            refine ar_bipush (pc := 230) d_Mo_sign_230 (by decide) ?_
            refine ar_icmp_ne (pc := 232) 273 d_Mo_sign_232 (by decide) ⟨by omega, by omega⟩ ⟨by omega, by omega⟩ (fun h_232 => ?_) (fun h_232 => by exfalso; omega)
            refine ar_aload_n (pc := 273) d_Mo_sign_273 rfl ?_
            refine ar_iconst (pc := 274) d_Mo_sign_274 ?_
            refine ac_virt (pc := 275) (N := mt_Mo_wrong) _ _ mv_Mo_wrong ml_Mo_309 ck_12 d_Mo_sign_275 w2 (by first | rfl | exact sh_wheel (by omega) | exact sh_milk (by omega)) rfl rfl (Nat.le_of_ble_eq_true rfl) (Nat.le_of_eq (Nat.zero_add _)) (Nat.le_of_eq (Nat.zero_add _)) (fun r_275 G_275 h_275 => ?_)
            obtain ⟨rfl, q275⟩ := h_275
            refine ar_iconst (pc := 278) d_Mo_sign_278 ?_
            refine ar_iret (pc := 279) d_Mo_sign_279 rfl ?_
            rotate_left
            -- leaves: ret 279
            · exact Or.inr ⟨_, _, 2, rfl, b2, rfl, ⟨by omega, by omega⟩, q275⟩
