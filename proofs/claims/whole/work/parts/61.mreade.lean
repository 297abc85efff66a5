/-! ===== the reference reads an e ===== -/
theorem px_fix {K P N : Nat → Int} {s : px_T} (h : px_n K P N s = s) : ∀ m, px_i K P N m s = s := by
  intro m
  induction m with
  | zero => rfl
  | succ m ih => rw [px_i, h]; exact ih
def tm_T (K : Nat → Int) (t : px_T) : Prop := (∃ f, t = .inl f) ∨ ∃ i v W o, t = .inr (2, i, v, W, o) ∧ K i = 1 ∧ ¬ 48 ∈ W
def mE_P (B : Nat → Int) (z : Nat) (G : mm_T) (t : px_T) (r : Option av_T) (G' : mm_T) : Prop := r = none ∧ ((∃ k p, t = .inl (k, p) ∧ (1 ≤ k ∧ k ≤ 3) ∧ mw_F G G' k p) ∨ ∃ i v W o, t = .inr (2, i, v, W, o) ∧ mo_F B z G G' i v (pp_s 0 W o).1 (pp_s 0 W o).2)
theorem lp_Mo_readE (X : gx_T) (d : Nat) {B : Nat → Int} {z n : Nat} {G : mm_T} {v0 : Nat} {o0 : List Int} {t : px_T} (hF : fx_R G) (hz : mm_I G 60 39 = z) (bb : bb_B B z) (hB : mb_v G = B) (hE : te_E B z n) (h0 : mm_I G 60 36 = 0) (ht : tm_T (tn_K B z) t) : ∀ m now i v W o G1, px_i (tn_K B z) (pl_i B z) (tn_M B z) m (.inr (now, i, v, W, o)) = t → mo_F B z G G1 i v W o → jo_I n v0 o0 now i v W o → aw_W X mt_Mo_readE (d + 5) 12 [(0, some (av_r (some 60))), (1, some (av_i (now : Nat)))] [] G1 0 0 (mE_P B z G t) := by
  have hK : tk_E (tn_K B z) n := hE.2
  have hN : ∀ k, k ≤ n → 0 ≤ tn_M B z k := fun k _ => (tm_r bb).1
  intro m
  induction m with
  | zero =>
    intro now i v W o G1 hp h hj
    have f36 : mm_I G1 60 36 = 0 := by rw [h.2.1 _ _ (by omega) (by omega) (by omega) (by omega)]; exact h0
    have hp : (.inr (now, i, v, W, o) : px_T) = t := hp
    rcases ht with ⟨f, e⟩ | ⟨i', v', W', o', e, k1, k48⟩
    · rw [← hp] at e; cases e
    · rw [← hp] at e; cases e
      have hW := jo_len hj
      have c28 := cm_Mo_isWord X (d + 3) (w := 1) (c := 25711) h.2.2.2.1 (by omega) rfl
      rw [if_pos (by omega)] at c28
      have c35 := cm_Mo_isOpen X (d + 3) hF h (by omega)
      rw [if_neg k48] at c35
      have c72 := cm_Mo_settle' X (d + 1) (l := 0) hF (by omega) h hj.2.1 (by omega) (by have := hj.2.2.2.2.2.1; have := hj.2.2.2.2.2.2; have := hE.1; omega)
      subst hp
      refine ar_aload_n (pc := 12) d_Mo_readE_12 rfl ?_
      refine ar_getIv (pc := 13) gf_Mo_234 d_Mo_readE_13 (by first | rfl | exact sh_wheel (by omega) | exact sh_milk (by omega)) f36 (fun r_13 => ?_)
      refine ar_if_ne (pc := 16) 63 d_Mo_readE_16 (by decide) ⟨by omega, by omega⟩ (fun h_16 => by exfalso; omega) (fun h_16 => ?_)
      refine ar_iload_n (pc := 19) d_Mo_readE_19 rfl ?_
      refine ar_iconst (pc := 20) d_Mo_readE_20 ?_
      refine ar_icmp_ne (pc := 21) 41 d_Mo_readE_21 (by decide) ⟨by omega, by omega⟩ ⟨by omega, by omega⟩ (fun h_21 => by exfalso; omega) (fun h_21 => ?_)
      refine ar_aload_n (pc := 24) d_Mo_readE_24 rfl ?_
      refine ar_ldc2 (pc := 25) (25711) kj_Mo_239 d_Mo_readE_25 (by decide) ?_
      refine ac_virt (pc := 28) (N := mt_Mo_isWord) _ _ mv_Mo_isWord ml_Mo_288 ck_12 d_Mo_readE_28 c28 (by first | rfl | exact sh_wheel (by omega) | exact sh_milk (by omega)) rfl rfl (Nat.le_of_ble_eq_true rfl) (Nat.le_of_eq (Nat.zero_add _)) (Nat.le_of_eq (Nat.zero_add _)) (fun r_28 G_28 h_28 => ?_)
      obtain ⟨rfl, e_28⟩ := h_28
      subst G_28
      refine ar_if_eq (pc := 31) 41 d_Mo_readE_31 (by decide) ⟨by omega, by omega⟩ (fun h_31 => by exfalso; omega) (fun h_31 => ?_)
      refine ar_aload_n (pc := 34) d_Mo_readE_34 rfl ?_
      refine ac_virt (pc := 35) (N := mt_Mo_isOpen) _ _ mv_Mo_isOpen ml_Mo_292 ck_12 d_Mo_readE_35 c35 (by first | rfl | exact sh_wheel (by omega) | exact sh_milk (by omega)) rfl rfl (Nat.le_of_ble_eq_true rfl) (Nat.le_of_eq (Nat.zero_add _)) (Nat.le_of_eq (Nat.zero_add _)) (fun r_35 G_35 h_35 => ?_)
      obtain ⟨rfl, e_35⟩ := h_35
      subst G_35
      refine ar_if_eq (pc := 38) 63 d_Mo_readE_38 (by decide) ⟨by omega, by omega⟩ (fun h_38 => ?_) (fun h_38 => by exfalso; omega)
      refine ar_aload_n (pc := 63) d_Mo_readE_63 rfl ?_
      refine ar_getIv (pc := 64) gf_Mo_234 d_Mo_readE_64 (by first | rfl | exact sh_wheel (by omega) | exact sh_milk (by omega)) f36 (fun r_64 => ?_)
      refine ar_if_ne (pc := 67) 75 d_Mo_readE_67 (by decide) ⟨by omega, by omega⟩ (fun h_67 => by exfalso; omega) (fun h_67 => ?_)
      refine ar_aload_n (pc := 70) d_Mo_readE_70 rfl ?_
      refine ar_iconst (pc := 71) d_Mo_readE_71 ?_
      refine ac_virt (pc := 72) (N := mt_Mo_settle) _ _ mv_Mo_settle ml_Mo_303 ck_12 d_Mo_readE_72 c72 (by first | rfl | exact sh_wheel (by omega) | exact sh_milk (by omega)) rfl rfl (Nat.le_of_ble_eq_true rfl) (Nat.le_of_eq (Nat.zero_add _)) (Nat.le_of_eq (Nat.zero_add _)) (fun r_72 G_72 h_72 => ?_)
      obtain ⟨rfl, q72⟩ := h_72
      refine ar_ret (pc := 75) d_Mo_readE_75 rfl ?_
      rotate_left
      -- leaves: ret 75
      · exact ⟨rfl, Or.inr ⟨i, v, W, o, rfl, q72⟩⟩
  | succ m ih =>
    intro now i v W o G1 hp h hj
    have f36 : mm_I G1 60 36 = 0 := by rw [h.2.1 _ _ (by omega) (by omega) (by omega) (by omega)]; exact h0
    have hW := jo_len hj
    rw [px_i] at hp
    have go : ∀ s G2 x, mx_P B z G s (some (av_i x)) G2 → px_n (tn_K B z) (pl_i B z) (tn_M B z) (.inr (now, i, v, W, o)) = s → i3_in x → aw_W X mt_Mo_readE (d + 5) 12 [(0, some (av_r (some 60))), (1, some (av_i x))] [] G2 0 0 (mE_P B z G t) := by
      intro s G2 x hx hs hxr
      have hj2 := jv_n hK hN (.inr (now, i, v, W, o)) hj (P := pl_i B z)
      rw [hs] at hp hj2
      rcases hx with ⟨now', i', v', W', o', rfl, er, q⟩ | ⟨k, p, x', rfl, hk, er, hr, q⟩
      · cases er
        exact ih now' i' v' W' o' G2 hp q hj2
      · rw [px_fix rfl] at hp
        have e36 := mw_e q
        clear ih
        refine ar_aload_n (pc := 12) d_Mo_readE_12 rfl ?_
        refine ar_getIv (pc := 13) gf_Mo_234 d_Mo_readE_13 (by first | rfl | exact sh_wheel (by omega) | exact sh_milk (by omega)) e36 (fun r_13 => ?_)
        refine ar_if_ne (pc := 16) 63 d_Mo_readE_16 (by decide) ⟨by omega, by omega⟩ (fun h_16 => ?_) (fun h_16 => by exfalso; omega)
        refine ar_aload_n (pc := 63) d_Mo_readE_63 rfl ?_
        refine ar_getIv (pc := 64) gf_Mo_234 d_Mo_readE_64 (by first | rfl | exact sh_wheel (by omega) | exact sh_milk (by omega)) e36 (fun r_64 => ?_)
        refine ar_if_ne (pc := 67) 75 d_Mo_readE_67 (by decide) ⟨by omega, by omega⟩ (fun h_67 => ?_) (fun h_67 => by exfalso; omega)
        refine ar_ret (pc := 75) d_Mo_readE_75 rfl ?_
        rotate_left
        -- leaves: ret 75
        · exact ⟨rfl, Or.inl ⟨k, p, hp.symm, hk, q⟩⟩
    clear ih
    by_cases n2 : now = 2
    · subst n2
      by_cases hter : tn_K B z i = 1 ∧ ¬ 48 ∈ W
      · have hfx : px_n (tn_K B z) (pl_i B z) (tn_M B z) (.inr (2, i, v, W, o)) = .inr (2, i, v, W, o) := by
          show (if 2 = 2 ∧ tn_K B z i = 1 ∧ ¬ 48 ∈ W then _ else _) = _
          rw [if_pos ⟨rfl, hter⟩]
        rw [hfx, px_fix hfx] at hp
        have c28 := cm_Mo_isWord X (d + 3) (w := 1) (c := 25711) h.2.2.2.1 (by omega) rfl
        rw [if_pos (by omega)] at c28
        have c35 := cm_Mo_isOpen X (d + 3) hF h (by omega)
        rw [if_neg hter.2] at c35
        have c72 := cm_Mo_settle' X (d + 1) (l := 0) hF (by omega) h hj.2.1 (by omega) (by have := hj.2.2.2.2.2.1; have := hj.2.2.2.2.2.2; have := hE.1; omega)
        subst hp
        clear go
        refine ar_aload_n (pc := 12) d_Mo_readE_12 rfl ?_
        refine ar_getIv (pc := 13) gf_Mo_234 d_Mo_readE_13 (by first | rfl | exact sh_wheel (by omega) | exact sh_milk (by omega)) f36 (fun r_13 => ?_)
        refine ar_if_ne (pc := 16) 63 d_Mo_readE_16 (by decide) ⟨by omega, by omega⟩ (fun h_16 => by exfalso; omega) (fun h_16 => ?_)
        refine ar_iload_n (pc := 19) d_Mo_readE_19 rfl ?_
        refine ar_iconst (pc := 20) d_Mo_readE_20 ?_
        refine ar_icmp_ne (pc := 21) 41 d_Mo_readE_21 (by decide) ⟨by omega, by omega⟩ ⟨by omega, by omega⟩ (fun h_21 => by exfalso; omega) (fun h_21 => ?_)
        refine ar_aload_n (pc := 24) d_Mo_readE_24 rfl ?_
        refine ar_ldc2 (pc := 25) (25711) kj_Mo_239 d_Mo_readE_25 (by decide) ?_
        refine ac_virt (pc := 28) (N := mt_Mo_isWord) _ _ mv_Mo_isWord ml_Mo_288 ck_12 d_Mo_readE_28 c28 (by first | rfl | exact sh_wheel (by omega) | exact sh_milk (by omega)) rfl rfl (Nat.le_of_ble_eq_true rfl) (Nat.le_of_eq (Nat.zero_add _)) (Nat.le_of_eq (Nat.zero_add _)) (fun r_28 G_28 h_28 => ?_)
        obtain ⟨rfl, e_28⟩ := h_28
        subst G_28
        refine ar_if_eq (pc := 31) 41 d_Mo_readE_31 (by decide) ⟨by omega, by omega⟩ (fun h_31 => by exfalso; omega) (fun h_31 => ?_)
        refine ar_aload_n (pc := 34) d_Mo_readE_34 rfl ?_
        refine ac_virt (pc := 35) (N := mt_Mo_isOpen) _ _ mv_Mo_isOpen ml_Mo_292 ck_12 d_Mo_readE_35 c35 (by first | rfl | exact sh_wheel (by omega) | exact sh_milk (by omega)) rfl rfl (Nat.le_of_ble_eq_true rfl) (Nat.le_of_eq (Nat.zero_add _)) (Nat.le_of_eq (Nat.zero_add _)) (fun r_35 G_35 h_35 => ?_)
        obtain ⟨rfl, e_35⟩ := h_35
        subst G_35
        refine ar_if_eq (pc := 38) 63 d_Mo_readE_38 (by decide) ⟨by omega, by omega⟩ (fun h_38 => ?_) (fun h_38 => by exfalso; omega)
        refine ar_aload_n (pc := 63) d_Mo_readE_63 rfl ?_
        refine ar_getIv (pc := 64) gf_Mo_234 d_Mo_readE_64 (by first | rfl | exact sh_wheel (by omega) | exact sh_milk (by omega)) f36 (fun r_64 => ?_)
        refine ar_if_ne (pc := 67) 75 d_Mo_readE_67 (by decide) ⟨by omega, by omega⟩ (fun h_67 => by exfalso; omega) (fun h_67 => ?_)
        refine ar_aload_n (pc := 70) d_Mo_readE_70 rfl ?_
        refine ar_iconst (pc := 71) d_Mo_readE_71 ?_
        refine ac_virt (pc := 72) (N := mt_Mo_settle) _ _ mv_Mo_settle ml_Mo_303 ck_12 d_Mo_readE_72 c72 (by first | rfl | exact sh_wheel (by omega) | exact sh_milk (by omega)) rfl rfl (Nat.le_of_ble_eq_true rfl) (Nat.le_of_eq (Nat.zero_add _)) (Nat.le_of_eq (Nat.zero_add _)) (fun r_72 G_72 h_72 => ?_)
        obtain ⟨rfl, q72⟩ := h_72
        refine ar_ret (pc := 75) d_Mo_readE_75 rfl ?_
        rotate_left
        -- leaves: ret 75
        · exact ⟨rfl, Or.inr ⟨i, v, W, o, rfl, q72⟩⟩
      · have hst : px_n (tn_K B z) (pl_i B z) (tn_M B z) (.inr (2, i, v, W, o)) = px_g (tn_K B z) (pl_i B z) i v W o := by
          show (if 2 = 2 ∧ tn_K B z i = 1 ∧ ¬ 48 ∈ W then _ else if 2 = 2 then px_g (tn_K B z) (pl_i B z) i v W o else _) = _
          rw [if_neg (fun q => hter q.2), if_pos rfl]
        have c47 := cm_Mo_sign X d hF hz bb hB hE h0 h hj
        have fin : ∀ r G', mx_P B z G (px_g (tn_K B z) (pl_i B z) i v W o) r G' → ∃ x, r = some (av_i x) ∧ i3_in x := by
          rintro r G' (⟨now', i', v', W', o', e, er, q⟩ | ⟨k, p, x', e, hk, er, hr, q⟩)
          · have hj2 := jv_n hK hN (.inr (2, i, v, W, o)) hj (P := pl_i B z)
            rw [hst, e] at hj2
            have h9 : jo_I n v0 o0 now' i' v' W' o' := hj2
            have := h9.1
            exact ⟨_, er, by omega, by omega⟩
          · exact ⟨_, er, hr⟩
        have gos : aw_W X mt_Mo_readE (d + 5) 41 [(0, some (av_r (some 60))), (1, some (av_i ((2 : Nat) : Int)))] [] G1 0 0 (mE_P B z G t) := by
          refine ar_iload_n (pc := 41) d_Mo_readE_41 rfl ?_
          refine ar_iconst (pc := 42) d_Mo_readE_42 ?_
          refine ar_icmp_ne (pc := 43) 54 d_Mo_readE_43 (by decide) ⟨by omega, by omega⟩ ⟨by omega, by omega⟩ (fun h_43 => by exfalso; omega) (fun h_43 => ?_)
          refine ar_aload_n (pc := 46) d_Mo_readE_46 rfl ?_
          refine ac_virt (pc := 47) (N := mt_Mo_sign) _ _ mv_Mo_sign ml_Mo_296 ck_12 d_Mo_readE_47 c47 (by first | rfl | exact sh_wheel (by omega) | exact sh_milk (by omega)) rfl rfl (Nat.le_of_ble_eq_true rfl) (Nat.le_of_eq (Nat.zero_add _)) (Nat.le_of_eq (Nat.zero_add _)) (fun r_47 G_47 h_47 => ?_)
          rotate_left
          -- leaves: stop 50
          · obtain ⟨x, rfl, hx⟩ := fin _ _ h_47
            refine ar_istore_n (pc := 50) d_Mo_readE_50 rfl (by decide) ?_
            refine ar_goto (pc := 51) 12 d_Mo_readE_51 (by decide) ?_
            rotate_left
            -- leaves: stop 12
            · exact ar_loc (go _ _ x h_47 hst hx) ⟨rfl, rfl, trivial⟩
        have c28 := cm_Mo_isWord X (d + 3) (w := 1) (c := 25711) h.2.2.2.1 (by omega) rfl
        have c35 := cm_Mo_isOpen X (d + 3) hF h (by omega)
        clear go c47 fin
        by_cases k1 : tn_K B z i = 1
        · rw [if_pos (by omega)] at c28
          have h48 : 48 ∈ W := Classical.byContradiction (fun q => hter ⟨k1, q⟩)
          rw [if_pos h48] at c35
          refine ar_aload_n (pc := 12) d_Mo_readE_12 rfl ?_
          refine ar_getIv (pc := 13) gf_Mo_234 d_Mo_readE_13 (by first | rfl | exact sh_wheel (by omega) | exact sh_milk (by omega)) f36 (fun r_13 => ?_)
          refine ar_if_ne (pc := 16) 63 d_Mo_readE_16 (by decide) ⟨by omega, by omega⟩ (fun h_16 => by exfalso; omega) (fun h_16 => ?_)
          refine ar_iload_n (pc := 19) d_Mo_readE_19 rfl ?_
          refine ar_iconst (pc := 20) d_Mo_readE_20 ?_
          refine ar_icmp_ne (pc := 21) 41 d_Mo_readE_21 (by decide) ⟨by omega, by omega⟩ ⟨by omega, by omega⟩ (fun h_21 => by exfalso; omega) (fun h_21 => ?_)
          refine ar_aload_n (pc := 24) d_Mo_readE_24 rfl ?_
          refine ar_ldc2 (pc := 25) (25711) kj_Mo_239 d_Mo_readE_25 (by decide) ?_
          refine ac_virt (pc := 28) (N := mt_Mo_isWord) _ _ mv_Mo_isWord ml_Mo_288 ck_12 d_Mo_readE_28 c28 (by first | rfl | exact sh_wheel (by omega) | exact sh_milk (by omega)) rfl rfl (Nat.le_of_ble_eq_true rfl) (Nat.le_of_eq (Nat.zero_add _)) (Nat.le_of_eq (Nat.zero_add _)) (fun r_28 G_28 h_28 => ?_)
          obtain ⟨rfl, e_28⟩ := h_28
          subst G_28
          refine ar_if_eq (pc := 31) 41 d_Mo_readE_31 (by decide) ⟨by omega, by omega⟩ (fun h_31 => by exfalso; omega) (fun h_31 => ?_)
          refine ar_aload_n (pc := 34) d_Mo_readE_34 rfl ?_
          refine ac_virt (pc := 35) (N := mt_Mo_isOpen) _ _ mv_Mo_isOpen ml_Mo_292 ck_12 d_Mo_readE_35 c35 (by first | rfl | exact sh_wheel (by omega) | exact sh_milk (by omega)) rfl rfl (Nat.le_of_ble_eq_true rfl) (Nat.le_of_eq (Nat.zero_add _)) (Nat.le_of_eq (Nat.zero_add _)) (fun r_35 G_35 h_35 => ?_)
          obtain ⟨rfl, e_35⟩ := h_35
          subst G_35
          refine ar_if_eq (pc := 38) 63 d_Mo_readE_38 (by decide) ⟨by omega, by omega⟩ (fun h_38 => by exfalso; omega) (fun h_38 => ?_)
          rotate_left
          -- leaves: stop 41
          · exact ar_loc gos ⟨rfl, rfl, trivial⟩
        · rw [if_neg (by omega)] at c28
          refine ar_aload_n (pc := 12) d_Mo_readE_12 rfl ?_
          refine ar_getIv (pc := 13) gf_Mo_234 d_Mo_readE_13 (by first | rfl | exact sh_wheel (by omega) | exact sh_milk (by omega)) f36 (fun r_13 => ?_)
          refine ar_if_ne (pc := 16) 63 d_Mo_readE_16 (by decide) ⟨by omega, by omega⟩ (fun h_16 => by exfalso; omega) (fun h_16 => ?_)
          refine ar_iload_n (pc := 19) d_Mo_readE_19 rfl ?_
          refine ar_iconst (pc := 20) d_Mo_readE_20 ?_
          refine ar_icmp_ne (pc := 21) 41 d_Mo_readE_21 (by decide) ⟨by omega, by omega⟩ ⟨by omega, by omega⟩ (fun h_21 => by exfalso; omega) (fun h_21 => ?_)
          refine ar_aload_n (pc := 24) d_Mo_readE_24 rfl ?_
          refine ar_ldc2 (pc := 25) (25711) kj_Mo_239 d_Mo_readE_25 (by decide) ?_
          refine ac_virt (pc := 28) (N := mt_Mo_isWord) _ _ mv_Mo_isWord ml_Mo_288 ck_12 d_Mo_readE_28 c28 (by first | rfl | exact sh_wheel (by omega) | exact sh_milk (by omega)) rfl rfl (Nat.le_of_ble_eq_true rfl) (Nat.le_of_eq (Nat.zero_add _)) (Nat.le_of_eq (Nat.zero_add _)) (fun r_28 G_28 h_28 => ?_)
          obtain ⟨rfl, e_28⟩ := h_28
          subst G_28
          refine ar_if_eq (pc := 31) 41 d_Mo_readE_31 (by decide) ⟨by omega, by omega⟩ (fun h_31 => ?_) (fun h_31 => by exfalso; omega)
          rotate_left
          -- leaves: stop 41
          · exact ar_loc gos ⟨rfl, rfl, trivial⟩
    · have hst : px_n (tn_K B z) (pl_i B z) (tn_M B z) (.inr (now, i, v, W, o)) = px_d (tn_K B z) (pl_i B z) (tn_M B z) now i v W o := by
        show (if now = 2 ∧ tn_K B z i = 1 ∧ ¬ 48 ∈ W then _ else if now = 2 then _ else px_d (tn_K B z) (pl_i B z) (tn_M B z) now i v W o) = _
        rw [if_neg (fun q => n2 q.1), if_neg n2]
      have hnow := hj.1
      have c56 : aw_M X (d + 4) mt_Mo_operand [av_r (some 60), av_i (now : Nat)] G1 0 0 (mx_P B z G (px_d (tn_K B z) (pl_i B z) (tn_M B z) now i v W o)) := by
        have hn01 : now = 0 ∨ now = 1 := by omega
        rcases hn01 with rfl | rfl
        · exact cm_Mo_operand0 X (d + 1) hF hz bb hB hE h0 h hj
        · exact cm_Mo_operand1 X (d + 1) hF hz bb hB hE h0 h hj
      have fin : ∀ r G', mx_P B z G (px_d (tn_K B z) (pl_i B z) (tn_M B z) now i v W o) r G' → ∃ x, r = some (av_i x) ∧ i3_in x := by
        rintro r G' (⟨now', i', v', W', o', e, er, q⟩ | ⟨k, p, x', e, hk, er, hr, q⟩)
        · have hj2 := jv_n hK hN (.inr (now, i, v, W, o)) hj (P := pl_i B z)
          rw [hst, e] at hj2
          have h9 : jo_I n v0 o0 now' i' v' W' o' := hj2
          have := h9.1
          exact ⟨_, er, by omega, by omega⟩
        · exact ⟨_, er, hr⟩
      refine ar_aload_n (pc := 12) d_Mo_readE_12 rfl ?_
      refine ar_getIv (pc := 13) gf_Mo_234 d_Mo_readE_13 (by first | rfl | exact sh_wheel (by omega) | exact sh_milk (by omega)) f36 (fun r_13 => ?_)
      refine ar_if_ne (pc := 16) 63 d_Mo_readE_16 (by decide) ⟨by omega, by omega⟩ (fun h_16 => by exfalso; omega) (fun h_16 => ?_)
      refine ar_iload_n (pc := 19) d_Mo_readE_19 rfl ?_
      refine ar_iconst (pc := 20) d_Mo_readE_20 ?_
      refine ar_icmp_ne (pc := 21) 41 d_Mo_readE_21 (by decide) ⟨by omega, by omega⟩ ⟨by omega, by omega⟩ (fun h_21 => ?_) (fun h_21 => by exfalso; omega)
      refine ar_iload_n (pc := 41) d_Mo_readE_41 rfl ?_
      refine ar_iconst (pc := 42) d_Mo_readE_42 ?_
      refine ar_icmp_ne (pc := 43) 54 d_Mo_readE_43 (by decide) ⟨by omega, by omega⟩ ⟨by omega, by omega⟩ (fun h_43 => ?_) (fun h_43 => by exfalso; omega)
      refine ar_aload_n (pc := 54) d_Mo_readE_54 rfl ?_
      refine ar_iload_n (pc := 55) d_Mo_readE_55 rfl ?_
      refine ac_virt (pc := 56) (N := mt_Mo_operand) _ _ mv_Mo_operand ml_Mo_300 ck_12 d_Mo_readE_56 c56 (by first | rfl | exact sh_wheel (by omega) | exact sh_milk (by omega)) rfl rfl (Nat.le_of_ble_eq_true rfl) (Nat.le_of_eq (Nat.zero_add _)) (Nat.le_of_eq (Nat.zero_add _)) (fun r_56 G_56 h_56 => ?_)
      rotate_left
      -- leaves: stop 59
      · obtain ⟨x, rfl, hx⟩ := fin _ _ h_56
        refine ar_istore_n (pc := 59) d_Mo_readE_59 rfl (by decide) ?_
        refine ar_goto (pc := 60) 12 d_Mo_readE_60 (by decide) ?_
        rotate_left
        -- leaves: stop 12
        · exact ar_loc (go _ _ x h_56 hst hx) ⟨rfl, rfl, trivial⟩
/-- what stands before an e is read -/
def ml_F (B : Nat → Int) (z : Nat) (G : mm_T) (i v : Nat) (o : List Int) : Prop := mo_T B z G i ∧ mm_I G 60 33 = v ∧ mm_I G 60 32 = (o.length : Nat) ∧ ∀ k, k < o.length → it_R (o.getD k 0) (mm_I G 83 k) (mm_I G 84 k)
theorem cm_Mo_readE (X : gx_T) (d : Nat) {B : Nat → Int} {z n : Nat} {G : mm_T} {i v : Nat} {o : List Int} {t : px_T} (hF : fx_R G) (hz : mm_I G 60 39 = z) (bb : bb_B B z) (hB : mb_v G = B) (hE : te_E B z n) (h0 : mm_I G 60 36 = 0) (ht : tm_T (tn_K B z) t) (hr : rc_R (tn_K B z) (pl_i B z) (tn_M B z) (.inr (0, i, v, [], o)) t) (h : ml_F B z G i v o) (hi : i ≤ n) (hv : v ≤ 80) (ho : o.length ≤ i) : aw_M X (d + 5) mt_Mo_readE [av_r (some 60)] G 0 0 (mE_P B z G t) := by
  obtain ⟨m, hm⟩ := hr
  obtain ⟨h1, h2, h3, h4⟩ := h
  have hm0 : mo_F B z G (ms_I (ms_I G 60 45 0) 60 46 0) i v [] o := by
    refine ⟨⟨rfl, rfl⟩, fun b j b1 b2 b3 b4 => ?_, fun _ _ _ => rfl, mo_tk h1 (fun k hk => ?_) rfl, ?_, ⟨?_, trivial, mi_s _ _ _ _⟩, ?_, fun k hk => ?_⟩
    · rw [mi_n (by omega), mi_n (by omega)]
    · rw [mi_n (by omega), mi_n (by omega)]
    · rw [mi_n (by omega), mi_n (by omega)]; exact h2
    · rw [mi_n (by omega), mi_s]; rfl
    · rw [mi_n (by omega), mi_n (by omega)]; exact h3
    · rw [mi_n (by omega), mi_n (by omega), mi_n (by omega), mi_n (by omega)]; exact h4 k hk
  have lp := lp_Mo_readE X d hF hz bb hB hE h0 ht m 0 i v [] o _ hm hm0 (jo_0 hv hi ho)
  refine aw_enter pf_Mo_readE (Nat.le_of_ble_eq_true rfl) ?_
  refine ar_aload_n (pc := 0) d_Mo_readE_0 rfl ?_
  refine ar_iconst (pc := 1) d_Mo_readE_1 ?_
  refine ar_putI (pc := 2) gf_Mo_276 d_Mo_readE_2 rfl (by first | rfl | exact sh_wheel (by omega) | exact sh_milk (by omega)) ⟨by omega, by omega⟩ ?_
  refine ar_aload_n (pc := 5) d_Mo_readE_5 rfl ?_
  refine ar_iconst (pc := 6) d_Mo_readE_6 ?_
  refine ar_putI (pc := 7) gf_Mo_279 d_Mo_readE_7 rfl (by first | rfl | exact sh_wheel (by omega) | exact sh_milk (by omega)) ⟨by omega, by omega⟩ ?_
  refine ar_iconst (pc := 10) d_Mo_readE_10 ?_
  refine ar_istore_n (pc := 11) d_Mo_readE_11 rfl (by decide) ?_
  rotate_left
  -- leaves: stop 12
  · exact ar_loc lp ⟨rfl, rfl, trivial⟩
