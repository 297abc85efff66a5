/-! ===== the reference's reader: operands ===== -/
theorem mo_v {B : Nat → Int} {z : Nat} {G G1 : mm_T} {i v : Nat} {W o : List Int} (h : mo_F B z G G1 i v W o) : mo_F B z G (ms_I G1 60 33 ((v : Int) + 1)) i (v + 1) W o := by
  obtain ⟨h1, h2, h3, h4, h5, ⟨h6, h7, h8⟩, h9, h10⟩ := h
  refine ⟨h1, fun b j b1 b2 b3 b4 => ?_, h3, mo_tk h4 (fun k hk => ?_) rfl, ?_, ⟨?_, wt_up W (fun j _ => ?_) h7, ?_⟩, ?_, fun k hk => ?_⟩
  · rw [mi_n (by omega)]; exact h2 b j b1 b2 b3 b4
  · rw [mi_n (by omega)]
  · rw [mi_s]; omega
  · rw [mi_n (by omega)]; exact h6
  · rw [mi_n (by omega)]
  · rw [mi_n (by omega)]; exact h8
  · rw [mi_n (by omega)]; exact h9
  · rw [mi_n (by omega), mi_n (by omega)]; exact h10 k hk
/-- what a step of the reference comes to -/
def mx_P (B : Nat → Int) (z : Nat) (G : mm_T) (s : px_T) (r : Option av_T) (G' : mm_T) : Prop := (∃ now i v W o, s = .inr (now, i, v, W, o) ∧ r = some (av_i (now : Nat)) ∧ mo_F B z G G' i v W o) ∨ (∃ k p x, s = .inl (k, p) ∧ (1 ≤ k ∧ k ≤ 3) ∧ r = some (av_i x) ∧ i3_in x ∧ mw_F G G' k p)
theorem fq_r (K : Nat → Int) (i : Nat) {k : Int} (h : 1 ≤ k ∧ k ≤ 3) : 1 ≤ fq_v K i k ∧ fq_v K i k ≤ 3 := by unfold fq_v; split <;> omega
theorem mw_e {G G1 : mm_T} {k p : Int} (h : mw_F G G1 k p) : mm_I G1 60 36 = k := h.2.2.2.1
theorem cm_Mo_operand0 (X : gx_T) (d : Nat) {B : Nat → Int} {z n : Nat} {G G1 : mm_T} {v0 : Nat} {o0 : List Int} {i v : Nat} {W o : List Int} (hF : fx_R G) (hz : mm_I G 60 39 = z) (bb : bb_B B z) (hB : mb_v G = B) (hE : te_E B z n) (h0 : mm_I G 60 36 = 0) (h : mo_F B z G G1 i v W o) (hj : jo_I n v0 o0 0 i v W o) : aw_M X (d + 3) mt_Mo_operand [av_r (some 60), av_i 0] G1 0 0 (mx_P B z G (px_d (tn_K B z) (pl_i B z) (tn_M B z) 0 i v W o)) := by
  have hW := jo_len hj
  obtain ⟨-, -, ⟨hdp, hdp'⟩, -, hv80, hin, hlen⟩ := hj
  have n5 := hE.1
  have hT := h.2.2.2.1
  have e46 := h.2.2.2.2.2.1.2.2
  have e33 := h.2.2.2.2.1
  have f36 : mm_I G1 60 36 = 0 := by rw [h.2.1 _ _ (by omega) (by omega) (by omega) (by omega)]; exact h0
  have kr := tk_r (B := B) (z := z) (a := ps_k B z i) bb
  have mr := tm_r (B := B) (z := z) (a := ps_k B z i) bb
  change 0 ≤ tn_K B z i ∧ tn_K B z i ≤ 303 at kr
  change 0 ≤ tn_M B z i ∧ tn_M B z i ≤ 999999 at mr
  have hF1 : fx_R G1 := fun a k b q => by rw [h.1.1]; exact hF a k b q
  have t2 := hT.2.1
  have t3 := hT.2.2.1
  unfold tw_R at t2
  rw [is_sv] at t2
  have cik := fun (q : mm_I G1 60 40 = 1) => cm_Mo_isKey X (d + 1) hT q
  have cnm := fun (q : mm_I G1 60 40 = 1) q2 => cm_Mo_named X (d + 1) hT q q2
  have cw := fun k (hk : 0 ≤ k ∧ k ≤ 3) => cm_Mo_wrong X (d + 1) (k := k) h h0 hk
  have cnot := cm_Mo_isWord X (d + 1) (w := 7) (c := 7237492) hT (by omega) rfl
  have b2 := fq_r (tn_K B z) i (k := 2) (by omega)
  have b3 := fq_r (tn_K B z) i (k := 3) (by omega)
  have hlt := fun q => te_n hE hin (i := i) q
  generalize hs : mm_I G1 60 40 = s at *
  have bad2 : px_d (tn_K B z) (pl_i B z) (tn_M B z) 0 i v W o = .inl (fq_v (tn_K B z) i 2, pl_i B z i) → ∀ G', mw_F G G' (fq_v (tn_K B z) i 2) (pl_i B z i) → mx_P B z G (px_d (tn_K B z) (pl_i B z) (tn_M B z) 0 i v W o) (some (av_i 0)) G' := fun q G' q2 => Or.inr ⟨_, _, 0, q, b2, rfl, ⟨by omega, by omega⟩, q2⟩
  have w2 := cw 2 (by omega)
  have w3 := cw 3 (by omega)
  have hK : tn_K B z i = 302 ∧ s = 2 ∨ (0 ≤ tn_K B z i ∧ tn_K B z i ≤ 7) ∧ s = 1 ∨ ((8 ≤ tn_K B z i ∧ tn_K B z i ≤ 17) ∨ tn_K B z i = 303) ∧ s = 1 ∨ ¬ (tn_K B z i = 302 ∨ (8 ≤ tn_K B z i ∧ tn_K B z i ≤ 17) ∨ tn_K B z i = 303) ∧ tn_K B z i ≠ 7 ∧ (s ≠ 1 ∧ s ≠ 2) ∧ (tn_K B z i = 40 ↔ s = 40) := by omega
  clear t2 cw
  have hF := hF1
  generalize hPX : px_d (tn_K B z) (pl_i B z) (tn_M B z) 0 i v W o = PX at *
  unfold px_d pb_v at hPX
  by_cases cA : 8 ≤ dp_n W
  · rw [if_pos ⟨rfl, cA⟩] at hPX
    have fin := bad2 hPX.symm
    clear hPX w3 cnm cnot
    rcases hK with ⟨k1, rfl⟩ | ⟨k1, rfl⟩ | ⟨k1, rfl⟩ | ⟨k1, k2, k3, k4⟩
    · skip
      refine aw_enter pf_Mo_operand (Nat.le_of_ble_eq_true rfl) ?_
      refine ar_aload_n (pc := 0) d_Mo_operand_0 rfl ?_
      refine ar_getIv (pc := 1) gf_Mo_222 d_Mo_operand_1 (by first | rfl | exact sh_wheel (by omega) | exact sh_milk (by omega)) hs (fun r_1 => ?_)
      refine ar_iconst (pc := 4) d_Mo_operand_4 ?_
      refine ar_icmp_eq (pc := 5) 23 d_Mo_operand_5 (by decide) ⟨by omega, by omega⟩ ⟨by omega, by omega⟩ (fun h_5 => ?_) (fun h_5 => by exfalso; omega)
      refine ar_iconst (pc := 23) d_Mo_operand_23 ?_
      refine ar_goto (pc := 24) 28 d_Mo_operand_24 (by decide) ?_
      refine ar_istore_n (pc := 28) d_Mo_operand_28 rfl (by decide) ?_
      refine ar_iload_n (pc := 29) d_Mo_operand_29 rfl ?_
      refine ar_if_ne (pc := 30) 50 d_Mo_operand_30 (by decide) ⟨by omega, by omega⟩ (fun h_30 => by exfalso; omega) (fun h_30 => ?_)
      refine ar_aload_n (pc := 33) d_Mo_operand_33 rfl ?_
      refine ar_getIv (pc := 34) gf_Mo_279 d_Mo_operand_34 (by first | rfl | exact sh_wheel (by omega) | exact sh_milk (by omega)) e46 (fun r_34 => ?_)
      refine ar_bipush (pc := 37) d_Mo_operand_37 (by decide) ?_
      refine ar_icmp_lt (pc := 39) 50 d_Mo_operand_39 (by decide) ⟨by omega, by omega⟩ ⟨by omega, by omega⟩ (fun h_39 => by exfalso; omega) (fun h_39 => ?_)
      refine ar_aload_n (pc := 42) d_Mo_operand_42 rfl ?_
      refine ar_iconst (pc := 43) d_Mo_operand_43 ?_
      refine ac_virt (pc := 44) (N := mt_Mo_wrong) _ _ mv_Mo_wrong ml_Mo_309 ck_12 d_Mo_operand_44 w2 (by first | rfl | exact sh_wheel (by omega) | exact sh_milk (by omega)) rfl rfl (Nat.le_of_ble_eq_true rfl) (Nat.le_of_eq (Nat.zero_add _)) (Nat.le_of_eq (Nat.zero_add _)) (fun r_44 G_44 h_44 => ?_)
      obtain ⟨rfl, q44⟩ := h_44
      refine ar_goto (pc := 47) 198 d_Mo_operand_47 (by decide) ?_
      refine ar_iload_n (pc := 198) d_Mo_operand_198 rfl ?_
      refine ar_iret (pc := 199) d_Mo_operand_199 rfl ?_
      rotate_left
      -- leaves: ret 199
      · exact fin _ q44
    · skip
      have cik := cik rfl; rw [if_pos k1] at cik
      refine aw_enter pf_Mo_operand (Nat.le_of_ble_eq_true rfl) ?_
      refine ar_aload_n (pc := 0) d_Mo_operand_0 rfl ?_
      refine ar_getIv (pc := 1) gf_Mo_222 d_Mo_operand_1 (by first | rfl | exact sh_wheel (by omega) | exact sh_milk (by omega)) hs (fun r_1 => ?_)
      refine ar_iconst (pc := 4) d_Mo_operand_4 ?_
      refine ar_icmp_eq (pc := 5) 23 d_Mo_operand_5 (by decide) ⟨by omega, by omega⟩ ⟨by omega, by omega⟩ (fun h_5 => by exfalso; omega) (fun h_5 => ?_)
      refine ar_aload_n (pc := 8) d_Mo_operand_8 rfl ?_
      refine ar_getIv (pc := 9) gf_Mo_222 d_Mo_operand_9 (by first | rfl | exact sh_wheel (by omega) | exact sh_milk (by omega)) hs (fun r_9 => ?_)
      refine ar_iconst (pc := 12) d_Mo_operand_12 ?_
      refine ar_icmp_ne (pc := 13) 27 d_Mo_operand_13 (by decide) ⟨by omega, by omega⟩ ⟨by omega, by omega⟩ (fun h_13 => by exfalso; omega) (fun h_13 => ?_)
      refine ar_aload_n (pc := 16) d_Mo_operand_16 rfl ?_
      refine ac_virt (pc := 17) (N := mt_Mo_isKey) _ _ mv_Mo_isKey ml_Mo_306 ck_12 d_Mo_operand_17 cik (by first | rfl | exact sh_wheel (by omega) | exact sh_milk (by omega)) rfl rfl (Nat.le_of_ble_eq_true rfl) (Nat.le_of_eq (Nat.zero_add _)) (Nat.le_of_eq (Nat.zero_add _)) (fun r_17 G_17 h_17 => ?_)
      obtain ⟨rfl, e_17⟩ := h_17
      subst G_17
      refine ar_if_ne (pc := 20) 27 d_Mo_operand_20 (by decide) ⟨by omega, by omega⟩ (fun h_20 => ?_) (fun h_20 => by exfalso; omega)
      refine ar_iconst (pc := 27) d_Mo_operand_27 ?_
      refine ar_istore_n (pc := 28) d_Mo_operand_28 rfl (by decide) ?_
      refine ar_iload_n (pc := 29) d_Mo_operand_29 rfl ?_
      refine ar_if_ne (pc := 30) 50 d_Mo_operand_30 (by decide) ⟨by omega, by omega⟩ (fun h_30 => by exfalso; omega) (fun h_30 => ?_)
      refine ar_aload_n (pc := 33) d_Mo_operand_33 rfl ?_
      refine ar_getIv (pc := 34) gf_Mo_279 d_Mo_operand_34 (by first | rfl | exact sh_wheel (by omega) | exact sh_milk (by omega)) e46 (fun r_34 => ?_)
      refine ar_bipush (pc := 37) d_Mo_operand_37 (by decide) ?_
      refine ar_icmp_lt (pc := 39) 50 d_Mo_operand_39 (by decide) ⟨by omega, by omega⟩ ⟨by omega, by omega⟩ (fun h_39 => by exfalso; omega) (fun h_39 => ?_)
      refine ar_aload_n (pc := 42) d_Mo_operand_42 rfl ?_
      refine ar_iconst (pc := 43) d_Mo_operand_43 ?_
      refine ac_virt (pc := 44) (N := mt_Mo_wrong) _ _ mv_Mo_wrong ml_Mo_309 ck_12 d_Mo_operand_44 w2 (by first | rfl | exact sh_wheel (by omega) | exact sh_milk (by omega)) rfl rfl (Nat.le_of_ble_eq_true rfl) (Nat.le_of_eq (Nat.zero_add _)) (Nat.le_of_eq (Nat.zero_add _)) (fun r_44 G_44 h_44 => ?_)
      obtain ⟨rfl, q44⟩ := h_44
      refine ar_goto (pc := 47) 198 d_Mo_operand_47 (by decide) ?_
      refine ar_iload_n (pc := 198) d_Mo_operand_198 rfl ?_
      refine ar_iret (pc := 199) d_Mo_operand_199 rfl ?_
      rotate_left
      -- leaves: ret 199
      · exact fin _ q44
    · skip
      have cik := cik rfl; rw [if_neg (by omega)] at cik
      refine aw_enter pf_Mo_operand (Nat.le_of_ble_eq_true rfl) ?_
      refine ar_aload_n (pc := 0) d_Mo_operand_0 rfl ?_
      refine ar_getIv (pc := 1) gf_Mo_222 d_Mo_operand_1 (by first | rfl | exact sh_wheel (by omega) | exact sh_milk (by omega)) hs (fun r_1 => ?_)
      refine ar_iconst (pc := 4) d_Mo_operand_4 ?_
      refine ar_icmp_eq (pc := 5) 23 d_Mo_operand_5 (by decide) ⟨by omega, by omega⟩ ⟨by omega, by omega⟩ (fun h_5 => by exfalso; omega) (fun h_5 => ?_)
      refine ar_aload_n (pc := 8) d_Mo_operand_8 rfl ?_
      refine ar_getIv (pc := 9) gf_Mo_222 d_Mo_operand_9 (by first | rfl | exact sh_wheel (by omega) | exact sh_milk (by omega)) hs (fun r_9 => ?_)
      refine ar_iconst (pc := 12) d_Mo_operand_12 ?_
      refine ar_icmp_ne (pc := 13) 27 d_Mo_operand_13 (by decide) ⟨by omega, by omega⟩ ⟨by omega, by omega⟩ (fun h_13 => by exfalso; omega) (fun h_13 => ?_)
      refine ar_aload_n (pc := 16) d_Mo_operand_16 rfl ?_
      refine ac_virt (pc := 17) (N := mt_Mo_isKey) _ _ mv_Mo_isKey ml_Mo_306 ck_12 d_Mo_operand_17 cik (by first | rfl | exact sh_wheel (by omega) | exact sh_milk (by omega)) rfl rfl (Nat.le_of_ble_eq_true rfl) (Nat.le_of_eq (Nat.zero_add _)) (Nat.le_of_eq (Nat.zero_add _)) (fun r_17 G_17 h_17 => ?_)
      obtain ⟨rfl, e_17⟩ := h_17
      subst G_17
      refine ar_if_ne (pc := 20) 27 d_Mo_operand_20 (by decide) ⟨by omega, by omega⟩ (fun h_20 => by exfalso; omega) (fun h_20 => ?_)
      refine ar_iconst (pc := 23) d_Mo_operand_23 ?_
      refine ar_goto (pc := 24) 28 d_Mo_operand_24 (by decide) ?_
      refine ar_istore_n (pc := 28) d_Mo_operand_28 rfl (by decide) ?_
      refine ar_iload_n (pc := 29) d_Mo_operand_29 rfl ?_
      refine ar_if_ne (pc := 30) 50 d_Mo_operand_30 (by decide) ⟨by omega, by omega⟩ (fun h_30 => by exfalso; omega) (fun h_30 => ?_)
      refine ar_aload_n (pc := 33) d_Mo_operand_33 rfl ?_
      refine ar_getIv (pc := 34) gf_Mo_279 d_Mo_operand_34 (by first | rfl | exact sh_wheel (by omega) | exact sh_milk (by omega)) e46 (fun r_34 => ?_)
      refine ar_bipush (pc := 37) d_Mo_operand_37 (by decide) ?_
      refine ar_icmp_lt (pc := 39) 50 d_Mo_operand_39 (by decide) ⟨by omega, by omega⟩ ⟨by omega, by omega⟩ (fun h_39 => by exfalso; omega) (fun h_39 => ?_)
      refine ar_aload_n (pc := 42) d_Mo_operand_42 rfl ?_
      refine ar_iconst (pc := 43) d_Mo_operand_43 ?_
      refine ac_virt (pc := 44) (N := mt_Mo_wrong) _ _ mv_Mo_wrong ml_Mo_309 ck_12 d_Mo_operand_44 w2 (by first | rfl | exact sh_wheel (by omega) | exact sh_milk (by omega)) rfl rfl (Nat.le_of_ble_eq_true rfl) (Nat.le_of_eq (Nat.zero_add _)) (Nat.le_of_eq (Nat.zero_add _)) (fun r_44 G_44 h_44 => ?_)
      obtain ⟨rfl, q44⟩ := h_44
      refine ar_goto (pc := 47) 198 d_Mo_operand_47 (by decide) ?_
      refine ar_iload_n (pc := 198) d_Mo_operand_198 rfl ?_
      refine ar_iret (pc := 199) d_Mo_operand_199 rfl ?_
      rotate_left
      -- leaves: ret 199
      · exact fin _ q44
    · skip
      refine aw_enter pf_Mo_operand (Nat.le_of_ble_eq_true rfl) ?_
      refine ar_aload_n (pc := 0) d_Mo_operand_0 rfl ?_
      refine ar_getIv (pc := 1) gf_Mo_222 d_Mo_operand_1 (by first | rfl | exact sh_wheel (by omega) | exact sh_milk (by omega)) hs (fun r_1 => ?_)
      refine ar_iconst (pc := 4) d_Mo_operand_4 ?_
      refine ar_icmp_eq (pc := 5) 23 d_Mo_operand_5 (by decide) ⟨by omega, by omega⟩ ⟨by omega, by omega⟩ (fun h_5 => by exfalso; omega) (fun h_5 => ?_)
      refine ar_aload_n (pc := 8) d_Mo_operand_8 rfl ?_
      refine ar_getIv (pc := 9) gf_Mo_222 d_Mo_operand_9 (by first | rfl | exact sh_wheel (by omega) | exact sh_milk (by omega)) hs (fun r_9 => ?_)
      refine ar_iconst (pc := 12) d_Mo_operand_12 ?_
      refine ar_icmp_ne (pc := 13) 27 d_Mo_operand_13 (by decide) ⟨by omega, by omega⟩ ⟨by omega, by omega⟩ (fun h_13 => ?_) (fun h_13 => by exfalso; omega)
      refine ar_iconst (pc := 27) d_Mo_operand_27 ?_
      refine ar_istore_n (pc := 28) d_Mo_operand_28 rfl (by decide) ?_
      refine ar_iload_n (pc := 29) d_Mo_operand_29 rfl ?_
      refine ar_if_ne (pc := 30) 50 d_Mo_operand_30 (by decide) ⟨by omega, by omega⟩ (fun h_30 => by exfalso; omega) (fun h_30 => ?_)
      refine ar_aload_n (pc := 33) d_Mo_operand_33 rfl ?_
      refine ar_getIv (pc := 34) gf_Mo_279 d_Mo_operand_34 (by first | rfl | exact sh_wheel (by omega) | exact sh_milk (by omega)) e46 (fun r_34 => ?_)
      refine ar_bipush (pc := 37) d_Mo_operand_37 (by decide) ?_
      refine ar_icmp_lt (pc := 39) 50 d_Mo_operand_39 (by decide) ⟨by omega, by omega⟩ ⟨by omega, by omega⟩ (fun h_39 => by exfalso; omega) (fun h_39 => ?_)
      refine ar_aload_n (pc := 42) d_Mo_operand_42 rfl ?_
      refine ar_iconst (pc := 43) d_Mo_operand_43 ?_
      refine ac_virt (pc := 44) (N := mt_Mo_wrong) _ _ mv_Mo_wrong ml_Mo_309 ck_12 d_Mo_operand_44 w2 (by first | rfl | exact sh_wheel (by omega) | exact sh_milk (by omega)) rfl rfl (Nat.le_of_ble_eq_true rfl) (Nat.le_of_eq (Nat.zero_add _)) (Nat.le_of_eq (Nat.zero_add _)) (fun r_44 G_44 h_44 => ?_)
      obtain ⟨rfl, q44⟩ := h_44
      refine ar_goto (pc := 47) 198 d_Mo_operand_47 (by decide) ?_
      refine ar_iload_n (pc := 198) d_Mo_operand_198 rfl ?_
      refine ar_iret (pc := 199) d_Mo_operand_199 rfl ?_
      rotate_left
      -- leaves: ret 199
      · exact fin _ q44
  · rw [if_neg (fun q => cA q.2)] at hPX
    rcases hK with ⟨k1, rfl⟩ | ⟨k1, rfl⟩ | ⟨k1, rfl⟩ | ⟨k1, k2, k3, k4⟩
    · rw [if_pos (Or.inl k1)] at hPX
      clear cnm cnot cik
      by_cases v80 : v = 80
      · rw [if_pos v80] at hPX
        have fin := bad2 hPX.symm
        refine aw_enter pf_Mo_operand (Nat.le_of_ble_eq_true rfl) ?_
        refine ar_aload_n (pc := 0) d_Mo_operand_0 rfl ?_
        refine ar_getIv (pc := 1) gf_Mo_222 d_Mo_operand_1 (by first | rfl | exact sh_wheel (by omega) | exact sh_milk (by omega)) hs (fun r_1 => ?_)
        refine ar_iconst (pc := 4) d_Mo_operand_4 ?_
        refine ar_icmp_eq (pc := 5) 23 d_Mo_operand_5 (by decide) ⟨by omega, by omega⟩ ⟨by omega, by omega⟩ (fun h_5 => ?_) (fun h_5 => by exfalso; omega)
        refine ar_iconst (pc := 23) d_Mo_operand_23 ?_
        refine ar_goto (pc := 24) 28 d_Mo_operand_24 (by decide) ?_
        refine ar_istore_n (pc := 28) d_Mo_operand_28 rfl (by decide) ?_
        refine ar_iload_n (pc := 29) d_Mo_operand_29 rfl ?_
        refine ar_if_ne (pc := 30) 50 d_Mo_operand_30 (by decide) ⟨by omega, by omega⟩ (fun h_30 => by exfalso; omega) (fun h_30 => ?_)
        refine ar_aload_n (pc := 33) d_Mo_operand_33 rfl ?_
        refine ar_getIv (pc := 34) gf_Mo_279 d_Mo_operand_34 (by first | rfl | exact sh_wheel (by omega) | exact sh_milk (by omega)) e46 (fun r_34 => ?_)
        refine ar_bipush (pc := 37) d_Mo_operand_37 (by decide) ?_
        refine ar_icmp_lt (pc := 39) 50 d_Mo_operand_39 (by decide) ⟨by omega, by omega⟩ ⟨by omega, by omega⟩ (fun h_39 => ?_) (fun h_39 => by exfalso; omega)
        refine ar_iload_n (pc := 50) d_Mo_operand_50 rfl ?_
        refine ar_if_eq (pc := 51) 146 d_Mo_operand_51 (by decide) ⟨by omega, by omega⟩ (fun h_51 => by exfalso; omega) (fun h_51 => ?_)
        refine ar_aload_n (pc := 54) d_Mo_operand_54 rfl ?_
        refine ar_getIv (pc := 55) gf_Mo_222 d_Mo_operand_55 (by first | rfl | exact sh_wheel (by omega) | exact sh_milk (by omega)) hs (fun r_55 => ?_)
        refine ar_iconst (pc := 58) d_Mo_operand_58 ?_
        refine ar_icmp_ne (pc := 59) 69 d_Mo_operand_59 (by decide) ⟨by omega, by omega⟩ ⟨by omega, by omega⟩ (fun h_59 => ?_) (fun h_59 => by exfalso; omega)
        refine ar_iconst (pc := 69) d_Mo_operand_69 ?_
        refine ar_istore_n (pc := 70) d_Mo_operand_70 rfl (by decide) ?_
        refine ar_aload_n (pc := 71) d_Mo_operand_71 rfl ?_
        refine ar_getIv (pc := 72) gf_Mo_315 d_Mo_operand_72 (by first | rfl | exact sh_wheel (by omega) | exact sh_milk (by omega)) e33 (fun r_72 => ?_)
        refine ar_bipush (pc := 75) d_Mo_operand_75 (by decide) ?_
        refine ar_icmp_ne (pc := 77) 88 d_Mo_operand_77 (by decide) ⟨by omega, by omega⟩ ⟨by omega, by omega⟩ (fun h_77 => by exfalso; omega) (fun h_77 => ?_)
        refine ar_aload_n (pc := 80) d_Mo_operand_80 rfl ?_
        refine ar_iconst (pc := 81) d_Mo_operand_81 ?_
        refine ac_virt (pc := 82) (N := mt_Mo_wrong) _ _ mv_Mo_wrong ml_Mo_309 ck_12 d_Mo_operand_82 w2 (by first | rfl | exact sh_wheel (by omega) | exact sh_milk (by omega)) rfl rfl (Nat.le_of_ble_eq_true rfl) (Nat.le_of_eq (Nat.zero_add _)) (Nat.le_of_eq (Nat.zero_add _)) (fun r_82 G_82 h_82 => ?_)
        obtain ⟨rfl, q82⟩ := h_82
        refine ar_goto (pc := 85) 97 d_Mo_operand_85 (by decide) ?_
        refine ar_aload_n (pc := 97) d_Mo_operand_97 rfl ?_
        refine ar_getIv (pc := 98) gf_Mo_234 d_Mo_operand_98 (by first | rfl | exact sh_wheel (by omega) | exact sh_milk (by omega)) (mw_e q82) (fun r_98 => ?_)
        refine ar_if_le (pc := 101) 106 d_Mo_operand_101 (by decide) ⟨by omega, by omega⟩ (fun h_101 => by exfalso; omega) (fun h_101 => ?_)
        refine ar_iload_n (pc := 104) d_Mo_operand_104 rfl ?_
        refine ar_iret (pc := 105) d_Mo_operand_105 rfl ?_
        rotate_left
        -- leaves: ret 105
        · exact fin _ q82
      · rw [if_neg v80, if_neg (by omega), if_pos k1] at hPX
        have hl := hlt (by omega)
        have c127 := cm_Mo_step X (d + 1) (y := tn_M B z i) (a := 0) (b := tn_M B z i) (by exact fun a k b q => by rw [← h.1.1]; exact hF a k b q) h (Or.inl ⟨by omega, rfl, rfl⟩) ⟨by omega, by omega⟩ ⟨by omega, by omega⟩ (by omega)
        have c141 := fun G2 q => cm_Mo_nx X d (G1 := G2) (i := i) (v := v + 1) (W := W) (o := o ++ [tn_M B z i]) (by exact fun a k b q => by rw [← h.1.1]; exact hF a k b q) hz bb hB hE q hl
        have e42 := t3 k1
        refine aw_enter pf_Mo_operand (Nat.le_of_ble_eq_true rfl) ?_
        refine ar_aload_n (pc := 0) d_Mo_operand_0 rfl ?_
        refine ar_getIv (pc := 1) gf_Mo_222 d_Mo_operand_1 (by first | rfl | exact sh_wheel (by omega) | exact sh_milk (by omega)) hs (fun r_1 => ?_)
        refine ar_iconst (pc := 4) d_Mo_operand_4 ?_
        refine ar_icmp_eq (pc := 5) 23 d_Mo_operand_5 (by decide) ⟨by omega, by omega⟩ ⟨by omega, by omega⟩ (fun h_5 => ?_) (fun h_5 => by exfalso; omega)
        refine ar_iconst (pc := 23) d_Mo_operand_23 ?_
        refine ar_goto (pc := 24) 28 d_Mo_operand_24 (by decide) ?_
        refine ar_istore_n (pc := 28) d_Mo_operand_28 rfl (by decide) ?_
        refine ar_iload_n (pc := 29) d_Mo_operand_29 rfl ?_
        refine ar_if_ne (pc := 30) 50 d_Mo_operand_30 (by decide) ⟨by omega, by omega⟩ (fun h_30 => by exfalso; omega) (fun h_30 => ?_)
        refine ar_aload_n (pc := 33) d_Mo_operand_33 rfl ?_
        refine ar_getIv (pc := 34) gf_Mo_279 d_Mo_operand_34 (by first | rfl | exact sh_wheel (by omega) | exact sh_milk (by omega)) e46 (fun r_34 => ?_)
        refine ar_bipush (pc := 37) d_Mo_operand_37 (by decide) ?_
        refine ar_icmp_lt (pc := 39) 50 d_Mo_operand_39 (by decide) ⟨by omega, by omega⟩ ⟨by omega, by omega⟩ (fun h_39 => ?_) (fun h_39 => by exfalso; omega)
        refine ar_iload_n (pc := 50) d_Mo_operand_50 rfl ?_
        refine ar_if_eq (pc := 51) 146 d_Mo_operand_51 (by decide) ⟨by omega, by omega⟩ (fun h_51 => by exfalso; omega) (fun h_51 => ?_)
        refine ar_aload_n (pc := 54) d_Mo_operand_54 rfl ?_
        refine ar_getIv (pc := 55) gf_Mo_222 d_Mo_operand_55 (by first | rfl | exact sh_wheel (by omega) | exact sh_milk (by omega)) hs (fun r_55 => ?_)
        refine ar_iconst (pc := 58) d_Mo_operand_58 ?_
        refine ar_icmp_ne (pc := 59) 69 d_Mo_operand_59 (by decide) ⟨by omega, by omega⟩ ⟨by omega, by omega⟩ (fun h_59 => ?_) (fun h_59 => by exfalso; omega)
        refine ar_iconst (pc := 69) d_Mo_operand_69 ?_
        refine ar_istore_n (pc := 70) d_Mo_operand_70 rfl (by decide) ?_
        refine ar_aload_n (pc := 71) d_Mo_operand_71 rfl ?_
        refine ar_getIv (pc := 72) gf_Mo_315 d_Mo_operand_72 (by first | rfl | exact sh_wheel (by omega) | exact sh_milk (by omega)) e33 (fun r_72 => ?_)
        refine ar_bipush (pc := 75) d_Mo_operand_75 (by decide) ?_
        refine ar_icmp_ne (pc := 77) 88 d_Mo_operand_77 (by decide) ⟨by omega, by omega⟩ ⟨by omega, by omega⟩ (fun h_77 => ?_) (fun h_77 => by exfalso; omega)
        refine ar_iload_n (pc := 88) d_Mo_operand_88 rfl ?_
        refine ar_if_ge (pc := 89) 97 d_Mo_operand_89 (by decide) ⟨by omega, by omega⟩ (fun h_89 => ?_) (fun h_89 => by exfalso; omega)
        refine ar_aload_n (pc := 97) d_Mo_operand_97 rfl ?_
        refine ar_getIv (pc := 98) gf_Mo_234 d_Mo_operand_98 (by first | rfl | exact sh_wheel (by omega) | exact sh_milk (by omega)) f36 (fun r_98 => ?_)
        refine ar_if_le (pc := 101) 106 d_Mo_operand_101 (by decide) ⟨by omega, by omega⟩ (fun h_101 => ?_) (fun h_101 => by exfalso; omega)
        refine ar_aload_n (pc := 106) d_Mo_operand_106 rfl ?_
        refine ar_aload_n (pc := 107) d_Mo_operand_107 rfl ?_
        refine ar_getIv (pc := 108) gf_Mo_222 d_Mo_operand_108 (by first | rfl | exact sh_wheel (by omega) | exact sh_milk (by omega)) hs (fun r_108 => ?_)
        refine ar_iconst (pc := 111) d_Mo_operand_111 ?_
        refine ar_icmp_ne (pc := 112) 119 d_Mo_operand_112 (by decide) ⟨by omega, by omega⟩ ⟨by omega, by omega⟩ (fun h_112 => by exfalso; omega) (fun h_112 => ?_)
        refine ar_iconst (pc := 115) d_Mo_operand_115 ?_
        refine ar_goto (pc := 116) 123 d_Mo_operand_116 (by decide) ?_
        refine ar_aload_n (pc := 123) d_Mo_operand_123 rfl ?_
        refine ar_getIv (pc := 124) gf_Mo_219 d_Mo_operand_124 (by first | rfl | exact sh_wheel (by omega) | exact sh_milk (by omega)) e42 (fun r_124 => ?_)
        refine ac_virt (pc := 127) (N := mt_Mo_step) _ _ mv_Mo_step ml_Mo_282 ck_12 d_Mo_operand_127 c127 (by first | rfl | exact sh_wheel (by omega) | exact sh_milk (by omega)) rfl rfl (Nat.le_of_ble_eq_true rfl) (Nat.le_of_eq (Nat.zero_add _)) (Nat.le_of_eq (Nat.zero_add _)) (fun r_127 G_127 h_127 => ?_)
        obtain ⟨rfl, q127⟩ := h_127
        refine ar_aload_n (pc := 130) d_Mo_operand_130 rfl ?_
        refine ar_dup (pc := 131) d_Mo_operand_131 rfl ?_
        refine ar_getIv (pc := 132) gf_Mo_315 d_Mo_operand_132 (by first | rfl | exact sh_wheel (by omega) | exact sh_milk (by omega)) (q127.2.2.2.2.1) (fun r_132 => ?_)
        refine ar_iconst (pc := 135) d_Mo_operand_135 ?_
        refine ar_iadd (pc := 136) d_Mo_operand_136 ?_
        refine ar_putI (pc := 137) gf_Mo_315 d_Mo_operand_137 rfl (by first | rfl | exact sh_wheel (by omega) | exact sh_milk (by omega)) ⟨by omega, by omega⟩ ?_
        refine ar_aload_n (pc := 140) d_Mo_operand_140 rfl ?_
        refine ac_virt (pc := 141) (N := mt_Mo_next) _ _ mv_Mo_next ml_Mo_318 ck_12 d_Mo_operand_141 (c141 _ (mo_v q127)) (by first | rfl | exact sh_wheel (by omega) | exact sh_milk (by omega)) rfl rfl (Nat.le_of_ble_eq_true rfl) (Nat.le_of_eq (Nat.zero_add _)) (Nat.le_of_eq (Nat.zero_add _)) (fun r_141 G_141 h_141 => ?_)
        obtain ⟨rfl, q141⟩ := h_141
        refine ar_iconst (pc := 144) d_Mo_operand_144 ?_
        refine ar_iret (pc := 145) d_Mo_operand_145 rfl ?_
        rotate_left
        -- leaves: ret 145
        · exact Or.inl ⟨2, i + 1, v + 1, W, _, hPX.symm, rfl, q141⟩
    · rw [if_neg (by omega), if_neg (by omega)] at hPX
      have cik := cik rfl; rw [if_pos k1] at cik
      clear cnm w3 t3
      by_cases k7 : tn_K B z i = 7
      · rw [if_pos ⟨rfl, k7⟩] at hPX
        have hl := hlt (by omega)
        have c184 := cm_Mo_hold X (d + 1) (w := 40) (by exact fun a k b q => by rw [← h.1.1]; exact hF a k b q) h (by omega) (by omega) (by omega)
        have c188 := fun G2 q => cm_Mo_nx X d (G1 := G2) (i := i) (v := v) (W := 40 :: W) (o := o) (by exact fun a k b q => by rw [← h.1.1]; exact hF a k b q) hz bb hB hE q hl
        rw [if_pos (by omega)] at cnot
        refine aw_enter pf_Mo_operand (Nat.le_of_ble_eq_true rfl) ?_
        refine ar_aload_n (pc := 0) d_Mo_operand_0 rfl ?_
        refine ar_getIv (pc := 1) gf_Mo_222 d_Mo_operand_1 (by first | rfl | exact sh_wheel (by omega) | exact sh_milk (by omega)) hs (fun r_1 => ?_)
        refine ar_iconst (pc := 4) d_Mo_operand_4 ?_
        refine ar_icmp_eq (pc := 5) 23 d_Mo_operand_5 (by decide) ⟨by omega, by omega⟩ ⟨by omega, by omega⟩ (fun h_5 => by exfalso; omega) (fun h_5 => ?_)
        refine ar_aload_n (pc := 8) d_Mo_operand_8 rfl ?_
        refine ar_getIv (pc := 9) gf_Mo_222 d_Mo_operand_9 (by first | rfl | exact sh_wheel (by omega) | exact sh_milk (by omega)) hs (fun r_9 => ?_)
        refine ar_iconst (pc := 12) d_Mo_operand_12 ?_
        refine ar_icmp_ne (pc := 13) 27 d_Mo_operand_13 (by decide) ⟨by omega, by omega⟩ ⟨by omega, by omega⟩ (fun h_13 => by exfalso; omega) (fun h_13 => ?_)
        refine ar_aload_n (pc := 16) d_Mo_operand_16 rfl ?_
        refine ac_virt (pc := 17) (N := mt_Mo_isKey) _ _ mv_Mo_isKey ml_Mo_306 ck_12 d_Mo_operand_17 cik (by first | rfl | exact sh_wheel (by omega) | exact sh_milk (by omega)) rfl rfl (Nat.le_of_ble_eq_true rfl) (Nat.le_of_eq (Nat.zero_add _)) (Nat.le_of_eq (Nat.zero_add _)) (fun r_17 G_17 h_17 => ?_)
        obtain ⟨rfl, e_17⟩ := h_17
        subst G_17
        refine ar_if_ne (pc := 20) 27 d_Mo_operand_20 (by decide) ⟨by omega, by omega⟩ (fun h_20 => ?_) (fun h_20 => by exfalso; omega)
        refine ar_iconst (pc := 27) d_Mo_operand_27 ?_
        refine ar_istore_n (pc := 28) d_Mo_operand_28 rfl (by decide) ?_
        refine ar_iload_n (pc := 29) d_Mo_operand_29 rfl ?_
        refine ar_if_ne (pc := 30) 50 d_Mo_operand_30 (by decide) ⟨by omega, by omega⟩ (fun h_30 => by exfalso; omega) (fun h_30 => ?_)
        refine ar_aload_n (pc := 33) d_Mo_operand_33 rfl ?_
        refine ar_getIv (pc := 34) gf_Mo_279 d_Mo_operand_34 (by first | rfl | exact sh_wheel (by omega) | exact sh_milk (by omega)) e46 (fun r_34 => ?_)
        refine ar_bipush (pc := 37) d_Mo_operand_37 (by decide) ?_
        refine ar_icmp_lt (pc := 39) 50 d_Mo_operand_39 (by decide) ⟨by omega, by omega⟩ ⟨by omega, by omega⟩ (fun h_39 => ?_) (fun h_39 => by exfalso; omega)
        refine ar_iload_n (pc := 50) d_Mo_operand_50 rfl ?_
        refine ar_if_eq (pc := 51) 146 d_Mo_operand_51 (by decide) ⟨by omega, by omega⟩ (fun h_51 => ?_) (fun h_51 => by exfalso; omega)
        refine ar_aload_n (pc := 146) d_Mo_operand_146 rfl ?_
        refine ar_getIv (pc := 147) gf_Mo_222 d_Mo_operand_147 (by first | rfl | exact sh_wheel (by omega) | exact sh_milk (by omega)) hs (fun r_147 => ?_)
        refine ar_bipush (pc := 150) d_Mo_operand_150 (by decide) ?_
        refine ar_icmp_ne (pc := 152) 167 d_Mo_operand_152 (by decide) ⟨by omega, by omega⟩ ⟨by omega, by omega⟩ (fun h_152 => ?_) (fun h_152 => by exfalso; omega)
        refine ar_iload_n (pc := 167) d_Mo_operand_167 rfl ?_
        refine ar_if_ne (pc := 168) 193 d_Mo_operand_168 (by decide) ⟨by omega, by omega⟩ (fun h_168 => by exfalso; omega) (fun h_168 => ?_)
        refine ar_aload_n (pc := 171) d_Mo_operand_171 rfl ?_
        refine ar_ldc2 (pc := 172) (7237492) kj_Mo_251 d_Mo_operand_172 (by decide) ?_
        refine ac_virt (pc := 175) (N := mt_Mo_isWord) _ _ mv_Mo_isWord ml_Mo_288 ck_12 d_Mo_operand_175 cnot (by first | rfl | exact sh_wheel (by omega) | exact sh_milk (by omega)) rfl rfl (Nat.le_of_ble_eq_true rfl) (Nat.le_of_eq (Nat.zero_add _)) (Nat.le_of_eq (Nat.zero_add _)) (fun r_175 G_175 h_175 => ?_)
        obtain ⟨rfl, e_175⟩ := h_175
        subst G_175
        refine ar_if_eq (pc := 178) 193 d_Mo_operand_178 (by decide) ⟨by omega, by omega⟩ (fun h_178 => by exfalso; omega) (fun h_178 => ?_)
        refine ar_aload_n (pc := 181) d_Mo_operand_181 rfl ?_
        refine ar_bipush (pc := 182) d_Mo_operand_182 (by decide) ?_
        refine ac_virt (pc := 184) (N := mt_Mo_hold) _ _ mv_Mo_hold ml_Mo_321 ck_12 d_Mo_operand_184 c184 (by first | rfl | exact sh_wheel (by omega) | exact sh_milk (by omega)) rfl rfl (Nat.le_of_ble_eq_true rfl) (Nat.le_of_eq (Nat.zero_add _)) (Nat.le_of_eq (Nat.zero_add _)) (fun r_184 G_184 h_184 => ?_)
        obtain ⟨rfl, q184⟩ := h_184
        refine ar_aload_n (pc := 187) d_Mo_operand_187 rfl ?_
        refine ac_virt (pc := 188) (N := mt_Mo_next) _ _ mv_Mo_next ml_Mo_318 ck_12 d_Mo_operand_188 (c188 _ q184) (by first | rfl | exact sh_wheel (by omega) | exact sh_milk (by omega)) rfl rfl (Nat.le_of_ble_eq_true rfl) (Nat.le_of_eq (Nat.zero_add _)) (Nat.le_of_eq (Nat.zero_add _)) (fun r_188 G_188 h_188 => ?_)
        obtain ⟨rfl, q188⟩ := h_188
        refine ar_iconst (pc := 191) d_Mo_operand_191 ?_
        refine ar_iret (pc := 192) d_Mo_operand_192 rfl ?_
        rotate_left
        -- leaves: ret 192
        · exact Or.inl ⟨0, i + 1, v, 40 :: W, o, hPX.symm, rfl, q188⟩
      · rw [if_neg (fun q => k7 q.2)] at hPX
        have fin := bad2 hPX.symm
        rw [if_neg (by omega)] at cnot
        refine aw_enter pf_Mo_operand (Nat.le_of_ble_eq_true rfl) ?_
        refine ar_aload_n (pc := 0) d_Mo_operand_0 rfl ?_
        refine ar_getIv (pc := 1) gf_Mo_222 d_Mo_operand_1 (by first | rfl | exact sh_wheel (by omega) | exact sh_milk (by omega)) hs (fun r_1 => ?_)
        refine ar_iconst (pc := 4) d_Mo_operand_4 ?_
        refine ar_icmp_eq (pc := 5) 23 d_Mo_operand_5 (by decide) ⟨by omega, by omega⟩ ⟨by omega, by omega⟩ (fun h_5 => by exfalso; omega) (fun h_5 => ?_)
        refine ar_aload_n (pc := 8) d_Mo_operand_8 rfl ?_
        refine ar_getIv (pc := 9) gf_Mo_222 d_Mo_operand_9 (by first | rfl | exact sh_wheel (by omega) | exact sh_milk (by omega)) hs (fun r_9 => ?_)
        refine ar_iconst (pc := 12) d_Mo_operand_12 ?_
        refine ar_icmp_ne (pc := 13) 27 d_Mo_operand_13 (by decide) ⟨by omega, by omega⟩ ⟨by omega, by omega⟩ (fun h_13 => by exfalso; omega) (fun h_13 => ?_)
        refine ar_aload_n (pc := 16) d_Mo_operand_16 rfl ?_
        refine ac_virt (pc := 17) (N := mt_Mo_isKey) _ _ mv_Mo_isKey ml_Mo_306 ck_12 d_Mo_operand_17 cik (by first | rfl | exact sh_wheel (by omega) | exact sh_milk (by omega)) rfl rfl (Nat.le_of_ble_eq_true rfl) (Nat.le_of_eq (Nat.zero_add _)) (Nat.le_of_eq (Nat.zero_add _)) (fun r_17 G_17 h_17 => ?_)
        obtain ⟨rfl, e_17⟩ := h_17
        subst G_17
        refine ar_if_ne (pc := 20) 27 d_Mo_operand_20 (by decide) ⟨by omega, by omega⟩ (fun h_20 => ?_) (fun h_20 => by exfalso; omega)
        refine ar_iconst (pc := 27) d_Mo_operand_27 ?_
        refine ar_istore_n (pc := 28) d_Mo_operand_28 rfl (by decide) ?_
        refine ar_iload_n (pc := 29) d_Mo_operand_29 rfl ?_
        refine ar_if_ne (pc := 30) 50 d_Mo_operand_30 (by decide) ⟨by omega, by omega⟩ (fun h_30 => by exfalso; omega) (fun h_30 => ?_)
        refine ar_aload_n (pc := 33) d_Mo_operand_33 rfl ?_
        refine ar_getIv (pc := 34) gf_Mo_279 d_Mo_operand_34 (by first | rfl | exact sh_wheel (by omega) | exact sh_milk (by omega)) e46 (fun r_34 => ?_)
        refine ar_bipush (pc := 37) d_Mo_operand_37 (by decide) ?_
        refine ar_icmp_lt (pc := 39) 50 d_Mo_operand_39 (by decide) ⟨by omega, by omega⟩ ⟨by omega, by omega⟩ (fun h_39 => ?_) (fun h_39 => by exfalso; omega)
        refine ar_iload_n (pc := 50) d_Mo_operand_50 rfl ?_
        refine ar_if_eq (pc := 51) 146 d_Mo_operand_51 (by decide) ⟨by omega, by omega⟩ (fun h_51 => ?_) (fun h_51 => by exfalso; omega)
        refine ar_aload_n (pc := 146) d_Mo_operand_146 rfl ?_
        refine ar_getIv (pc := 147) gf_Mo_222 d_Mo_operand_147 (by first | rfl | exact sh_wheel (by omega) | exact sh_milk (by omega)) hs (fun r_147 => ?_)
        refine ar_bipush (pc := 150) d_Mo_operand_150 (by decide) ?_
        refine ar_icmp_ne (pc := 152) 167 d_Mo_operand_152 (by decide) ⟨by omega, by omega⟩ ⟨by omega, by omega⟩ (fun h_152 => ?_) (fun h_152 => by exfalso; omega)
        refine ar_iload_n (pc := 167) d_Mo_operand_167 rfl ?_
        refine ar_if_ne (pc := 168) 193 d_Mo_operand_168 (by decide) ⟨by omega, by omega⟩ (fun h_168 => by exfalso; omega) (fun h_168 => ?_)
        refine ar_aload_n (pc := 171) d_Mo_operand_171 rfl ?_
        refine ar_ldc2 (pc := 172) (7237492) kj_Mo_251 d_Mo_operand_172 (by decide) ?_
        refine ac_virt (pc := 175) (N := mt_Mo_isWord) _ _ mv_Mo_isWord ml_Mo_288 ck_12 d_Mo_operand_175 cnot (by first | rfl | exact sh_wheel (by omega) | exact sh_milk (by omega)) rfl rfl (Nat.le_of_ble_eq_true rfl) (Nat.le_of_eq (Nat.zero_add _)) (Nat.le_of_eq (Nat.zero_add _)) (fun r_175 G_175 h_175 => ?_)
        obtain ⟨rfl, e_175⟩ := h_175
        subst G_175
        refine ar_if_eq (pc := 178) 193 d_Mo_operand_178 (by decide) ⟨by omega, by omega⟩ (fun h_178 => ?_) (fun h_178 => by exfalso; omega)
        refine ar_aload_n (pc := 193) d_Mo_operand_193 rfl ?_
        refine ar_iconst (pc := 194) d_Mo_operand_194 ?_
        refine ac_virt (pc := 195) (N := mt_Mo_wrong) _ _ mv_Mo_wrong ml_Mo_309 ck_12 d_Mo_operand_195 w2 (by first | rfl | exact sh_wheel (by omega) | exact sh_milk (by omega)) rfl rfl (Nat.le_of_ble_eq_true rfl) (Nat.le_of_eq (Nat.zero_add _)) (Nat.le_of_eq (Nat.zero_add _)) (fun r_195 G_195 h_195 => ?_)
        obtain ⟨rfl, q195⟩ := h_195
        refine ar_iload_n (pc := 198) d_Mo_operand_198 rfl ?_
        refine ar_iret (pc := 199) d_Mo_operand_199 rfl ?_
        rotate_left
        -- leaves: ret 199
        · exact fin _ q195
    · rw [if_pos (Or.inr k1)] at hPX
      have cik := cik rfl; rw [if_neg (by omega)] at cik
      have cnm := cnm rfl (by omega)
      by_cases v80 : v = 80
      · rw [if_pos v80] at hPX
        have fin := bad2 hPX.symm
        refine aw_enter pf_Mo_operand (Nat.le_of_ble_eq_true rfl) ?_
        refine ar_aload_n (pc := 0) d_Mo_operand_0 rfl ?_
        refine ar_getIv (pc := 1) gf_Mo_222 d_Mo_operand_1 (by first | rfl | exact sh_wheel (by omega) | exact sh_milk (by omega)) hs (fun r_1 => ?_)
        refine ar_iconst (pc := 4) d_Mo_operand_4 ?_
        refine ar_icmp_eq (pc := 5) 23 d_Mo_operand_5 (by decide) ⟨by omega, by omega⟩ ⟨by omega, by omega⟩ (fun h_5 => by exfalso; omega) (fun h_5 => ?_)
        refine ar_aload_n (pc := 8) d_Mo_operand_8 rfl ?_
        refine ar_getIv (pc := 9) gf_Mo_222 d_Mo_operand_9 (by first | rfl | exact sh_wheel (by omega) | exact sh_milk (by omega)) hs (fun r_9 => ?_)
        refine ar_iconst (pc := 12) d_Mo_operand_12 ?_
        refine ar_icmp_ne (pc := 13) 27 d_Mo_operand_13 (by decide) ⟨by omega, by omega⟩ ⟨by omega, by omega⟩ (fun h_13 => by exfalso; omega) (fun h_13 => ?_)
        refine ar_aload_n (pc := 16) d_Mo_operand_16 rfl ?_
        refine ac_virt (pc := 17) (N := mt_Mo_isKey) _ _ mv_Mo_isKey ml_Mo_306 ck_12 d_Mo_operand_17 cik (by first | rfl | exact sh_wheel (by omega) | exact sh_milk (by omega)) rfl rfl (Nat.le_of_ble_eq_true rfl) (Nat.le_of_eq (Nat.zero_add _)) (Nat.le_of_eq (Nat.zero_add _)) (fun r_17 G_17 h_17 => ?_)
        obtain ⟨rfl, e_17⟩ := h_17
        subst G_17
        refine ar_if_ne (pc := 20) 27 d_Mo_operand_20 (by decide) ⟨by omega, by omega⟩ (fun h_20 => by exfalso; omega) (fun h_20 => ?_)
        refine ar_iconst (pc := 23) d_Mo_operand_23 ?_
        refine ar_goto (pc := 24) 28 d_Mo_operand_24 (by decide) ?_
        refine ar_istore_n (pc := 28) d_Mo_operand_28 rfl (by decide) ?_
        refine ar_iload_n (pc := 29) d_Mo_operand_29 rfl ?_
        refine ar_if_ne (pc := 30) 50 d_Mo_operand_30 (by decide) ⟨by omega, by omega⟩ (fun h_30 => by exfalso; omega) (fun h_30 => ?_)
        refine ar_aload_n (pc := 33) d_Mo_operand_33 rfl ?_
        refine ar_getIv (pc := 34) gf_Mo_279 d_Mo_operand_34 (by first | rfl | exact sh_wheel (by omega) | exact sh_milk (by omega)) e46 (fun r_34 => ?_)
        refine ar_bipush (pc := 37) d_Mo_operand_37 (by decide) ?_
        refine ar_icmp_lt (pc := 39) 50 d_Mo_operand_39 (by decide) ⟨by omega, by omega⟩ ⟨by omega, by omega⟩ (fun h_39 => ?_) (fun h_39 => by exfalso; omega)
        refine ar_iload_n (pc := 50) d_Mo_operand_50 rfl ?_
        refine ar_if_eq (pc := 51) 146 d_Mo_operand_51 (by decide) ⟨by omega, by omega⟩ (fun h_51 => by exfalso; omega) (fun h_51 => ?_)
        refine ar_aload_n (pc := 54) d_Mo_operand_54 rfl ?_
        refine ar_getIv (pc := 55) gf_Mo_222 d_Mo_operand_55 (by first | rfl | exact sh_wheel (by omega) | exact sh_milk (by omega)) hs (fun r_55 => ?_)
        refine ar_iconst (pc := 58) d_Mo_operand_58 ?_
        refine ar_icmp_ne (pc := 59) 69 d_Mo_operand_59 (by decide) ⟨by omega, by omega⟩ ⟨by omega, by omega⟩ (fun h_59 => by exfalso; omega) (fun h_59 => ?_)
        refine ar_aload_n (pc := 62) d_Mo_operand_62 rfl ?_
        refine ac_virt (pc := 63) (N := mt_Mo_named) _ _ mv_Mo_named ml_Mo_312 ck_12 d_Mo_operand_63 cnm (by first | rfl | exact sh_wheel (by omega) | exact sh_milk (by omega)) rfl rfl (Nat.le_of_ble_eq_true rfl) (Nat.le_of_eq (Nat.zero_add _)) (Nat.le_of_eq (Nat.zero_add _)) (fun r_63 G_63 h_63 => ?_)
        obtain ⟨rfl, e_63⟩ := h_63
        subst G_63
        refine ar_goto (pc := 66) 70 d_Mo_operand_66 (by decide) ?_
        refine ar_istore_n (pc := 70) d_Mo_operand_70 rfl (by decide) ?_
        refine ar_aload_n (pc := 71) d_Mo_operand_71 rfl ?_
        refine ar_getIv (pc := 72) gf_Mo_315 d_Mo_operand_72 (by first | rfl | exact sh_wheel (by omega) | exact sh_milk (by omega)) e33 (fun r_72 => ?_)
        refine ar_bipush (pc := 75) d_Mo_operand_75 (by decide) ?_
        refine ar_icmp_ne (pc := 77) 88 d_Mo_operand_77 (by decide) ⟨by omega, by omega⟩ ⟨by omega, by omega⟩ (fun h_77 => by exfalso; omega) (fun h_77 => ?_)
        refine ar_aload_n (pc := 80) d_Mo_operand_80 rfl ?_
        refine ar_iconst (pc := 81) d_Mo_operand_81 ?_
        refine ac_virt (pc := 82) (N := mt_Mo_wrong) _ _ mv_Mo_wrong ml_Mo_309 ck_12 d_Mo_operand_82 w2 (by first | rfl | exact sh_wheel (by omega) | exact sh_milk (by omega)) rfl rfl (Nat.le_of_ble_eq_true rfl) (Nat.le_of_eq (Nat.zero_add _)) (Nat.le_of_eq (Nat.zero_add _)) (fun r_82 G_82 h_82 => ?_)
        obtain ⟨rfl, q82⟩ := h_82
        refine ar_goto (pc := 85) 97 d_Mo_operand_85 (by decide) ?_
        refine ar_aload_n (pc := 97) d_Mo_operand_97 rfl ?_
        refine ar_getIv (pc := 98) gf_Mo_234 d_Mo_operand_98 (by first | rfl | exact sh_wheel (by omega) | exact sh_milk (by omega)) (mw_e q82) (fun r_98 => ?_)
        refine ar_if_le (pc := 101) 106 d_Mo_operand_101 (by decide) ⟨by omega, by omega⟩ (fun h_101 => by exfalso; omega) (fun h_101 => ?_)
        refine ar_iload_n (pc := 104) d_Mo_operand_104 rfl ?_
        refine ar_iret (pc := 105) d_Mo_operand_105 rfl ?_
        rotate_left
        -- leaves: ret 105
        · exact fin _ q82
      · rw [if_neg v80] at hPX
        by_cases k303 : tn_K B z i = 303
        · rw [if_pos k303] at hPX
          rw [if_neg (by omega)] at cnm
          refine aw_enter pf_Mo_operand (Nat.le_of_ble_eq_true rfl) ?_
          refine ar_aload_n (pc := 0) d_Mo_operand_0 rfl ?_
          refine ar_getIv (pc := 1) gf_Mo_222 d_Mo_operand_1 (by first | rfl | exact sh_wheel (by omega) | exact sh_milk (by omega)) hs (fun r_1 => ?_)
          refine ar_iconst (pc := 4) d_Mo_operand_4 ?_
          refine ar_icmp_eq (pc := 5) 23 d_Mo_operand_5 (by decide) ⟨by omega, by omega⟩ ⟨by omega, by omega⟩ (fun h_5 => by exfalso; omega) (fun h_5 => ?_)
          refine ar_aload_n (pc := 8) d_Mo_operand_8 rfl ?_
          refine ar_getIv (pc := 9) gf_Mo_222 d_Mo_operand_9 (by first | rfl | exact sh_wheel (by omega) | exact sh_milk (by omega)) hs (fun r_9 => ?_)
          refine ar_iconst (pc := 12) d_Mo_operand_12 ?_
          refine ar_icmp_ne (pc := 13) 27 d_Mo_operand_13 (by decide) ⟨by omega, by omega⟩ ⟨by omega, by omega⟩ (fun h_13 => by exfalso; omega) (fun h_13 => ?_)
          refine ar_aload_n (pc := 16) d_Mo_operand_16 rfl ?_
          refine ac_virt (pc := 17) (N := mt_Mo_isKey) _ _ mv_Mo_isKey ml_Mo_306 ck_12 d_Mo_operand_17 cik (by first | rfl | exact sh_wheel (by omega) | exact sh_milk (by omega)) rfl rfl (Nat.le_of_ble_eq_true rfl) (Nat.le_of_eq (Nat.zero_add _)) (Nat.le_of_eq (Nat.zero_add _)) (fun r_17 G_17 h_17 => ?_)
          obtain ⟨rfl, e_17⟩ := h_17
          subst G_17
          refine ar_if_ne (pc := 20) 27 d_Mo_operand_20 (by decide) ⟨by omega, by omega⟩ (fun h_20 => by exfalso; omega) (fun h_20 => ?_)
          refine ar_iconst (pc := 23) d_Mo_operand_23 ?_
          refine ar_goto (pc := 24) 28 d_Mo_operand_24 (by decide) ?_
          refine ar_istore_n (pc := 28) d_Mo_operand_28 rfl (by decide) ?_
          refine ar_iload_n (pc := 29) d_Mo_operand_29 rfl ?_
          refine ar_if_ne (pc := 30) 50 d_Mo_operand_30 (by decide) ⟨by omega, by omega⟩ (fun h_30 => by exfalso; omega) (fun h_30 => ?_)
          refine ar_aload_n (pc := 33) d_Mo_operand_33 rfl ?_
          refine ar_getIv (pc := 34) gf_Mo_279 d_Mo_operand_34 (by first | rfl | exact sh_wheel (by omega) | exact sh_milk (by omega)) e46 (fun r_34 => ?_)
          refine ar_bipush (pc := 37) d_Mo_operand_37 (by decide) ?_
          refine ar_icmp_lt (pc := 39) 50 d_Mo_operand_39 (by decide) ⟨by omega, by omega⟩ ⟨by omega, by omega⟩ (fun h_39 => ?_) (fun h_39 => by exfalso; omega)
          refine ar_iload_n (pc := 50) d_Mo_operand_50 rfl ?_
          refine ar_if_eq (pc := 51) 146 d_Mo_operand_51 (by decide) ⟨by omega, by omega⟩ (fun h_51 => by exfalso; omega) (fun h_51 => ?_)
          refine ar_aload_n (pc := 54) d_Mo_operand_54 rfl ?_
          refine ar_getIv (pc := 55) gf_Mo_222 d_Mo_operand_55 (by first | rfl | exact sh_wheel (by omega) | exact sh_milk (by omega)) hs (fun r_55 => ?_)
          refine ar_iconst (pc := 58) d_Mo_operand_58 ?_
          refine ar_icmp_ne (pc := 59) 69 d_Mo_operand_59 (by decide) ⟨by omega, by omega⟩ ⟨by omega, by omega⟩ (fun h_59 => by exfalso; omega) (fun h_59 => ?_)
          refine ar_aload_n (pc := 62) d_Mo_operand_62 rfl ?_
          refine ac_virt (pc := 63) (N := mt_Mo_named) _ _ mv_Mo_named ml_Mo_312 ck_12 d_Mo_operand_63 cnm (by first | rfl | exact sh_wheel (by omega) | exact sh_milk (by omega)) rfl rfl (Nat.le_of_ble_eq_true rfl) (Nat.le_of_eq (Nat.zero_add _)) (Nat.le_of_eq (Nat.zero_add _)) (fun r_63 G_63 h_63 => ?_)
          obtain ⟨rfl, e_63⟩ := h_63
          subst G_63
          refine ar_goto (pc := 66) 70 d_Mo_operand_66 (by decide) ?_
          refine ar_istore_n (pc := 70) d_Mo_operand_70 rfl (by decide) ?_
          refine ar_aload_n (pc := 71) d_Mo_operand_71 rfl ?_
          refine ar_getIv (pc := 72) gf_Mo_315 d_Mo_operand_72 (by first | rfl | exact sh_wheel (by omega) | exact sh_milk (by omega)) e33 (fun r_72 => ?_)
          refine ar_bipush (pc := 75) d_Mo_operand_75 (by decide) ?_
          refine ar_icmp_ne (pc := 77) 88 d_Mo_operand_77 (by decide) ⟨by omega, by omega⟩ ⟨by omega, by omega⟩ (fun h_77 => ?_) (fun h_77 => by exfalso; omega)
          refine ar_iload_n (pc := 88) d_Mo_operand_88 rfl ?_
          refine ar_if_ge (pc := 89) 97 d_Mo_operand_89 (by decide) ⟨by omega, by omega⟩ (fun h_89 => by exfalso; omega) (fun h_89 => ?_)
          refine ar_aload_n (pc := 92) d_Mo_operand_92 rfl ?_
          refine ar_iconst (pc := 93) d_Mo_operand_93 ?_
          refine ac_virt (pc := 94) (N := mt_Mo_wrong) _ _ mv_Mo_wrong ml_Mo_309 ck_12 d_Mo_operand_94 w3 (by first | rfl | exact sh_wheel (by omega) | exact sh_milk (by omega)) rfl rfl (Nat.le_of_ble_eq_true rfl) (Nat.le_of_eq (Nat.zero_add _)) (Nat.le_of_eq (Nat.zero_add _)) (fun r_94 G_94 h_94 => ?_)
          obtain ⟨rfl, q94⟩ := h_94
          refine ar_aload_n (pc := 97) d_Mo_operand_97 rfl ?_
          refine ar_getIv (pc := 98) gf_Mo_234 d_Mo_operand_98 (by first | rfl | exact sh_wheel (by omega) | exact sh_milk (by omega)) (mw_e q94) (fun r_98 => ?_)
          refine ar_if_le (pc := 101) 106 d_Mo_operand_101 (by decide) ⟨by omega, by omega⟩ (fun h_101 => by exfalso; omega) (fun h_101 => ?_)
          refine ar_iload_n (pc := 104) d_Mo_operand_104 rfl ?_
          refine ar_iret (pc := 105) d_Mo_operand_105 rfl ?_
          rotate_left
          -- leaves: ret 105
          · exact Or.inr ⟨_, _, 0, hPX.symm, b3, rfl, ⟨by omega, by omega⟩, q94⟩
        · rw [if_neg k303, if_neg (by omega)] at hPX
          rw [if_pos (by omega)] at cnm
          have hl := hlt (by omega)
          refine aw_enter pf_Mo_operand (Nat.le_of_ble_eq_true rfl) ?_
          refine ar_rngI (fun hrg => ?_)
          have r42 := hrg 60 42
          clear hrg
          generalize h42 : mm_I G1 60 42 = y42 at *
          have c127 := cm_Mo_step X (d + 1) (y := -1 - tn_K B z i) (a := 20 + (tn_K B z i - 8)) (b := y42) (by exact fun a k b q => by rw [← h.1.1]; exact hF a k b q) h (Or.inr (Or.inl ⟨by omega, by omega⟩)) ⟨by omega, by omega⟩ r42 (by omega)
          have c141 := fun G2 q => cm_Mo_nx X d (G1 := G2) (i := i) (v := v + 1) (W := W) (o := o ++ [-1 - tn_K B z i]) (by exact fun a k b q => by rw [← h.1.1]; exact hF a k b q) hz bb hB hE q hl
          refine ar_aload_n (pc := 0) d_Mo_operand_0 rfl ?_
          refine ar_getIv (pc := 1) gf_Mo_222 d_Mo_operand_1 (by first | rfl | exact sh_wheel (by omega) | exact sh_milk (by omega)) hs (fun r_1 => ?_)
          refine ar_iconst (pc := 4) d_Mo_operand_4 ?_
          refine ar_icmp_eq (pc := 5) 23 d_Mo_operand_5 (by decide) ⟨by omega, by omega⟩ ⟨by omega, by omega⟩ (fun h_5 => by exfalso; omega) (fun h_5 => ?_)
          refine ar_aload_n (pc := 8) d_Mo_operand_8 rfl ?_
          refine ar_getIv (pc := 9) gf_Mo_222 d_Mo_operand_9 (by first | rfl | exact sh_wheel (by omega) | exact sh_milk (by omega)) hs (fun r_9 => ?_)
          refine ar_iconst (pc := 12) d_Mo_operand_12 ?_
          refine ar_icmp_ne (pc := 13) 27 d_Mo_operand_13 (by decide) ⟨by omega, by omega⟩ ⟨by omega, by omega⟩ (fun h_13 => by exfalso; omega) (fun h_13 => ?_)
          refine ar_aload_n (pc := 16) d_Mo_operand_16 rfl ?_
          refine ac_virt (pc := 17) (N := mt_Mo_isKey) _ _ mv_Mo_isKey ml_Mo_306 ck_12 d_Mo_operand_17 cik (by first | rfl | exact sh_wheel (by omega) | exact sh_milk (by omega)) rfl rfl (Nat.le_of_ble_eq_true rfl) (Nat.le_of_eq (Nat.zero_add _)) (Nat.le_of_eq (Nat.zero_add _)) (fun r_17 G_17 h_17 => ?_)
          obtain ⟨rfl, e_17⟩ := h_17
          subst G_17
          refine ar_if_ne (pc := 20) 27 d_Mo_operand_20 (by decide) ⟨by omega, by omega⟩ (fun h_20 => by exfalso; omega) (fun h_20 => ?_)
          refine ar_iconst (pc := 23) d_Mo_operand_23 ?_
          refine ar_goto (pc := 24) 28 d_Mo_operand_24 (by decide) ?_
          refine ar_istore_n (pc := 28) d_Mo_operand_28 rfl (by decide) ?_
          refine ar_iload_n (pc := 29) d_Mo_operand_29 rfl ?_
          refine ar_if_ne (pc := 30) 50 d_Mo_operand_30 (by decide) ⟨by omega, by omega⟩ (fun h_30 => by exfalso; omega) (fun h_30 => ?_)
          refine ar_aload_n (pc := 33) d_Mo_operand_33 rfl ?_
          refine ar_getIv (pc := 34) gf_Mo_279 d_Mo_operand_34 (by first | rfl | exact sh_wheel (by omega) | exact sh_milk (by omega)) e46 (fun r_34 => ?_)
          refine ar_bipush (pc := 37) d_Mo_operand_37 (by decide) ?_
          refine ar_icmp_lt (pc := 39) 50 d_Mo_operand_39 (by decide) ⟨by omega, by omega⟩ ⟨by omega, by omega⟩ (fun h_39 => ?_) (fun h_39 => by exfalso; omega)
          refine ar_iload_n (pc := 50) d_Mo_operand_50 rfl ?_
          refine ar_if_eq (pc := 51) 146 d_Mo_operand_51 (by decide) ⟨by omega, by omega⟩ (fun h_51 => by exfalso; omega) (fun h_51 => ?_)
          refine ar_aload_n (pc := 54) d_Mo_operand_54 rfl ?_
          refine ar_getIv (pc := 55) gf_Mo_222 d_Mo_operand_55 (by first | rfl | exact sh_wheel (by omega) | exact sh_milk (by omega)) hs (fun r_55 => ?_)
          refine ar_iconst (pc := 58) d_Mo_operand_58 ?_
          refine ar_icmp_ne (pc := 59) 69 d_Mo_operand_59 (by decide) ⟨by omega, by omega⟩ ⟨by omega, by omega⟩ (fun h_59 => by exfalso; omega) (fun h_59 => ?_)
          refine ar_aload_n (pc := 62) d_Mo_operand_62 rfl ?_
          refine ac_virt (pc := 63) (N := mt_Mo_named) _ _ mv_Mo_named ml_Mo_312 ck_12 d_Mo_operand_63 cnm (by first | rfl | exact sh_wheel (by omega) | exact sh_milk (by omega)) rfl rfl (Nat.le_of_ble_eq_true rfl) (Nat.le_of_eq (Nat.zero_add _)) (Nat.le_of_eq (Nat.zero_add _)) (fun r_63 G_63 h_63 => ?_)
          obtain ⟨rfl, e_63⟩ := h_63
          subst G_63
          refine ar_goto (pc := 66) 70 d_Mo_operand_66 (by decide) ?_
          refine ar_istore_n (pc := 70) d_Mo_operand_70 rfl (by decide) ?_
          refine ar_aload_n (pc := 71) d_Mo_operand_71 rfl ?_
          refine ar_getIv (pc := 72) gf_Mo_315 d_Mo_operand_72 (by first | rfl | exact sh_wheel (by omega) | exact sh_milk (by omega)) e33 (fun r_72 => ?_)
          refine ar_bipush (pc := 75) d_Mo_operand_75 (by decide) ?_
          refine ar_icmp_ne (pc := 77) 88 d_Mo_operand_77 (by decide) ⟨by omega, by omega⟩ ⟨by omega, by omega⟩ (fun h_77 => ?_) (fun h_77 => by exfalso; omega)
          refine ar_iload_n (pc := 88) d_Mo_operand_88 rfl ?_
          refine ar_if_ge (pc := 89) 97 d_Mo_operand_89 (by decide) ⟨by omega, by omega⟩ (fun h_89 => ?_) (fun h_89 => by exfalso; omega)
          refine ar_aload_n (pc := 97) d_Mo_operand_97 rfl ?_
          refine ar_getIv (pc := 98) gf_Mo_234 d_Mo_operand_98 (by first | rfl | exact sh_wheel (by omega) | exact sh_milk (by omega)) f36 (fun r_98 => ?_)
          refine ar_if_le (pc := 101) 106 d_Mo_operand_101 (by decide) ⟨by omega, by omega⟩ (fun h_101 => ?_) (fun h_101 => by exfalso; omega)
          refine ar_aload_n (pc := 106) d_Mo_operand_106 rfl ?_
          refine ar_aload_n (pc := 107) d_Mo_operand_107 rfl ?_
          refine ar_getIv (pc := 108) gf_Mo_222 d_Mo_operand_108 (by first | rfl | exact sh_wheel (by omega) | exact sh_milk (by omega)) hs (fun r_108 => ?_)
          refine ar_iconst (pc := 111) d_Mo_operand_111 ?_
          refine ar_icmp_ne (pc := 112) 119 d_Mo_operand_112 (by decide) ⟨by omega, by omega⟩ ⟨by omega, by omega⟩ (fun h_112 => ?_) (fun h_112 => by exfalso; omega)
          refine ar_bipush (pc := 119) d_Mo_operand_119 (by decide) ?_
          refine ar_iload_n (pc := 121) d_Mo_operand_121 rfl ?_
          refine ar_iadd (pc := 122) d_Mo_operand_122 ?_
          refine ar_aload_n (pc := 123) d_Mo_operand_123 rfl ?_
          refine ar_getIv (pc := 124) gf_Mo_219 d_Mo_operand_124 (by first | rfl | exact sh_wheel (by omega) | exact sh_milk (by omega)) h42 (fun r_124 => ?_)
          refine ac_virt (pc := 127) (N := mt_Mo_step) _ _ mv_Mo_step ml_Mo_282 ck_12 d_Mo_operand_127 c127 (by first | rfl | exact sh_wheel (by omega) | exact sh_milk (by omega)) rfl rfl (Nat.le_of_ble_eq_true rfl) (Nat.le_of_eq (Nat.zero_add _)) (Nat.le_of_eq (Nat.zero_add _)) (fun r_127 G_127 h_127 => ?_)
          obtain ⟨rfl, q127⟩ := h_127
          refine ar_aload_n (pc := 130) d_Mo_operand_130 rfl ?_
          refine ar_dup (pc := 131) d_Mo_operand_131 rfl ?_
          refine ar_getIv (pc := 132) gf_Mo_315 d_Mo_operand_132 (by first | rfl | exact sh_wheel (by omega) | exact sh_milk (by omega)) (q127.2.2.2.2.1) (fun r_132 => ?_)
          refine ar_iconst (pc := 135) d_Mo_operand_135 ?_
          refine ar_iadd (pc := 136) d_Mo_operand_136 ?_
          refine ar_putI (pc := 137) gf_Mo_315 d_Mo_operand_137 rfl (by first | rfl | exact sh_wheel (by omega) | exact sh_milk (by omega)) ⟨by omega, by omega⟩ ?_
          refine ar_aload_n (pc := 140) d_Mo_operand_140 rfl ?_
          refine ac_virt (pc := 141) (N := mt_Mo_next) _ _ mv_Mo_next ml_Mo_318 ck_12 d_Mo_operand_141 (c141 _ (mo_v q127)) (by first | rfl | exact sh_wheel (by omega) | exact sh_milk (by omega)) rfl rfl (Nat.le_of_ble_eq_true rfl) (Nat.le_of_eq (Nat.zero_add _)) (Nat.le_of_eq (Nat.zero_add _)) (fun r_141 G_141 h_141 => ?_)
          obtain ⟨rfl, q141⟩ := h_141
          refine ar_iconst (pc := 144) d_Mo_operand_144 ?_
          refine ar_iret (pc := 145) d_Mo_operand_145 rfl ?_
          rotate_left
          -- leaves: ret 145
          · exact Or.inl ⟨2, i + 1, v + 1, W, _, hPX.symm, rfl, q141⟩
    · rw [if_neg k1] at hPX
      clear cnm t3 w3 cik
      by_cases k40 : tn_K B z i = 40
      · rw [if_pos k40] at hPX
        have hl := hlt (by omega)
        have hs40 := k4.mp k40
        have c158 := cm_Mo_hold X (d + 1) (w := 48) (by exact fun a k b q => by rw [← h.1.1]; exact hF a k b q) h (by omega) (by omega) (by omega)
        have c162 := fun G2 q => cm_Mo_nx X d (G1 := G2) (i := i) (v := v) (W := 48 :: W) (o := o) (by exact fun a k b q => by rw [← h.1.1]; exact hF a k b q) hz bb hB hE q hl
        refine aw_enter pf_Mo_operand (Nat.le_of_ble_eq_true rfl) ?_
        refine ar_aload_n (pc := 0) d_Mo_operand_0 rfl ?_
        refine ar_getIv (pc := 1) gf_Mo_222 d_Mo_operand_1 (by first | rfl | exact sh_wheel (by omega) | exact sh_milk (by omega)) hs (fun r_1 => ?_)
        refine ar_iconst (pc := 4) d_Mo_operand_4 ?_
        refine ar_icmp_eq (pc := 5) 23 d_Mo_operand_5 (by decide) ⟨by omega, by omega⟩ ⟨by omega, by omega⟩ (fun h_5 => by exfalso; omega) (fun h_5 => ?_)
        refine ar_aload_n (pc := 8) d_Mo_operand_8 rfl ?_
        refine ar_getIv (pc := 9) gf_Mo_222 d_Mo_operand_9 (by first | rfl | exact sh_wheel (by omega) | exact sh_milk (by omega)) hs (fun r_9 => ?_)
        refine ar_iconst (pc := 12) d_Mo_operand_12 ?_
        refine ar_icmp_ne (pc := 13) 27 d_Mo_operand_13 (by decide) ⟨by omega, by omega⟩ ⟨by omega, by omega⟩ (fun h_13 => ?_) (fun h_13 => by exfalso; omega)
        refine ar_iconst (pc := 27) d_Mo_operand_27 ?_
        refine ar_istore_n (pc := 28) d_Mo_operand_28 rfl (by decide) ?_
        refine ar_iload_n (pc := 29) d_Mo_operand_29 rfl ?_
        refine ar_if_ne (pc := 30) 50 d_Mo_operand_30 (by decide) ⟨by omega, by omega⟩ (fun h_30 => by exfalso; omega) (fun h_30 => ?_)
        refine ar_aload_n (pc := 33) d_Mo_operand_33 rfl ?_
        refine ar_getIv (pc := 34) gf_Mo_279 d_Mo_operand_34 (by first | rfl | exact sh_wheel (by omega) | exact sh_milk (by omega)) e46 (fun r_34 => ?_)
        refine ar_bipush (pc := 37) d_Mo_operand_37 (by decide) ?_
        refine ar_icmp_lt (pc := 39) 50 d_Mo_operand_39 (by decide) ⟨by omega, by omega⟩ ⟨by omega, by omega⟩ (fun h_39 => ?_) (fun h_39 => by exfalso; omega)
        refine ar_iload_n (pc := 50) d_Mo_operand_50 rfl ?_
        refine ar_if_eq (pc := 51) 146 d_Mo_operand_51 (by decide) ⟨by omega, by omega⟩ (fun h_51 => ?_) (fun h_51 => by exfalso; omega)
        refine ar_aload_n (pc := 146) d_Mo_operand_146 rfl ?_
        refine ar_getIv (pc := 147) gf_Mo_222 d_Mo_operand_147 (by first | rfl | exact sh_wheel (by omega) | exact sh_milk (by omega)) hs (fun r_147 => ?_)
        refine ar_bipush (pc := 150) d_Mo_operand_150 (by decide) ?_
        refine ar_icmp_ne (pc := 152) 167 d_Mo_operand_152 (by decide) ⟨by omega, by omega⟩ ⟨by omega, by omega⟩ (fun h_152 => by exfalso; omega) (fun h_152 => ?_)
        refine ar_aload_n (pc := 155) d_Mo_operand_155 rfl ?_
        refine ar_bipush (pc := 156) d_Mo_operand_156 (by decide) ?_
        refine ac_virt (pc := 158) (N := mt_Mo_hold) _ _ mv_Mo_hold ml_Mo_321 ck_12 d_Mo_operand_158 c158 (by first | rfl | exact sh_wheel (by omega) | exact sh_milk (by omega)) rfl rfl (Nat.le_of_ble_eq_true rfl) (Nat.le_of_eq (Nat.zero_add _)) (Nat.le_of_eq (Nat.zero_add _)) (fun r_158 G_158 h_158 => ?_)
        obtain ⟨rfl, q158⟩ := h_158
        refine ar_aload_n (pc := 161) d_Mo_operand_161 rfl ?_
        refine ac_virt (pc := 162) (N := mt_Mo_next) _ _ mv_Mo_next ml_Mo_318 ck_12 d_Mo_operand_162 (c162 _ q158) (by first | rfl | exact sh_wheel (by omega) | exact sh_milk (by omega)) rfl rfl (Nat.le_of_ble_eq_true rfl) (Nat.le_of_eq (Nat.zero_add _)) (Nat.le_of_eq (Nat.zero_add _)) (fun r_162 G_162 h_162 => ?_)
        obtain ⟨rfl, q162⟩ := h_162
        refine ar_iconst (pc := 165) d_Mo_operand_165 ?_
        refine ar_iret (pc := 166) d_Mo_operand_166 rfl ?_
        rotate_left
        -- leaves: ret 166
        · exact Or.inl ⟨0, i + 1, v, 48 :: W, o, hPX.symm, rfl, q162⟩
      · rw [if_neg k40, if_neg (fun q => k2 q.2)] at hPX
        have fin := bad2 hPX.symm
        rw [if_neg (by omega)] at cnot
        have k4' : s ≠ 40 := fun q => k40 (k4.mpr q)
        clear k4
        refine aw_enter pf_Mo_operand (Nat.le_of_ble_eq_true rfl) ?_
        refine ar_aload_n (pc := 0) d_Mo_operand_0 rfl ?_
        refine ar_getIv (pc := 1) gf_Mo_222 d_Mo_operand_1 (by first | rfl | exact sh_wheel (by omega) | exact sh_milk (by omega)) hs (fun r_1 => ?_)
        refine ar_iconst (pc := 4) d_Mo_operand_4 ?_
        refine ar_icmp_eq (pc := 5) 23 d_Mo_operand_5 (by decide) ⟨by omega, by omega⟩ ⟨by omega, by omega⟩ (fun h_5 => by exfalso; omega) (fun h_5 => ?_)
        refine ar_aload_n (pc := 8) d_Mo_operand_8 rfl ?_
        refine ar_getIv (pc := 9) gf_Mo_222 d_Mo_operand_9 (by first | rfl | exact sh_wheel (by omega) | exact sh_milk (by omega)) hs (fun r_9 => ?_)
        refine ar_iconst (pc := 12) d_Mo_operand_12 ?_
        refine ar_icmp_ne (pc := 13) 27 d_Mo_operand_13 (by decide) ⟨by omega, by omega⟩ ⟨by omega, by omega⟩ (fun h_13 => ?_) (fun h_13 => by exfalso; omega)
        refine ar_iconst (pc := 27) d_Mo_operand_27 ?_
        refine ar_istore_n (pc := 28) d_Mo_operand_28 rfl (by decide) ?_
        refine ar_iload_n (pc := 29) d_Mo_operand_29 rfl ?_
        refine ar_if_ne (pc := 30) 50 d_Mo_operand_30 (by decide) ⟨by omega, by omega⟩ (fun h_30 => by exfalso; omega) (fun h_30 => ?_)
        refine ar_aload_n (pc := 33) d_Mo_operand_33 rfl ?_
        refine ar_getIv (pc := 34) gf_Mo_279 d_Mo_operand_34 (by first | rfl | exact sh_wheel (by omega) | exact sh_milk (by omega)) e46 (fun r_34 => ?_)
        refine ar_bipush (pc := 37) d_Mo_operand_37 (by decide) ?_
        refine ar_icmp_lt (pc := 39) 50 d_Mo_operand_39 (by decide) ⟨by omega, by omega⟩ ⟨by omega, by omega⟩ (fun h_39 => ?_) (fun h_39 => by exfalso; omega)
        refine ar_iload_n (pc := 50) d_Mo_operand_50 rfl ?_
        refine ar_if_eq (pc := 51) 146 d_Mo_operand_51 (by decide) ⟨by omega, by omega⟩ (fun h_51 => ?_) (fun h_51 => by exfalso; omega)
        refine ar_aload_n (pc := 146) d_Mo_operand_146 rfl ?_
        refine ar_getIv (pc := 147) gf_Mo_222 d_Mo_operand_147 (by first | rfl | exact sh_wheel (by omega) | exact sh_milk (by omega)) hs (fun r_147 => ?_)
        refine ar_bipush (pc := 150) d_Mo_operand_150 (by decide) ?_
        refine ar_icmp_ne (pc := 152) 167 d_Mo_operand_152 (by decide) ⟨by omega, by omega⟩ ⟨by omega, by omega⟩ (fun h_152 => ?_) (fun h_152 => by exfalso; omega)
        refine ar_iload_n (pc := 167) d_Mo_operand_167 rfl ?_
        refine ar_if_ne (pc := 168) 193 d_Mo_operand_168 (by decide) ⟨by omega, by omega⟩ (fun h_168 => by exfalso; omega) (fun h_168 => ?_)
        refine ar_aload_n (pc := 171) d_Mo_operand_171 rfl ?_
        refine ar_ldc2 (pc := 172) (7237492) kj_Mo_251 d_Mo_operand_172 (by decide) ?_
        refine ac_virt (pc := 175) (N := mt_Mo_isWord) _ _ mv_Mo_isWord ml_Mo_288 ck_12 d_Mo_operand_175 cnot (by first | rfl | exact sh_wheel (by omega) | exact sh_milk (by omega)) rfl rfl (Nat.le_of_ble_eq_true rfl) (Nat.le_of_eq (Nat.zero_add _)) (Nat.le_of_eq (Nat.zero_add _)) (fun r_175 G_175 h_175 => ?_)
        obtain ⟨rfl, e_175⟩ := h_175
        subst G_175
        refine ar_if_eq (pc := 178) 193 d_Mo_operand_178 (by decide) ⟨by omega, by omega⟩ (fun h_178 => ?_) (fun h_178 => by exfalso; omega)
        refine ar_aload_n (pc := 193) d_Mo_operand_193 rfl ?_
        refine ar_iconst (pc := 194) d_Mo_operand_194 ?_
        refine ac_virt (pc := 195) (N := mt_Mo_wrong) _ _ mv_Mo_wrong ml_Mo_309 ck_12 d_Mo_operand_195 w2 (by first | rfl | exact sh_wheel (by omega) | exact sh_milk (by omega)) rfl rfl (Nat.le_of_ble_eq_true rfl) (Nat.le_of_eq (Nat.zero_add _)) (Nat.le_of_eq (Nat.zero_add _)) (fun r_195 G_195 h_195 => ?_)
        obtain ⟨rfl, q195⟩ := h_195
        refine ar_iload_n (pc := 198) d_Mo_operand_198 rfl ?_
        refine ar_iret (pc := 199) d_Mo_operand_199 rfl ?_
        rotate_left
        -- leaves: ret 199
        · exact fin _ q195
theorem cm_Mo_operand1 (X : gx_T) (d : Nat) {B : Nat → Int} {z n : Nat} {G G1 : mm_T} {v0 : Nat} {o0 : List Int} {i v : Nat} {W o : List Int} (hF : fx_R G) (hz : mm_I G 60 39 = z) (bb : bb_B B z) (hB : mb_v G = B) (hE : te_E B z n) (h0 : mm_I G 60 36 = 0) (h : mo_F B z G G1 i v W o) (hj : jo_I n v0 o0 1 i v W o) : aw_M X (d + 3) mt_Mo_operand [av_r (some 60), av_i 1] G1 0 0 (mx_P B z G (px_d (tn_K B z) (pl_i B z) (tn_M B z) 1 i v W o)) := by
  have hW := jo_len hj
  obtain ⟨-, -, ⟨hdp, hdp'⟩, -, hv80, hin, hlen⟩ := hj
  have n5 := hE.1
  have hT := h.2.2.2.1
  have e46 := h.2.2.2.2.2.1.2.2
  have e33 := h.2.2.2.2.1
  have f36 : mm_I G1 60 36 = 0 := by rw [h.2.1 _ _ (by omega) (by omega) (by omega) (by omega)]; exact h0
  have kr := tk_r (B := B) (z := z) (a := ps_k B z i) bb
  have mr := tm_r (B := B) (z := z) (a := ps_k B z i) bb
  change 0 ≤ tn_K B z i ∧ tn_K B z i ≤ 303 at kr
  change 0 ≤ tn_M B z i ∧ tn_M B z i ≤ 999999 at mr
  have hF1 : fx_R G1 := fun a k b q => by rw [h.1.1]; exact hF a k b q
  have t2 := hT.2.1
  have t3 := hT.2.2.1
  unfold tw_R at t2
  rw [is_sv] at t2
  have cik := fun (q : mm_I G1 60 40 = 1) => cm_Mo_isKey X (d + 1) hT q
  have cnm := fun (q : mm_I G1 60 40 = 1) q2 => cm_Mo_named X (d + 1) hT q q2
  have cw := fun k (hk : 0 ≤ k ∧ k ≤ 3) => cm_Mo_wrong X (d + 1) (k := k) h h0 hk
  have cnot := cm_Mo_isWord X (d + 1) (w := 7) (c := 7237492) hT (by omega) rfl
  have b2 := fq_r (tn_K B z) i (k := 2) (by omega)
  have b3 := fq_r (tn_K B z) i (k := 3) (by omega)
  have hlt := fun q => te_n hE hin (i := i) q
  generalize hs : mm_I G1 60 40 = s at *
  have bad2 : px_d (tn_K B z) (pl_i B z) (tn_M B z) 1 i v W o = .inl (fq_v (tn_K B z) i 2, pl_i B z i) → ∀ G', mw_F G G' (fq_v (tn_K B z) i 2) (pl_i B z i) → mx_P B z G (px_d (tn_K B z) (pl_i B z) (tn_M B z) 1 i v W o) (some (av_i 1)) G' := fun q G' q2 => Or.inr ⟨_, _, 1, q, b2, rfl, ⟨by omega, by omega⟩, q2⟩
  have w2 := cw 2 (by omega)
  have w3 := cw 3 (by omega)
  have hK : tn_K B z i = 302 ∧ s = 2 ∨ (0 ≤ tn_K B z i ∧ tn_K B z i ≤ 7) ∧ s = 1 ∨ ((8 ≤ tn_K B z i ∧ tn_K B z i ≤ 17) ∨ tn_K B z i = 303) ∧ s = 1 ∨ ¬ (tn_K B z i = 302 ∨ (8 ≤ tn_K B z i ∧ tn_K B z i ≤ 17) ∨ tn_K B z i = 303) ∧ tn_K B z i ≠ 7 ∧ (s ≠ 1 ∧ s ≠ 2) ∧ (tn_K B z i = 40 ↔ s = 40) := by omega
  clear t2 cw
  have hF := hF1
  generalize hPX : px_d (tn_K B z) (pl_i B z) (tn_M B z) 1 i v W o = PX at *
  unfold px_d pb_v at hPX
  · rw [if_neg (fun q => absurd q.1 (by decide))] at hPX
    rcases hK with ⟨k1, rfl⟩ | ⟨k1, rfl⟩ | ⟨k1, rfl⟩ | ⟨k1, k2, k3, k4⟩
    · rw [if_pos (Or.inl k1)] at hPX
      clear cnm cnot cik
      by_cases v80 : v = 80
      · rw [if_pos v80] at hPX
        have fin := bad2 hPX.symm
        refine aw_enter pf_Mo_operand (Nat.le_of_ble_eq_true rfl) ?_
        refine ar_aload_n (pc := 0) d_Mo_operand_0 rfl ?_
        refine ar_getIv (pc := 1) gf_Mo_222 d_Mo_operand_1 (by first | rfl | exact sh_wheel (by omega) | exact sh_milk (by omega)) hs (fun r_1 => ?_)
        refine ar_iconst (pc := 4) d_Mo_operand_4 ?_
        refine ar_icmp_eq (pc := 5) 23 d_Mo_operand_5 (by decide) ⟨by omega, by omega⟩ ⟨by omega, by omega⟩ (fun h_5 => ?_) (fun h_5 => by exfalso; omega)
        refine ar_iconst (pc := 23) d_Mo_operand_23 ?_
        refine ar_goto (pc := 24) 28 d_Mo_operand_24 (by decide) ?_
        refine ar_istore_n (pc := 28) d_Mo_operand_28 rfl (by decide) ?_
        refine ar_iload_n (pc := 29) d_Mo_operand_29 rfl ?_
        refine ar_if_ne (pc := 30) 50 d_Mo_operand_30 (by decide) ⟨by omega, by omega⟩ (fun h_30 => ?_) (fun h_30 => by exfalso; omega)
        refine ar_iload_n (pc := 50) d_Mo_operand_50 rfl ?_
        refine ar_if_eq (pc := 51) 146 d_Mo_operand_51 (by decide) ⟨by omega, by omega⟩ (fun h_51 => by exfalso; omega) (fun h_51 => ?_)
        refine ar_aload_n (pc := 54) d_Mo_operand_54 rfl ?_
        refine ar_getIv (pc := 55) gf_Mo_222 d_Mo_operand_55 (by first | rfl | exact sh_wheel (by omega) | exact sh_milk (by omega)) hs (fun r_55 => ?_)
        refine ar_iconst (pc := 58) d_Mo_operand_58 ?_
        refine ar_icmp_ne (pc := 59) 69 d_Mo_operand_59 (by decide) ⟨by omega, by omega⟩ ⟨by omega, by omega⟩ (fun h_59 => ?_) (fun h_59 => by exfalso; omega)
        refine ar_iconst (pc := 69) d_Mo_operand_69 ?_
        refine ar_istore_n (pc := 70) d_Mo_operand_70 rfl (by decide) ?_
        refine ar_aload_n (pc := 71) d_Mo_operand_71 rfl ?_
        refine ar_getIv (pc := 72) gf_Mo_315 d_Mo_operand_72 (by first | rfl | exact sh_wheel (by omega) | exact sh_milk (by omega)) e33 (fun r_72 => ?_)
        refine ar_bipush (pc := 75) d_Mo_operand_75 (by decide) ?_
        refine ar_icmp_ne (pc := 77) 88 d_Mo_operand_77 (by decide) ⟨by omega, by omega⟩ ⟨by omega, by omega⟩ (fun h_77 => by exfalso; omega) (fun h_77 => ?_)
        refine ar_aload_n (pc := 80) d_Mo_operand_80 rfl ?_
        refine ar_iconst (pc := 81) d_Mo_operand_81 ?_
        refine ac_virt (pc := 82) (N := mt_Mo_wrong) _ _ mv_Mo_wrong ml_Mo_309 ck_12 d_Mo_operand_82 w2 (by first | rfl | exact sh_wheel (by omega) | exact sh_milk (by omega)) rfl rfl (Nat.le_of_ble_eq_true rfl) (Nat.le_of_eq (Nat.zero_add _)) (Nat.le_of_eq (Nat.zero_add _)) (fun r_82 G_82 h_82 => ?_)
        obtain ⟨rfl, q82⟩ := h_82
        refine ar_goto (pc := 85) 97 d_Mo_operand_85 (by decide) ?_
        refine ar_aload_n (pc := 97) d_Mo_operand_97 rfl ?_
        refine ar_getIv (pc := 98) gf_Mo_234 d_Mo_operand_98 (by first | rfl | exact sh_wheel (by omega) | exact sh_milk (by omega)) (mw_e q82) (fun r_98 => ?_)
        refine ar_if_le (pc := 101) 106 d_Mo_operand_101 (by decide) ⟨by omega, by omega⟩ (fun h_101 => by exfalso; omega) (fun h_101 => ?_)
        refine ar_iload_n (pc := 104) d_Mo_operand_104 rfl ?_
        refine ar_iret (pc := 105) d_Mo_operand_105 rfl ?_
        rotate_left
        -- leaves: ret 105
        · exact fin _ q82
      · rw [if_neg v80, if_neg (by omega), if_pos k1] at hPX
        have hl := hlt (by omega)
        have c127 := cm_Mo_step X (d + 1) (y := tn_M B z i) (a := 0) (b := tn_M B z i) (by exact fun a k b q => by rw [← h.1.1]; exact hF a k b q) h (Or.inl ⟨by omega, rfl, rfl⟩) ⟨by omega, by omega⟩ ⟨by omega, by omega⟩ (by omega)
        have c141 := fun G2 q => cm_Mo_nx X d (G1 := G2) (i := i) (v := v + 1) (W := W) (o := o ++ [tn_M B z i]) (by exact fun a k b q => by rw [← h.1.1]; exact hF a k b q) hz bb hB hE q hl
        have e42 := t3 k1
        refine aw_enter pf_Mo_operand (Nat.le_of_ble_eq_true rfl) ?_
        refine ar_aload_n (pc := 0) d_Mo_operand_0 rfl ?_
        refine ar_getIv (pc := 1) gf_Mo_222 d_Mo_operand_1 (by first | rfl | exact sh_wheel (by omega) | exact sh_milk (by omega)) hs (fun r_1 => ?_)
        refine ar_iconst (pc := 4) d_Mo_operand_4 ?_
        refine ar_icmp_eq (pc := 5) 23 d_Mo_operand_5 (by decide) ⟨by omega, by omega⟩ ⟨by omega, by omega⟩ (fun h_5 => ?_) (fun h_5 => by exfalso; omega)
        refine ar_iconst (pc := 23) d_Mo_operand_23 ?_
        refine ar_goto (pc := 24) 28 d_Mo_operand_24 (by decide) ?_
        refine ar_istore_n (pc := 28) d_Mo_operand_28 rfl (by decide) ?_
        refine ar_iload_n (pc := 29) d_Mo_operand_29 rfl ?_
        refine ar_if_ne (pc := 30) 50 d_Mo_operand_30 (by decide) ⟨by omega, by omega⟩ (fun h_30 => ?_) (fun h_30 => by exfalso; omega)
        refine ar_iload_n (pc := 50) d_Mo_operand_50 rfl ?_
        refine ar_if_eq (pc := 51) 146 d_Mo_operand_51 (by decide) ⟨by omega, by omega⟩ (fun h_51 => by exfalso; omega) (fun h_51 => ?_)
        refine ar_aload_n (pc := 54) d_Mo_operand_54 rfl ?_
        refine ar_getIv (pc := 55) gf_Mo_222 d_Mo_operand_55 (by first | rfl | exact sh_wheel (by omega) | exact sh_milk (by omega)) hs (fun r_55 => ?_)
        refine ar_iconst (pc := 58) d_Mo_operand_58 ?_
        refine ar_icmp_ne (pc := 59) 69 d_Mo_operand_59 (by decide) ⟨by omega, by omega⟩ ⟨by omega, by omega⟩ (fun h_59 => ?_) (fun h_59 => by exfalso; omega)
        refine ar_iconst (pc := 69) d_Mo_operand_69 ?_
        refine ar_istore_n (pc := 70) d_Mo_operand_70 rfl (by decide) ?_
        refine ar_aload_n (pc := 71) d_Mo_operand_71 rfl ?_
        refine ar_getIv (pc := 72) gf_Mo_315 d_Mo_operand_72 (by first | rfl | exact sh_wheel (by omega) | exact sh_milk (by omega)) e33 (fun r_72 => ?_)
        refine ar_bipush (pc := 75) d_Mo_operand_75 (by decide) ?_
        refine ar_icmp_ne (pc := 77) 88 d_Mo_operand_77 (by decide) ⟨by omega, by omega⟩ ⟨by omega, by omega⟩ (fun h_77 => ?_) (fun h_77 => by exfalso; omega)
        refine ar_iload_n (pc := 88) d_Mo_operand_88 rfl ?_
        refine ar_if_ge (pc := 89) 97 d_Mo_operand_89 (by decide) ⟨by omega, by omega⟩ (fun h_89 => ?_) (fun h_89 => by exfalso; omega)
        refine ar_aload_n (pc := 97) d_Mo_operand_97 rfl ?_
        refine ar_getIv (pc := 98) gf_Mo_234 d_Mo_operand_98 (by first | rfl | exact sh_wheel (by omega) | exact sh_milk (by omega)) f36 (fun r_98 => ?_)
        refine ar_if_le (pc := 101) 106 d_Mo_operand_101 (by decide) ⟨by omega, by omega⟩ (fun h_101 => ?_) (fun h_101 => by exfalso; omega)
        refine ar_aload_n (pc := 106) d_Mo_operand_106 rfl ?_
        refine ar_aload_n (pc := 107) d_Mo_operand_107 rfl ?_
        refine ar_getIv (pc := 108) gf_Mo_222 d_Mo_operand_108 (by first | rfl | exact sh_wheel (by omega) | exact sh_milk (by omega)) hs (fun r_108 => ?_)
        refine ar_iconst (pc := 111) d_Mo_operand_111 ?_
        refine ar_icmp_ne (pc := 112) 119 d_Mo_operand_112 (by decide) ⟨by omega, by omega⟩ ⟨by omega, by omega⟩ (fun h_112 => by exfalso; omega) (fun h_112 => ?_)
        refine ar_iconst (pc := 115) d_Mo_operand_115 ?_
        refine ar_goto (pc := 116) 123 d_Mo_operand_116 (by decide) ?_
        refine ar_aload_n (pc := 123) d_Mo_operand_123 rfl ?_
        refine ar_getIv (pc := 124) gf_Mo_219 d_Mo_operand_124 (by first | rfl | exact sh_wheel (by omega) | exact sh_milk (by omega)) e42 (fun r_124 => ?_)
        refine ac_virt (pc := 127) (N := mt_Mo_step) _ _ mv_Mo_step ml_Mo_282 ck_12 d_Mo_operand_127 c127 (by first | rfl | exact sh_wheel (by omega) | exact sh_milk (by omega)) rfl rfl (Nat.le_of_ble_eq_true rfl) (Nat.le_of_eq (Nat.zero_add _)) (Nat.le_of_eq (Nat.zero_add _)) (fun r_127 G_127 h_127 => ?_)
        obtain ⟨rfl, q127⟩ := h_127
        refine ar_aload_n (pc := 130) d_Mo_operand_130 rfl ?_
        refine ar_dup (pc := 131) d_Mo_operand_131 rfl ?_
        refine ar_getIv (pc := 132) gf_Mo_315 d_Mo_operand_132 (by first | rfl | exact sh_wheel (by omega) | exact sh_milk (by omega)) (q127.2.2.2.2.1) (fun r_132 => ?_)
        refine ar_iconst (pc := 135) d_Mo_operand_135 ?_
        refine ar_iadd (pc := 136) d_Mo_operand_136 ?_
        refine ar_putI (pc := 137) gf_Mo_315 d_Mo_operand_137 rfl (by first | rfl | exact sh_wheel (by omega) | exact sh_milk (by omega)) ⟨by omega, by omega⟩ ?_
        refine ar_aload_n (pc := 140) d_Mo_operand_140 rfl ?_
        refine ac_virt (pc := 141) (N := mt_Mo_next) _ _ mv_Mo_next ml_Mo_318 ck_12 d_Mo_operand_141 (c141 _ (mo_v q127)) (by first | rfl | exact sh_wheel (by omega) | exact sh_milk (by omega)) rfl rfl (Nat.le_of_ble_eq_true rfl) (Nat.le_of_eq (Nat.zero_add _)) (Nat.le_of_eq (Nat.zero_add _)) (fun r_141 G_141 h_141 => ?_)
        obtain ⟨rfl, q141⟩ := h_141
        refine ar_iconst (pc := 144) d_Mo_operand_144 ?_
        refine ar_iret (pc := 145) d_Mo_operand_145 rfl ?_
        rotate_left
        -- leaves: ret 145
        · exact Or.inl ⟨2, i + 1, v + 1, W, _, hPX.symm, rfl, q141⟩
    · rw [if_neg (by omega), if_neg (by omega)] at hPX
      have cik := cik rfl; rw [if_pos k1] at cik
      clear cnm w3 t3
      rw [if_neg (fun q => absurd q.1 (by decide))] at hPX
      have fin := bad2 hPX.symm
      refine aw_enter pf_Mo_operand (Nat.le_of_ble_eq_true rfl) ?_
      refine ar_aload_n (pc := 0) d_Mo_operand_0 rfl ?_
      refine ar_getIv (pc := 1) gf_Mo_222 d_Mo_operand_1 (by first | rfl | exact sh_wheel (by omega) | exact sh_milk (by omega)) hs (fun r_1 => ?_)
      refine ar_iconst (pc := 4) d_Mo_operand_4 ?_
      refine ar_icmp_eq (pc := 5) 23 d_Mo_operand_5 (by decide) ⟨by omega, by omega⟩ ⟨by omega, by omega⟩ (fun h_5 => by exfalso; omega) (fun h_5 => ?_)
      refine ar_aload_n (pc := 8) d_Mo_operand_8 rfl ?_
      refine ar_getIv (pc := 9) gf_Mo_222 d_Mo_operand_9 (by first | rfl | exact sh_wheel (by omega) | exact sh_milk (by omega)) hs (fun r_9 => ?_)
      refine ar_iconst (pc := 12) d_Mo_operand_12 ?_
      refine ar_icmp_ne (pc := 13) 27 d_Mo_operand_13 (by decide) ⟨by omega, by omega⟩ ⟨by omega, by omega⟩ (fun h_13 => by exfalso; omega) (fun h_13 => ?_)
      refine ar_aload_n (pc := 16) d_Mo_operand_16 rfl ?_
      refine ac_virt (pc := 17) (N := mt_Mo_isKey) _ _ mv_Mo_isKey ml_Mo_306 ck_12 d_Mo_operand_17 cik (by first | rfl | exact sh_wheel (by omega) | exact sh_milk (by omega)) rfl rfl (Nat.le_of_ble_eq_true rfl) (Nat.le_of_eq (Nat.zero_add _)) (Nat.le_of_eq (Nat.zero_add _)) (fun r_17 G_17 h_17 => ?_)
      obtain ⟨rfl, e_17⟩ := h_17
      subst G_17
      refine ar_if_ne (pc := 20) 27 d_Mo_operand_20 (by decide) ⟨by omega, by omega⟩ (fun h_20 => ?_) (fun h_20 => by exfalso; omega)
      refine ar_iconst (pc := 27) d_Mo_operand_27 ?_
      refine ar_istore_n (pc := 28) d_Mo_operand_28 rfl (by decide) ?_
      refine ar_iload_n (pc := 29) d_Mo_operand_29 rfl ?_
      refine ar_if_ne (pc := 30) 50 d_Mo_operand_30 (by decide) ⟨by omega, by omega⟩ (fun h_30 => ?_) (fun h_30 => by exfalso; omega)
      refine ar_iload_n (pc := 50) d_Mo_operand_50 rfl ?_
      refine ar_if_eq (pc := 51) 146 d_Mo_operand_51 (by decide) ⟨by omega, by omega⟩ (fun h_51 => ?_) (fun h_51 => by exfalso; omega)
      refine ar_aload_n (pc := 146) d_Mo_operand_146 rfl ?_
      refine ar_getIv (pc := 147) gf_Mo_222 d_Mo_operand_147 (by first | rfl | exact sh_wheel (by omega) | exact sh_milk (by omega)) hs (fun r_147 => ?_)
      refine ar_bipush (pc := 150) d_Mo_operand_150 (by decide) ?_
      refine ar_icmp_ne (pc := 152) 167 d_Mo_operand_152 (by decide) ⟨by omega, by omega⟩ ⟨by omega, by omega⟩ (fun h_152 => ?_) (fun h_152 => by exfalso; omega)
      refine ar_iload_n (pc := 167) d_Mo_operand_167 rfl ?_
      refine ar_if_ne (pc := 168) 193 d_Mo_operand_168 (by decide) ⟨by omega, by omega⟩ (fun h_168 => ?_) (fun h_168 => by exfalso; omega)
      refine ar_aload_n (pc := 193) d_Mo_operand_193 rfl ?_
      refine ar_iconst (pc := 194) d_Mo_operand_194 ?_
      refine ac_virt (pc := 195) (N := mt_Mo_wrong) _ _ mv_Mo_wrong ml_Mo_309 ck_12 d_Mo_operand_195 w2 (by first | rfl | exact sh_wheel (by omega) | exact sh_milk (by omega)) rfl rfl (Nat.le_of_ble_eq_true rfl) (Nat.le_of_eq (Nat.zero_add _)) (Nat.le_of_eq (Nat.zero_add _)) (fun r_195 G_195 h_195 => ?_)
      obtain ⟨rfl, q195⟩ := h_195
      refine ar_iload_n (pc := 198) d_Mo_operand_198 rfl ?_
      refine ar_iret (pc := 199) d_Mo_operand_199 rfl ?_
      rotate_left
      -- leaves: ret 199
      · exact fin _ q195
    · rw [if_pos (Or.inr k1)] at hPX
      have cik := cik rfl; rw [if_neg (by omega)] at cik
      have cnm := cnm rfl (by omega)
      by_cases v80 : v = 80
      · rw [if_pos v80] at hPX
        have fin := bad2 hPX.symm
        refine aw_enter pf_Mo_operand (Nat.le_of_ble_eq_true rfl) ?_
        refine ar_aload_n (pc := 0) d_Mo_operand_0 rfl ?_
        refine ar_getIv (pc := 1) gf_Mo_222 d_Mo_operand_1 (by first | rfl | exact sh_wheel (by omega) | exact sh_milk (by omega)) hs (fun r_1 => ?_)
        refine ar_iconst (pc := 4) d_Mo_operand_4 ?_
        refine ar_icmp_eq (pc := 5) 23 d_Mo_operand_5 (by decide) ⟨by omega, by omega⟩ ⟨by omega, by omega⟩ (fun h_5 => by exfalso; omega) (fun h_5 => ?_)
        refine ar_aload_n (pc := 8) d_Mo_operand_8 rfl ?_
        refine ar_getIv (pc := 9) gf_Mo_222 d_Mo_operand_9 (by first | rfl | exact sh_wheel (by omega) | exact sh_milk (by omega)) hs (fun r_9 => ?_)
        refine ar_iconst (pc := 12) d_Mo_operand_12 ?_
        refine ar_icmp_ne (pc := 13) 27 d_Mo_operand_13 (by decide) ⟨by omega, by omega⟩ ⟨by omega, by omega⟩ (fun h_13 => by exfalso; omega) (fun h_13 => ?_)
        refine ar_aload_n (pc := 16) d_Mo_operand_16 rfl ?_
        refine ac_virt (pc := 17) (N := mt_Mo_isKey) _ _ mv_Mo_isKey ml_Mo_306 ck_12 d_Mo_operand_17 cik (by first | rfl | exact sh_wheel (by omega) | exact sh_milk (by omega)) rfl rfl (Nat.le_of_ble_eq_true rfl) (Nat.le_of_eq (Nat.zero_add _)) (Nat.le_of_eq (Nat.zero_add _)) (fun r_17 G_17 h_17 => ?_)
        obtain ⟨rfl, e_17⟩ := h_17
        subst G_17
        refine ar_if_ne (pc := 20) 27 d_Mo_operand_20 (by decide) ⟨by omega, by omega⟩ (fun h_20 => by exfalso; omega) (fun h_20 => ?_)
        refine ar_iconst (pc := 23) d_Mo_operand_23 ?_
        refine ar_goto (pc := 24) 28 d_Mo_operand_24 (by decide) ?_
        refine ar_istore_n (pc := 28) d_Mo_operand_28 rfl (by decide) ?_
        refine ar_iload_n (pc := 29) d_Mo_operand_29 rfl ?_
        refine ar_if_ne (pc := 30) 50 d_Mo_operand_30 (by decide) ⟨by omega, by omega⟩ (fun h_30 => ?_) (fun h_30 => by exfalso; omega)
        refine ar_iload_n (pc := 50) d_Mo_operand_50 rfl ?_
        refine ar_if_eq (pc := 51) 146 d_Mo_operand_51 (by decide) ⟨by omega, by omega⟩ (fun h_51 => by exfalso; omega) (fun h_51 => ?_)
        refine ar_aload_n (pc := 54) d_Mo_operand_54 rfl ?_
        refine ar_getIv (pc := 55) gf_Mo_222 d_Mo_operand_55 (by first | rfl | exact sh_wheel (by omega) | exact sh_milk (by omega)) hs (fun r_55 => ?_)
        refine ar_iconst (pc := 58) d_Mo_operand_58 ?_
        refine ar_icmp_ne (pc := 59) 69 d_Mo_operand_59 (by decide) ⟨by omega, by omega⟩ ⟨by omega, by omega⟩ (fun h_59 => by exfalso; omega) (fun h_59 => ?_)
        refine ar_aload_n (pc := 62) d_Mo_operand_62 rfl ?_
        refine ac_virt (pc := 63) (N := mt_Mo_named) _ _ mv_Mo_named ml_Mo_312 ck_12 d_Mo_operand_63 cnm (by first | rfl | exact sh_wheel (by omega) | exact sh_milk (by omega)) rfl rfl (Nat.le_of_ble_eq_true rfl) (Nat.le_of_eq (Nat.zero_add _)) (Nat.le_of_eq (Nat.zero_add _)) (fun r_63 G_63 h_63 => ?_)
        obtain ⟨rfl, e_63⟩ := h_63
        subst G_63
        refine ar_goto (pc := 66) 70 d_Mo_operand_66 (by decide) ?_
        refine ar_istore_n (pc := 70) d_Mo_operand_70 rfl (by decide) ?_
        refine ar_aload_n (pc := 71) d_Mo_operand_71 rfl ?_
        refine ar_getIv (pc := 72) gf_Mo_315 d_Mo_operand_72 (by first | rfl | exact sh_wheel (by omega) | exact sh_milk (by omega)) e33 (fun r_72 => ?_)
        refine ar_bipush (pc := 75) d_Mo_operand_75 (by decide) ?_
        refine ar_icmp_ne (pc := 77) 88 d_Mo_operand_77 (by decide) ⟨by omega, by omega⟩ ⟨by omega, by omega⟩ (fun h_77 => by exfalso; omega) (fun h_77 => ?_)
        refine ar_aload_n (pc := 80) d_Mo_operand_80 rfl ?_
        refine ar_iconst (pc := 81) d_Mo_operand_81 ?_
        refine ac_virt (pc := 82) (N := mt_Mo_wrong) _ _ mv_Mo_wrong ml_Mo_309 ck_12 d_Mo_operand_82 w2 (by first | rfl | exact sh_wheel (by omega) | exact sh_milk (by omega)) rfl rfl (Nat.le_of_ble_eq_true rfl) (Nat.le_of_eq (Nat.zero_add _)) (Nat.le_of_eq (Nat.zero_add _)) (fun r_82 G_82 h_82 => ?_)
        obtain ⟨rfl, q82⟩ := h_82
        refine ar_goto (pc := 85) 97 d_Mo_operand_85 (by decide) ?_
        refine ar_aload_n (pc := 97) d_Mo_operand_97 rfl ?_
        refine ar_getIv (pc := 98) gf_Mo_234 d_Mo_operand_98 (by first | rfl | exact sh_wheel (by omega) | exact sh_milk (by omega)) (mw_e q82) (fun r_98 => ?_)
        refine ar_if_le (pc := 101) 106 d_Mo_operand_101 (by decide) ⟨by omega, by omega⟩ (fun h_101 => by exfalso; omega) (fun h_101 => ?_)
        refine ar_iload_n (pc := 104) d_Mo_operand_104 rfl ?_
        refine ar_iret (pc := 105) d_Mo_operand_105 rfl ?_
        rotate_left
        -- leaves: ret 105
        · exact fin _ q82
      · rw [if_neg v80] at hPX
        by_cases k303 : tn_K B z i = 303
        · rw [if_pos k303] at hPX
          rw [if_neg (by omega)] at cnm
          refine aw_enter pf_Mo_operand (Nat.le_of_ble_eq_true rfl) ?_
          refine ar_aload_n (pc := 0) d_Mo_operand_0 rfl ?_
          refine ar_getIv (pc := 1) gf_Mo_222 d_Mo_operand_1 (by first | rfl | exact sh_wheel (by omega) | exact sh_milk (by omega)) hs (fun r_1 => ?_)
          refine ar_iconst (pc := 4) d_Mo_operand_4 ?_
          refine ar_icmp_eq (pc := 5) 23 d_Mo_operand_5 (by decide) ⟨by omega, by omega⟩ ⟨by omega, by omega⟩ (fun h_5 => by exfalso; omega) (fun h_5 => ?_)
          refine ar_aload_n (pc := 8) d_Mo_operand_8 rfl ?_
          refine ar_getIv (pc := 9) gf_Mo_222 d_Mo_operand_9 (by first | rfl | exact sh_wheel (by omega) | exact sh_milk (by omega)) hs (fun r_9 => ?_)
          refine ar_iconst (pc := 12) d_Mo_operand_12 ?_
          refine ar_icmp_ne (pc := 13) 27 d_Mo_operand_13 (by decide) ⟨by omega, by omega⟩ ⟨by omega, by omega⟩ (fun h_13 => by exfalso; omega) (fun h_13 => ?_)
          refine ar_aload_n (pc := 16) d_Mo_operand_16 rfl ?_
          refine ac_virt (pc := 17) (N := mt_Mo_isKey) _ _ mv_Mo_isKey ml_Mo_306 ck_12 d_Mo_operand_17 cik (by first | rfl | exact sh_wheel (by omega) | exact sh_milk (by omega)) rfl rfl (Nat.le_of_ble_eq_true rfl) (Nat.le_of_eq (Nat.zero_add _)) (Nat.le_of_eq (Nat.zero_add _)) (fun r_17 G_17 h_17 => ?_)
          obtain ⟨rfl, e_17⟩ := h_17
          subst G_17
          refine ar_if_ne (pc := 20) 27 d_Mo_operand_20 (by decide) ⟨by omega, by omega⟩ (fun h_20 => by exfalso; omega) (fun h_20 => ?_)
          refine ar_iconst (pc := 23) d_Mo_operand_23 ?_
          refine ar_goto (pc := 24) 28 d_Mo_operand_24 (by decide) ?_
          refine ar_istore_n (pc := 28) d_Mo_operand_28 rfl (by decide) ?_
          refine ar_iload_n (pc := 29) d_Mo_operand_29 rfl ?_
          refine ar_if_ne (pc := 30) 50 d_Mo_operand_30 (by decide) ⟨by omega, by omega⟩ (fun h_30 => ?_) (fun h_30 => by exfalso; omega)
          refine ar_iload_n (pc := 50) d_Mo_operand_50 rfl ?_
          refine ar_if_eq (pc := 51) 146 d_Mo_operand_51 (by decide) ⟨by omega, by omega⟩ (fun h_51 => by exfalso; omega) (fun h_51 => ?_)
          refine ar_aload_n (pc := 54) d_Mo_operand_54 rfl ?_
          refine ar_getIv (pc := 55) gf_Mo_222 d_Mo_operand_55 (by first | rfl | exact sh_wheel (by omega) | exact sh_milk (by omega)) hs (fun r_55 => ?_)
          refine ar_iconst (pc := 58) d_Mo_operand_58 ?_
          refine ar_icmp_ne (pc := 59) 69 d_Mo_operand_59 (by decide) ⟨by omega, by omega⟩ ⟨by omega, by omega⟩ (fun h_59 => by exfalso; omega) (fun h_59 => ?_)
          refine ar_aload_n (pc := 62) d_Mo_operand_62 rfl ?_
          refine ac_virt (pc := 63) (N := mt_Mo_named) _ _ mv_Mo_named ml_Mo_312 ck_12 d_Mo_operand_63 cnm (by first | rfl | exact sh_wheel (by omega) | exact sh_milk (by omega)) rfl rfl (Nat.le_of_ble_eq_true rfl) (Nat.le_of_eq (Nat.zero_add _)) (Nat.le_of_eq (Nat.zero_add _)) (fun r_63 G_63 h_63 => ?_)
          obtain ⟨rfl, e_63⟩ := h_63
          subst G_63
          refine ar_goto (pc := 66) 70 d_Mo_operand_66 (by decide) ?_
          refine ar_istore_n (pc := 70) d_Mo_operand_70 rfl (by decide) ?_
          refine ar_aload_n (pc := 71) d_Mo_operand_71 rfl ?_
          refine ar_getIv (pc := 72) gf_Mo_315 d_Mo_operand_72 (by first | rfl | exact sh_wheel (by omega) | exact sh_milk (by omega)) e33 (fun r_72 => ?_)
          refine ar_bipush (pc := 75) d_Mo_operand_75 (by decide) ?_
          refine ar_icmp_ne (pc := 77) 88 d_Mo_operand_77 (by decide) ⟨by omega, by omega⟩ ⟨by omega, by omega⟩ (fun h_77 => ?_) (fun h_77 => by exfalso; omega)
          refine ar_iload_n (pc := 88) d_Mo_operand_88 rfl ?_
          refine ar_if_ge (pc := 89) 97 d_Mo_operand_89 (by decide) ⟨by omega, by omega⟩ (fun h_89 => by exfalso; omega) (fun h_89 => ?_)
          refine ar_aload_n (pc := 92) d_Mo_operand_92 rfl ?_
          refine ar_iconst (pc := 93) d_Mo_operand_93 ?_
          refine ac_virt (pc := 94) (N := mt_Mo_wrong) _ _ mv_Mo_wrong ml_Mo_309 ck_12 d_Mo_operand_94 w3 (by first | rfl | exact sh_wheel (by omega) | exact sh_milk (by omega)) rfl rfl (Nat.le_of_ble_eq_true rfl) (Nat.le_of_eq (Nat.zero_add _)) (Nat.le_of_eq (Nat.zero_add _)) (fun r_94 G_94 h_94 => ?_)
          obtain ⟨rfl, q94⟩ := h_94
          refine ar_aload_n (pc := 97) d_Mo_operand_97 rfl ?_
          refine ar_getIv (pc := 98) gf_Mo_234 d_Mo_operand_98 (by first | rfl | exact sh_wheel (by omega) | exact sh_milk (by omega)) (mw_e q94) (fun r_98 => ?_)
          refine ar_if_le (pc := 101) 106 d_Mo_operand_101 (by decide) ⟨by omega, by omega⟩ (fun h_101 => by exfalso; omega) (fun h_101 => ?_)
          refine ar_iload_n (pc := 104) d_Mo_operand_104 rfl ?_
          refine ar_iret (pc := 105) d_Mo_operand_105 rfl ?_
          rotate_left
          -- leaves: ret 105
          · exact Or.inr ⟨_, _, 1, hPX.symm, b3, rfl, ⟨by omega, by omega⟩, q94⟩
        · rw [if_neg k303, if_neg (by omega)] at hPX
          rw [if_pos (by omega)] at cnm
          have hl := hlt (by omega)
          refine aw_enter pf_Mo_operand (Nat.le_of_ble_eq_true rfl) ?_
          refine ar_rngI (fun hrg => ?_)
          have r42 := hrg 60 42
          clear hrg
          generalize h42 : mm_I G1 60 42 = y42 at *
          have c127 := cm_Mo_step X (d + 1) (y := -1 - tn_K B z i) (a := 20 + (tn_K B z i - 8)) (b := y42) (by exact fun a k b q => by rw [← h.1.1]; exact hF a k b q) h (Or.inr (Or.inl ⟨by omega, by omega⟩)) ⟨by omega, by omega⟩ r42 (by omega)
          have c141 := fun G2 q => cm_Mo_nx X d (G1 := G2) (i := i) (v := v + 1) (W := W) (o := o ++ [-1 - tn_K B z i]) (by exact fun a k b q => by rw [← h.1.1]; exact hF a k b q) hz bb hB hE q hl
          refine ar_aload_n (pc := 0) d_Mo_operand_0 rfl ?_
          refine ar_getIv (pc := 1) gf_Mo_222 d_Mo_operand_1 (by first | rfl | exact sh_wheel (by omega) | exact sh_milk (by omega)) hs (fun r_1 => ?_)
          refine ar_iconst (pc := 4) d_Mo_operand_4 ?_
          refine ar_icmp_eq (pc := 5) 23 d_Mo_operand_5 (by decide) ⟨by omega, by omega⟩ ⟨by omega, by omega⟩ (fun h_5 => by exfalso; omega) (fun h_5 => ?_)
          refine ar_aload_n (pc := 8) d_Mo_operand_8 rfl ?_
          refine ar_getIv (pc := 9) gf_Mo_222 d_Mo_operand_9 (by first | rfl | exact sh_wheel (by omega) | exact sh_milk (by omega)) hs (fun r_9 => ?_)
          refine ar_iconst (pc := 12) d_Mo_operand_12 ?_
          refine ar_icmp_ne (pc := 13) 27 d_Mo_operand_13 (by decide) ⟨by omega, by omega⟩ ⟨by omega, by omega⟩ (fun h_13 => by exfalso; omega) (fun h_13 => ?_)
          refine ar_aload_n (pc := 16) d_Mo_operand_16 rfl ?_
          refine ac_virt (pc := 17) (N := mt_Mo_isKey) _ _ mv_Mo_isKey ml_Mo_306 ck_12 d_Mo_operand_17 cik (by first | rfl | exact sh_wheel (by omega) | exact sh_milk (by omega)) rfl rfl (Nat.le_of_ble_eq_true rfl) (Nat.le_of_eq (Nat.zero_add _)) (Nat.le_of_eq (Nat.zero_add _)) (fun r_17 G_17 h_17 => ?_)
          obtain ⟨rfl, e_17⟩ := h_17
          subst G_17
          refine ar_if_ne (pc := 20) 27 d_Mo_operand_20 (by decide) ⟨by omega, by omega⟩ (fun h_20 => by exfalso; omega) (fun h_20 => ?_)
          refine ar_iconst (pc := 23) d_Mo_operand_23 ?_
          refine ar_goto (pc := 24) 28 d_Mo_operand_24 (by decide) ?_
          refine ar_istore_n (pc := 28) d_Mo_operand_28 rfl (by decide) ?_
          refine ar_iload_n (pc := 29) d_Mo_operand_29 rfl ?_
          refine ar_if_ne (pc := 30) 50 d_Mo_operand_30 (by decide) ⟨by omega, by omega⟩ (fun h_30 => ?_) (fun h_30 => by exfalso; omega)
          refine ar_iload_n (pc := 50) d_Mo_operand_50 rfl ?_
          refine ar_if_eq (pc := 51) 146 d_Mo_operand_51 (by decide) ⟨by omega, by omega⟩ (fun h_51 => by exfalso; omega) (fun h_51 => ?_)
          refine ar_aload_n (pc := 54) d_Mo_operand_54 rfl ?_
          refine ar_getIv (pc := 55) gf_Mo_222 d_Mo_operand_55 (by first | rfl | exact sh_wheel (by omega) | exact sh_milk (by omega)) hs (fun r_55 => ?_)
          refine ar_iconst (pc := 58) d_Mo_operand_58 ?_
          refine ar_icmp_ne (pc := 59) 69 d_Mo_operand_59 (by decide) ⟨by omega, by omega⟩ ⟨by omega, by omega⟩ (fun h_59 => by exfalso; omega) (fun h_59 => ?_)
          refine ar_aload_n (pc := 62) d_Mo_operand_62 rfl ?_
          refine ac_virt (pc := 63) (N := mt_Mo_named) _ _ mv_Mo_named ml_Mo_312 ck_12 d_Mo_operand_63 cnm (by first | rfl | exact sh_wheel (by omega) | exact sh_milk (by omega)) rfl rfl (Nat.le_of_ble_eq_true rfl) (Nat.le_of_eq (Nat.zero_add _)) (Nat.le_of_eq (Nat.zero_add _)) (fun r_63 G_63 h_63 => ?_)
          obtain ⟨rfl, e_63⟩ := h_63
          subst G_63
          refine ar_goto (pc := 66) 70 d_Mo_operand_66 (by decide) ?_
          refine ar_istore_n (pc := 70) d_Mo_operand_70 rfl (by decide) ?_
          refine ar_aload_n (pc := 71) d_Mo_operand_71 rfl ?_
          refine ar_getIv (pc := 72) gf_Mo_315 d_Mo_operand_72 (by first | rfl | exact sh_wheel (by omega) | exact sh_milk (by omega)) e33 (fun r_72 => ?_)
          refine ar_bipush (pc := 75) d_Mo_operand_75 (by decide) ?_
          refine ar_icmp_ne (pc := 77) 88 d_Mo_operand_77 (by decide) ⟨by omega, by omega⟩ ⟨by omega, by omega⟩ (fun h_77 => ?_) (fun h_77 => by exfalso; omega)
          refine ar_iload_n (pc := 88) d_Mo_operand_88 rfl ?_
          refine ar_if_ge (pc := 89) 97 d_Mo_operand_89 (by decide) ⟨by omega, by omega⟩ (fun h_89 => ?_) (fun h_89 => by exfalso; omega)
          refine ar_aload_n (pc := 97) d_Mo_operand_97 rfl ?_
          refine ar_getIv (pc := 98) gf_Mo_234 d_Mo_operand_98 (by first | rfl | exact sh_wheel (by omega) | exact sh_milk (by omega)) f36 (fun r_98 => ?_)
          refine ar_if_le (pc := 101) 106 d_Mo_operand_101 (by decide) ⟨by omega, by omega⟩ (fun h_101 => ?_) (fun h_101 => by exfalso; omega)
          refine ar_aload_n (pc := 106) d_Mo_operand_106 rfl ?_
          refine ar_aload_n (pc := 107) d_Mo_operand_107 rfl ?_
          refine ar_getIv (pc := 108) gf_Mo_222 d_Mo_operand_108 (by first | rfl | exact sh_wheel (by omega) | exact sh_milk (by omega)) hs (fun r_108 => ?_)
          refine ar_iconst (pc := 111) d_Mo_operand_111 ?_
          refine ar_icmp_ne (pc := 112) 119 d_Mo_operand_112 (by decide) ⟨by omega, by omega⟩ ⟨by omega, by omega⟩ (fun h_112 => ?_) (fun h_112 => by exfalso; omega)
          refine ar_bipush (pc := 119) d_Mo_operand_119 (by decide) ?_
          refine ar_iload_n (pc := 121) d_Mo_operand_121 rfl ?_
          refine ar_iadd (pc := 122) d_Mo_operand_122 ?_
          refine ar_aload_n (pc := 123) d_Mo_operand_123 rfl ?_
          refine ar_getIv (pc := 124) gf_Mo_219 d_Mo_operand_124 (by first | rfl | exact sh_wheel (by omega) | exact sh_milk (by omega)) h42 (fun r_124 => ?_)
          refine ac_virt (pc := 127) (N := mt_Mo_step) _ _ mv_Mo_step ml_Mo_282 ck_12 d_Mo_operand_127 c127 (by first | rfl | exact sh_wheel (by omega) | exact sh_milk (by omega)) rfl rfl (Nat.le_of_ble_eq_true rfl) (Nat.le_of_eq (Nat.zero_add _)) (Nat.le_of_eq (Nat.zero_add _)) (fun r_127 G_127 h_127 => ?_)
          obtain ⟨rfl, q127⟩ := h_127
          refine ar_aload_n (pc := 130) d_Mo_operand_130 rfl ?_
          refine ar_dup (pc := 131) d_Mo_operand_131 rfl ?_
          refine ar_getIv (pc := 132) gf_Mo_315 d_Mo_operand_132 (by first | rfl | exact sh_wheel (by omega) | exact sh_milk (by omega)) (q127.2.2.2.2.1) (fun r_132 => ?_)
          refine ar_iconst (pc := 135) d_Mo_operand_135 ?_
          refine ar_iadd (pc := 136) d_Mo_operand_136 ?_
          refine ar_putI (pc := 137) gf_Mo_315 d_Mo_operand_137 rfl (by first | rfl | exact sh_wheel (by omega) | exact sh_milk (by omega)) ⟨by omega, by omega⟩ ?_
          refine ar_aload_n (pc := 140) d_Mo_operand_140 rfl ?_
          refine ac_virt (pc := 141) (N := mt_Mo_next) _ _ mv_Mo_next ml_Mo_318 ck_12 d_Mo_operand_141 (c141 _ (mo_v q127)) (by first | rfl | exact sh_wheel (by omega) | exact sh_milk (by omega)) rfl rfl (Nat.le_of_ble_eq_true rfl) (Nat.le_of_eq (Nat.zero_add _)) (Nat.le_of_eq (Nat.zero_add _)) (fun r_141 G_141 h_141 => ?_)
          obtain ⟨rfl, q141⟩ := h_141
          refine ar_iconst (pc := 144) d_Mo_operand_144 ?_
          refine ar_iret (pc := 145) d_Mo_operand_145 rfl ?_
          rotate_left
          -- leaves: ret 145
          · exact Or.inl ⟨2, i + 1, v + 1, W, _, hPX.symm, rfl, q141⟩
    · rw [if_neg k1] at hPX
      clear cnm t3 w3 cik
      by_cases k40 : tn_K B z i = 40
      · rw [if_pos k40] at hPX
        have hl := hlt (by omega)
        have hs40 := k4.mp k40
        have c158 := cm_Mo_hold X (d + 1) (w := 48) (by exact fun a k b q => by rw [← h.1.1]; exact hF a k b q) h (by omega) (by omega) (by omega)
        have c162 := fun G2 q => cm_Mo_nx X d (G1 := G2) (i := i) (v := v) (W := 48 :: W) (o := o) (by exact fun a k b q => by rw [← h.1.1]; exact hF a k b q) hz bb hB hE q hl
        refine aw_enter pf_Mo_operand (Nat.le_of_ble_eq_true rfl) ?_
        refine ar_aload_n (pc := 0) d_Mo_operand_0 rfl ?_
        refine ar_getIv (pc := 1) gf_Mo_222 d_Mo_operand_1 (by first | rfl | exact sh_wheel (by omega) | exact sh_milk (by omega)) hs (fun r_1 => ?_)
        refine ar_iconst (pc := 4) d_Mo_operand_4 ?_
        refine ar_icmp_eq (pc := 5) 23 d_Mo_operand_5 (by decide) ⟨by omega, by omega⟩ ⟨by omega, by omega⟩ (fun h_5 => by exfalso; omega) (fun h_5 => ?_)
        refine ar_aload_n (pc := 8) d_Mo_operand_8 rfl ?_
        refine ar_getIv (pc := 9) gf_Mo_222 d_Mo_operand_9 (by first | rfl | exact sh_wheel (by omega) | exact sh_milk (by omega)) hs (fun r_9 => ?_)
        refine ar_iconst (pc := 12) d_Mo_operand_12 ?_
        refine ar_icmp_ne (pc := 13) 27 d_Mo_operand_13 (by decide) ⟨by omega, by omega⟩ ⟨by omega, by omega⟩ (fun h_13 => ?_) (fun h_13 => by exfalso; omega)
        refine ar_iconst (pc := 27) d_Mo_operand_27 ?_
        refine ar_istore_n (pc := 28) d_Mo_operand_28 rfl (by decide) ?_
        refine ar_iload_n (pc := 29) d_Mo_operand_29 rfl ?_
        refine ar_if_ne (pc := 30) 50 d_Mo_operand_30 (by decide) ⟨by omega, by omega⟩ (fun h_30 => ?_) (fun h_30 => by exfalso; omega)
        refine ar_iload_n (pc := 50) d_Mo_operand_50 rfl ?_
        refine ar_if_eq (pc := 51) 146 d_Mo_operand_51 (by decide) ⟨by omega, by omega⟩ (fun h_51 => ?_) (fun h_51 => by exfalso; omega)
        refine ar_aload_n (pc := 146) d_Mo_operand_146 rfl ?_
        refine ar_getIv (pc := 147) gf_Mo_222 d_Mo_operand_147 (by first | rfl | exact sh_wheel (by omega) | exact sh_milk (by omega)) hs (fun r_147 => ?_)
        refine ar_bipush (pc := 150) d_Mo_operand_150 (by decide) ?_
        refine ar_icmp_ne (pc := 152) 167 d_Mo_operand_152 (by decide) ⟨by omega, by omega⟩ ⟨by omega, by omega⟩ (fun h_152 => by exfalso; omega) (fun h_152 => ?_)
        refine ar_aload_n (pc := 155) d_Mo_operand_155 rfl ?_
        refine ar_bipush (pc := 156) d_Mo_operand_156 (by decide) ?_
        refine ac_virt (pc := 158) (N := mt_Mo_hold) _ _ mv_Mo_hold ml_Mo_321 ck_12 d_Mo_operand_158 c158 (by first | rfl | exact sh_wheel (by omega) | exact sh_milk (by omega)) rfl rfl (Nat.le_of_ble_eq_true rfl) (Nat.le_of_eq (Nat.zero_add _)) (Nat.le_of_eq (Nat.zero_add _)) (fun r_158 G_158 h_158 => ?_)
        obtain ⟨rfl, q158⟩ := h_158
        refine ar_aload_n (pc := 161) d_Mo_operand_161 rfl ?_
        refine ac_virt (pc := 162) (N := mt_Mo_next) _ _ mv_Mo_next ml_Mo_318 ck_12 d_Mo_operand_162 (c162 _ q158) (by first | rfl | exact sh_wheel (by omega) | exact sh_milk (by omega)) rfl rfl (Nat.le_of_ble_eq_true rfl) (Nat.le_of_eq (Nat.zero_add _)) (Nat.le_of_eq (Nat.zero_add _)) (fun r_162 G_162 h_162 => ?_)
        obtain ⟨rfl, q162⟩ := h_162
        refine ar_iconst (pc := 165) d_Mo_operand_165 ?_
        refine ar_iret (pc := 166) d_Mo_operand_166 rfl ?_
        rotate_left
        -- leaves: ret 166
        · exact Or.inl ⟨0, i + 1, v, 48 :: W, o, hPX.symm, rfl, q162⟩
      · rw [if_neg k40, if_neg (fun q => k2 q.2)] at hPX
        have fin := bad2 hPX.symm
        have k4' : s ≠ 40 := fun q => k40 (k4.mpr q)
        clear k4
        refine aw_enter pf_Mo_operand (Nat.le_of_ble_eq_true rfl) ?_
        refine ar_aload_n (pc := 0) d_Mo_operand_0 rfl ?_
        refine ar_getIv (pc := 1) gf_Mo_222 d_Mo_operand_1 (by first | rfl | exact sh_wheel (by omega) | exact sh_milk (by omega)) hs (fun r_1 => ?_)
        refine ar_iconst (pc := 4) d_Mo_operand_4 ?_
        refine ar_icmp_eq (pc := 5) 23 d_Mo_operand_5 (by decide) ⟨by omega, by omega⟩ ⟨by omega, by omega⟩ (fun h_5 => by exfalso; omega) (fun h_5 => ?_)
        refine ar_aload_n (pc := 8) d_Mo_operand_8 rfl ?_
        refine ar_getIv (pc := 9) gf_Mo_222 d_Mo_operand_9 (by first | rfl | exact sh_wheel (by omega) | exact sh_milk (by omega)) hs (fun r_9 => ?_)
        refine ar_iconst (pc := 12) d_Mo_operand_12 ?_
        refine ar_icmp_ne (pc := 13) 27 d_Mo_operand_13 (by decide) ⟨by omega, by omega⟩ ⟨by omega, by omega⟩ (fun h_13 => ?_) (fun h_13 => by exfalso; omega)
        refine ar_iconst (pc := 27) d_Mo_operand_27 ?_
        refine ar_istore_n (pc := 28) d_Mo_operand_28 rfl (by decide) ?_
        refine ar_iload_n (pc := 29) d_Mo_operand_29 rfl ?_
        refine ar_if_ne (pc := 30) 50 d_Mo_operand_30 (by decide) ⟨by omega, by omega⟩ (fun h_30 => ?_) (fun h_30 => by exfalso; omega)
        refine ar_iload_n (pc := 50) d_Mo_operand_50 rfl ?_
        refine ar_if_eq (pc := 51) 146 d_Mo_operand_51 (by decide) ⟨by omega, by omega⟩ (fun h_51 => ?_) (fun h_51 => by exfalso; omega)
        refine ar_aload_n (pc := 146) d_Mo_operand_146 rfl ?_
        refine ar_getIv (pc := 147) gf_Mo_222 d_Mo_operand_147 (by first | rfl | exact sh_wheel (by omega) | exact sh_milk (by omega)) hs (fun r_147 => ?_)
        refine ar_bipush (pc := 150) d_Mo_operand_150 (by decide) ?_
        refine ar_icmp_ne (pc := 152) 167 d_Mo_operand_152 (by decide) ⟨by omega, by omega⟩ ⟨by omega, by omega⟩ (fun h_152 => ?_) (fun h_152 => by exfalso; omega)
        refine ar_iload_n (pc := 167) d_Mo_operand_167 rfl ?_
        refine ar_if_ne (pc := 168) 193 d_Mo_operand_168 (by decide) ⟨by omega, by omega⟩ (fun h_168 => ?_) (fun h_168 => by exfalso; omega)
        refine ar_aload_n (pc := 193) d_Mo_operand_193 rfl ?_
        refine ar_iconst (pc := 194) d_Mo_operand_194 ?_
        refine ac_virt (pc := 195) (N := mt_Mo_wrong) _ _ mv_Mo_wrong ml_Mo_309 ck_12 d_Mo_operand_195 w2 (by first | rfl | exact sh_wheel (by omega) | exact sh_milk (by omega)) rfl rfl (Nat.le_of_ble_eq_true rfl) (Nat.le_of_eq (Nat.zero_add _)) (Nat.le_of_eq (Nat.zero_add _)) (fun r_195 G_195 h_195 => ?_)
        obtain ⟨rfl, q195⟩ := h_195
        refine ar_iload_n (pc := 198) d_Mo_operand_198 rfl ?_
        refine ar_iret (pc := 199) d_Mo_operand_199 rfl ?_
        rotate_left
        -- leaves: ret 199
        · exact fin _ q195
