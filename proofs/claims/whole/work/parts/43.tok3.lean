/-! ===== tokens: blanks and lengths ===== -/
def tb_v (G : mm_T) (i : Nat) : Int := if (i : Int) < mm_I G 33 1 then mm_I G 34 i else -1
theorem cm_Ta_at (X : gx_T) (d : Nat) (G : mm_T) {i : Nat} (hF : fx_R G) (hi : i ≤ 2000) (hc : mm_I G 33 1 ≤ 500) : aw_M X (d + 1) mt_Ta_byteAt [av_r (some 33), av_i (i : Int)] G 0 0 (fun r G' => r = some (av_i (tb_v G i)) ∧ G' = G) := by
  have h := cm_Ta_byteAt X d G (p := (i : Int)) hF ⟨by omega, by omega⟩ hc
  rw [Int.toNat_natCast] at h
  have e : (if 0 ≤ (i : Int) ∧ (i : Int) < mm_I G 33 1 then mm_I G 34 i else -1) = tb_v G i := by
    unfold tb_v
    by_cases hz : (i : Int) < mm_I G 33 1
    · rw [if_pos ⟨by omega, hz⟩, if_pos hz]
    · rw [if_neg (fun z => hz z.2), if_neg hz]
  rw [e] at h
  exact h
def bk_s (b : Int) : Prop := b = 32 ∨ b = 10
theorem lp_To_behindBlanks (X : gx_T) (d : Nat) (G : mm_T) {z a : Nat} (hF : fx_R G) (hz : mm_I G 33 1 = z) (hz2 : z ≤ 500) (hby : ∀ k, -1 ≤ tb_v G k ∧ tb_v G k ≤ 255) : ∀ n i, i + n = z → a ≤ i → (∀ k, a ≤ k → k < i → bk_s (tb_v G k)) → aw_W X mt_To_behindBlanks (d + 2) 2 [(0, some (av_r (some 33))), (2, some (av_i (i : Int)))] [] G 0 0 (fun r G' => (∃ j : Nat, r = some (av_i (j : Int)) ∧ a ≤ j ∧ j ≤ z ∧ (∀ k, a ≤ k → k < j → bk_s (tb_v G k)) ∧ ¬ bk_s (tb_v G j)) ∧ G' = G) := by
  intro n
  induction n with
  | zero =>
    intro i hi ha hb
    have hi : i = z := by omega
    subst hi
    refine ar_iload_n (pc := 2) d_To_behindBlanks_2 rfl ?_
    refine ar_aload_n (pc := 3) d_To_behindBlanks_3 rfl ?_
    refine ar_getIv (pc := 4) gf_To_38 d_To_behindBlanks_4 (by first | rfl | exact sh_wheel (by omega) | exact sh_milk (by omega)) hz (fun r_4 => ?_)
    refine ar_icmp_ge (pc := 7) 36 d_To_behindBlanks_7 (by decide) ⟨by omega, by omega⟩ ⟨by omega, by omega⟩ (fun h_7 => ?_) (fun h_7 => by exfalso; omega)
    refine ar_iload_n (pc := 36) d_To_behindBlanks_36 rfl ?_
    refine ar_iret (pc := 37) d_To_behindBlanks_37 rfl ?_
    rotate_left
    -- leaves: ret 37
    · refine ⟨⟨i, rfl, ha, by omega, hb, ?_⟩, rfl⟩
      unfold tb_v bk_s
      rw [if_neg (by omega)]; omega
  | succ n ih =>
    intro i hi ha hb
    have c := cm_Ta_at X d G (i := i) hF (by omega) (by omega)
    have i1 := ih (i + 1) (by omega) (by omega)
    clear ih
    have hr := hby i
    by_cases hk : bk_s (tb_v G i)
    · have i1 := i1 (fun k k1 k2 => by by_cases e : k = i; rw [e]; exact hk; exact hb k k1 (by omega))
      unfold bk_s at hk
      refine ar_iload_n (pc := 2) d_To_behindBlanks_2 rfl ?_
      refine ar_aload_n (pc := 3) d_To_behindBlanks_3 rfl ?_
      refine ar_getIv (pc := 4) gf_To_38 d_To_behindBlanks_4 (by first | rfl | exact sh_wheel (by omega) | exact sh_milk (by omega)) hz (fun r_4 => ?_)
      refine ar_icmp_ge (pc := 7) 36 d_To_behindBlanks_7 (by decide) ⟨by omega, by omega⟩ ⟨by omega, by omega⟩ (fun h_7 => by exfalso; omega) (fun h_7 => ?_)
      refine ar_aload_n (pc := 10) d_To_behindBlanks_10 rfl ?_
      refine ar_iload_n (pc := 11) d_To_behindBlanks_11 rfl ?_
      refine ac_virt (pc := 12) (N := mt_Ta_byteAt) _ _ mv_Ta_byteAt ml_To_43 ck_8 d_To_behindBlanks_12 c (by first | rfl | exact sh_wheel (by omega) | exact sh_milk (by omega)) rfl rfl (Nat.le_of_ble_eq_true rfl) (Nat.le_of_eq (Nat.zero_add _)) (Nat.le_of_eq (Nat.zero_add _)) (fun r_12 G_12 h_12 => ?_)
      obtain ⟨rfl, e_12⟩ := h_12
      subst G_12
      refine ar_bipush (pc := 15) d_To_behindBlanks_15 (by decide) ?_
      refine ar_icmp_eq (pc := 17) 30 d_To_behindBlanks_17 (by decide) ⟨by omega, by omega⟩ ⟨by omega, by omega⟩ (fun h_17 => ?_) (fun h_17 => ?_)
      refine ar_iinc (pc := 30) d_To_behindBlanks_30 rfl rfl (by decide) ?_
      refine ar_goto (pc := 33) 2 d_To_behindBlanks_33 (by decide) ?_
      rotate_left
      refine ar_aload_n (pc := 20) d_To_behindBlanks_20 rfl ?_
      refine ar_iload_n (pc := 21) d_To_behindBlanks_21 rfl ?_
      refine ac_virt (pc := 22) (N := mt_Ta_byteAt) _ _ mv_Ta_byteAt ml_To_43 ck_8 d_To_behindBlanks_22 c (by first | rfl | exact sh_wheel (by omega) | exact sh_milk (by omega)) rfl rfl (Nat.le_of_ble_eq_true rfl) (Nat.le_of_eq (Nat.zero_add _)) (Nat.le_of_eq (Nat.zero_add _)) (fun r_22 G_22 h_22 => ?_)
      obtain ⟨rfl, e_22⟩ := h_22
      subst G_22
      refine ar_bipush (pc := 25) d_To_behindBlanks_25 (by decide) ?_
      refine ar_icmp_ne (pc := 27) 36 d_To_behindBlanks_27 (by decide) ⟨by omega, by omega⟩ ⟨by omega, by omega⟩ (fun h_27 => ?_) (fun h_27 => ?_)
      refine ar_iload_n (pc := 36) d_To_behindBlanks_36 rfl ?_
      refine ar_iret (pc := 37) d_To_behindBlanks_37 rfl ?_
      rotate_left
      refine ar_iinc (pc := 30) d_To_behindBlanks_30 rfl rfl (by decide) ?_
      refine ar_goto (pc := 33) 2 d_To_behindBlanks_33 (by decide) ?_
      rotate_left
      -- leaves: stop 2, ret 37, stop 2
      all_goals first | (exfalso; omega) | exact ar_loc i1 ⟨rfl, li_i rfl (by omega), trivial⟩
    · have hk' := hk
      unfold bk_s at hk'
      clear i1
      refine ar_iload_n (pc := 2) d_To_behindBlanks_2 rfl ?_
      refine ar_aload_n (pc := 3) d_To_behindBlanks_3 rfl ?_
      refine ar_getIv (pc := 4) gf_To_38 d_To_behindBlanks_4 (by first | rfl | exact sh_wheel (by omega) | exact sh_milk (by omega)) hz (fun r_4 => ?_)
      refine ar_icmp_ge (pc := 7) 36 d_To_behindBlanks_7 (by decide) ⟨by omega, by omega⟩ ⟨by omega, by omega⟩ (fun h_7 => by exfalso; omega) (fun h_7 => ?_)
      refine ar_aload_n (pc := 10) d_To_behindBlanks_10 rfl ?_
      refine ar_iload_n (pc := 11) d_To_behindBlanks_11 rfl ?_
      refine ac_virt (pc := 12) (N := mt_Ta_byteAt) _ _ mv_Ta_byteAt ml_To_43 ck_8 d_To_behindBlanks_12 c (by first | rfl | exact sh_wheel (by omega) | exact sh_milk (by omega)) rfl rfl (Nat.le_of_ble_eq_true rfl) (Nat.le_of_eq (Nat.zero_add _)) (Nat.le_of_eq (Nat.zero_add _)) (fun r_12 G_12 h_12 => ?_)
      obtain ⟨rfl, e_12⟩ := h_12
      subst G_12
      refine ar_bipush (pc := 15) d_To_behindBlanks_15 (by decide) ?_
      refine ar_icmp_eq (pc := 17) 30 d_To_behindBlanks_17 (by decide) ⟨by omega, by omega⟩ ⟨by omega, by omega⟩ (fun h_17 => ?_) (fun h_17 => ?_)
      refine ar_iinc (pc := 30) d_To_behindBlanks_30 rfl rfl (by decide) ?_
      refine ar_goto (pc := 33) 2 d_To_behindBlanks_33 (by decide) ?_
      rotate_left
      refine ar_aload_n (pc := 20) d_To_behindBlanks_20 rfl ?_
      refine ar_iload_n (pc := 21) d_To_behindBlanks_21 rfl ?_
      refine ac_virt (pc := 22) (N := mt_Ta_byteAt) _ _ mv_Ta_byteAt ml_To_43 ck_8 d_To_behindBlanks_22 c (by first | rfl | exact sh_wheel (by omega) | exact sh_milk (by omega)) rfl rfl (Nat.le_of_ble_eq_true rfl) (Nat.le_of_eq (Nat.zero_add _)) (Nat.le_of_eq (Nat.zero_add _)) (fun r_22 G_22 h_22 => ?_)
      obtain ⟨rfl, e_22⟩ := h_22
      subst G_22
      refine ar_bipush (pc := 25) d_To_behindBlanks_25 (by decide) ?_
      refine ar_icmp_ne (pc := 27) 36 d_To_behindBlanks_27 (by decide) ⟨by omega, by omega⟩ ⟨by omega, by omega⟩ (fun h_27 => ?_) (fun h_27 => ?_)
      refine ar_iload_n (pc := 36) d_To_behindBlanks_36 rfl ?_
      refine ar_iret (pc := 37) d_To_behindBlanks_37 rfl ?_
      rotate_left
      refine ar_iinc (pc := 30) d_To_behindBlanks_30 rfl rfl (by decide) ?_
      refine ar_goto (pc := 33) 2 d_To_behindBlanks_33 (by decide) ?_
      rotate_left
      -- leaves: stop 2, ret 37, stop 2
      all_goals first | (exfalso; omega) | exact ⟨⟨i, rfl, ha, by omega, hb, hk⟩, rfl⟩
