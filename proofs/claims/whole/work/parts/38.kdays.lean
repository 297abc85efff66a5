/-! ===== days of the class ===== -/
theorem lp_K_days (X : gx_T) (d : Nat) {N : Nat} {Inv : mm_T → Nat → Prop} (hN : N ≤ 400) (hs : ∀ G1 t, t < N → Inv G1 t → aw_M X (d + 5) mt_K_passDay [av_r (some 0)] G1 0 0 (fun r G' => r = none ∧ Inv G' (t + 1))) : ∀ n t G1, t + n = N → Inv G1 t → aw_W X mt_K_days (d + 6) 26 [(0, some (av_r (some 0))), (2, some (av_i (N : Int))), (3, some (av_i (t : Int)))] [] G1 0 0 (fun r G' => r = some (av_i (N : Int)) ∧ Inv G' N) := by
  intro n
  induction n with
  | zero =>
    intro t G1 ht hI
    have ht : t = N := by omega
    subst ht
    refine ar_iload_n (pc := 26) d_K_days_26 rfl ?_
    refine ar_iload_n (pc := 27) d_K_days_27 rfl ?_
    refine ar_icmp_ge (pc := 28) 41 d_K_days_28 (by decide) ⟨by omega, by omega⟩ ⟨by omega, by omega⟩ (fun h_28 => ?_) (fun h_28 => by exfalso; omega)
    refine ar_iload_n (pc := 41) d_K_days_41 rfl ?_
    refine ar_iret (pc := 42) d_K_days_42 rfl ?_
    rotate_left
    -- leaves: ret 42
    · exact ⟨rfl, hI⟩
  | succ n ih =>
    intro t G1 ht hI
    have c := hs G1 t (by omega) hI
    have i1 := fun G2 h => ih (t + 1) G2 (by omega) h
    clear ih hs
    refine ar_iload_n (pc := 26) d_K_days_26 rfl ?_
    refine ar_iload_n (pc := 27) d_K_days_27 rfl ?_
    refine ar_icmp_ge (pc := 28) 41 d_K_days_28 (by decide) ⟨by omega, by omega⟩ ⟨by omega, by omega⟩ (fun h_28 => by exfalso; omega) (fun h_28 => ?_)
    refine ar_aload_n (pc := 31) d_K_days_31 rfl ?_
    refine ac_virt (pc := 32) (N := mt_K_passDay) _ _ mv_K_passDay ml_K_170 ck_11 d_K_days_32 c (by first | rfl | exact sh_wheel (by omega) | exact sh_milk (by omega)) rfl rfl (Nat.le_of_ble_eq_true rfl) (Nat.le_of_eq (Nat.zero_add _)) (Nat.le_of_eq (Nat.zero_add _)) (fun r_32 G_32 h_32 => ?_)
    obtain ⟨rfl, q32⟩ := h_32
    refine ar_iinc (pc := 35) d_K_days_35 rfl rfl (by decide) ?_
    refine ar_goto (pc := 38) 26 d_K_days_38 (by decide) ?_
    rotate_left
    -- leaves: stop 26
    · exact ar_loc (i1 _ q32) ⟨rfl, rfl, li_i rfl (by omega), trivial⟩
theorem cm_K_days (X : gx_T) (d : Nat) (G : mm_T) {n : Int} {N : Nat} {Inv : mm_T → Nat → Prop} (hn : i3_in n) (ht : 0 ≤ mm_I G 0 15 ∧ mm_I G 0 15 ≤ 100000) (hN : (N : Int) = max 0 (min n (100000 - mm_I G 0 15))) (h0 : Inv G 0) (hs : 0 ≤ n → n ≤ 400 → ∀ G1 t, t < N → Inv G1 t → aw_M X (d + 5) mt_K_passDay [av_r (some 0)] G1 0 0 (fun r G' => r = none ∧ Inv G' (t + 1))) : aw_M X (d + 6) mt_K_days [av_r (some 0), av_i n] G 0 0 (fun r G' => (0 ≤ n ∧ n ≤ 400) ∧ r = some (av_i (N : Int)) ∧ Inv G' N ∨ ¬ (0 ≤ n ∧ n ≤ 400) ∧ r = some (av_i (-1)) ∧ G' = G) := by
  by_cases hin : 0 ≤ n ∧ n ≤ 400
  · have h := lp_K_days X d (N := N) (Inv := Inv) (by omega) (hs hin.1 hin.2) N 0 G (by omega) h0
    have hmn : min n (100000 - mm_I G 0 15) = (N : Int) := by omega
    have c20 := cm_JM_min X (d + 4) G (v := n) (w := 100000 - mm_I G 0 15) hn ⟨by omega, by omega⟩
    rw [hmn] at c20
    have c4 := cm_K_isUpTo X (d + 4) G (v := n) (m := 400) hn ⟨by omega, by omega⟩
    rw [if_pos hin] at c4
    clear hs
    refine aw_enter pf_K_days (Nat.le_of_ble_eq_true rfl) ?_
    refine ar_iload_n (pc := 0) d_K_days_0 rfl ?_
    refine ar_sipush (pc := 1) d_K_days_1 (by decide) ?_
    refine ac_stat (pc := 4) (N := mt_K_isUpTo) _ _ sv_K_isUpTo ml_K_87 d_K_days_4 c4 rfl rfl (Nat.le_of_ble_eq_true rfl) (Nat.le_of_eq (Nat.zero_add _)) (Nat.le_of_eq (Nat.zero_add _)) (fun r_4 G_4 h_4 => ?_)
    obtain ⟨rfl, e_4⟩ := h_4
    subst G_4
    refine ar_if_ne (pc := 7) 12 d_K_days_7 (by decide) ⟨by omega, by omega⟩ (fun h_7 => ?_) (fun h_7 => by exfalso; omega)
    refine ar_iload_n (pc := 12) d_K_days_12 rfl ?_
    refine ar_ldc (pc := 13) 100000 ki_K_164 d_K_days_13 (by decide) ?_
    refine ar_aload_n (pc := 15) d_K_days_15 rfl ?_
    refine ar_getI (pc := 16) gf_K_132 d_K_days_16 (by first | rfl | exact sh_wheel (by omega) | exact sh_milk (by omega)) (fun r_16 => ?_)
    refine ar_isub (pc := 19) d_K_days_19 ?_
    refine ac_stat (pc := 20) (N := mt_JM_min) _ _ sv_JM_min ml_K_165 d_K_days_20 c20 rfl rfl (Nat.le_of_ble_eq_true rfl) (Nat.le_of_eq (Nat.zero_add _)) (Nat.le_of_eq (Nat.zero_add _)) (fun r_20 G_20 h_20 => ?_)
    obtain ⟨rfl, e_20⟩ := h_20
    subst G_20
    refine ar_istore_n (pc := 23) d_K_days_23 rfl (by decide) ?_
    refine ar_iconst (pc := 24) d_K_days_24 ?_
    refine ar_istore_n (pc := 25) d_K_days_25 rfl (by decide) ?_
    rotate_left
    -- leaves: stop 26
    · exact ar_mono (fun r G2 hr => Or.inl ⟨hin, hr⟩) (ar_loc h ⟨rfl, rfl, rfl, trivial⟩)
  · have c4 := cm_K_isUpTo X (d + 4) G (v := n) (m := 400) hn ⟨by omega, by omega⟩
    rw [if_neg hin] at c4
    clear hs
    refine aw_enter pf_K_days (Nat.le_of_ble_eq_true rfl) ?_
    refine ar_iload_n (pc := 0) d_K_days_0 rfl ?_
    refine ar_sipush (pc := 1) d_K_days_1 (by decide) ?_
    refine ac_stat (pc := 4) (N := mt_K_isUpTo) _ _ sv_K_isUpTo ml_K_87 d_K_days_4 c4 rfl rfl (Nat.le_of_ble_eq_true rfl) (Nat.le_of_eq (Nat.zero_add _)) (Nat.le_of_eq (Nat.zero_add _)) (fun r_4 G_4 h_4 => ?_)
    obtain ⟨rfl, e_4⟩ := h_4
    subst G_4
    refine ar_if_ne (pc := 7) 12 d_K_days_7 (by decide) ⟨by omega, by omega⟩ (fun h_7 => by exfalso; omega) (fun h_7 => ?_)
    refine ar_iconst (pc := 10) d_K_days_10 ?_
    refine ar_iret (pc := 11) d_K_days_11 rfl ?_
    rotate_left
    -- leaves: ret 11
    · exact Or.inr ⟨hin, rfl, rfl⟩
