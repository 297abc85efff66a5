/-! ===== days of the class ===== -/
theorem lp_K_days (X : gx_T) (d : Nat) {N : Nat} {Inv : mm_T → Nat → Prop} (hN : N ≤ 400) (hs : ∀ G1 t, t < N → Inv G1 t → aw_M X (d + 5) mt_K_passDay [av_r (some 0)] G1 0 0 (fun r G' => r = none ∧ Inv G' (t + 1))) : ∀ n t G1, t + n = N → Inv G1 t → aw_W X mt_K_days (d + 6) 26 [(0, some (av_r (some 0))), (2, some (av_i (N : Int))), (3, some (av_i (t : Int)))] [] G1 0 0 (fun r G' => r = some (av_i (N : Int)) ∧ Inv G' N) := by
  intro n
  induction n with
  | zero =>
    intro t G1 ht hI
    have ht : t = N := by omega
    subst ht
    refine ar_iload_n (pc := 26) d_K_days_26 rfl ?_
    refine ar_iload_n (pc := 27) d_K_days_27 rfl ?_
    refine ar_icmp_ge (pc := 28) 41 d_K_days_28 (by decide) ⟨by omega, by omega⟩ ⟨by omega, by omega⟩ (fun h_28 => ?_) (fun h_28 => by exfalso; omega)
    refine ar_iload_n (pc := 41) d_K_days_41 rfl ?_
    refine ar_iret (pc := 42) d_K_days_42 rfl ?_
    rotate_left
    -- leaves: ret 42
    · exact ⟨rfl, hI⟩
  | succ n ih =>
    intro t G1 ht hI
    have c := hs G1 t (by omega) hI
    have i1 := fun G2 h => ih (t + 1) G2 (by omega) h
    clear ih hs
    refine ar_iload_n (pc := 26) d_K_days_26 rfl ?_
    refine ar_iload_n (pc := 27) d_K_days_27 rfl ?_
    refine ar_icmp_ge (pc := 28) 41 d_K_days_28 (by decide) ⟨by omega, by omega⟩ ⟨by omega, by omega⟩ (fun h_28 => by exfalso; omega) (fun h_28 => ?_)
    refine ar_aload_n (pc := 31) d_K_days_31 rfl ?_
    refine ac_virt (pc := 32) (N := mt_K_passDay) _ _ mv_K_passDay ml_K_170 ck_11 d_K_days_32 c (by first | rfl | exact sh_wheel (by omega) | exact sh_milk (by omega)) rfl rfl (Nat.le_of_ble_eq_true rfl) (Nat.le_of_eq (Nat.zero_add _)) (Nat.le_of_eq (Nat.zero_add _)) (fun r_32 G_32 h_32 => ?_)
    obtain ⟨rfl, q32⟩ := h_32
    refine ar_iinc (pc := 35) d_K_days_35 rfl rfl (by decide) ?_
    refine ar_goto (pc := 38) 26 d_K_days_38 (by decide) ?_
    rotate_left
    -- leaves: stop 26
    · exact ar_loc (i1 _ q32) ⟨rfl, rfl, li_i rfl (by omega), trivial⟩
