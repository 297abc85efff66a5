/-! ===== days of the reference ===== -/
def mD_P (G : mm_T) (wc L : Nat) (f : Nat → Int) (le : Nat → Nat) (dd : Nat → Int) : Prop := fx_R G ∧ mm_I G 60 4 = wc ∧ (0 ≤ mm_I G 60 0 ∧ mm_I G 60 0 ≤ 100000) ∧ (∀ k, k < wc → 0 ≤ mm_I G 67 k → mw_G G k) ∧ mh_G G ∧ mp_R G f le dd L ∧ mm_I G 60 26 = L
theorem lp_Mo_days (X : gx_T) (d : Nat) {n T : Int} {N wc L : Nat} {f : Nat → Int} {le : Nat → Nat} {dd : Nat → Int} {Inv : mm_T → Nat → Prop} (hn : 0 ≤ n ∧ n ≤ 400) (hT : 0 ≤ T ∧ T ≤ 100000) (hN : (N : Int) = min n (100000 - T)) (hwc2 : wc ≤ 40) (hW : pg_W f le dd L) (hI : ∀ G1 t, Inv G1 t → mD_P G1 wc L f le dd ∧ mm_I G1 60 0 = T + t) (hs : ∀ G1 t G2, t < N → Inv G1 t → me_F G1 G2 f le dd L wc → Inv (ms_I (ms_I G2 60 0 (mm_I G1 60 0 + 1)) 60 53 0) (t + 1)) : ∀ m t G1, t + m = N → Inv G1 t → aw_W X mt_Mo_days (d + 3) 15 [(0, some (av_r (some 60))), (1, some (av_i n)), (2, some (av_i (t : Int)))] [] G1 0 0 (fun r G' => r = some (av_i (N : Int)) ∧ Inv G' N) := by
  intro m
  induction m with
  | zero =>
    intro t G1 ht hG
    have ht : t = N := by omega
    subst ht
    obtain ⟨⟨hF, -⟩, e0⟩ := hI G1 t hG
    clear hI hs
    refine ar_iload_n (pc := 15) d_Mo_days_15 rfl ?_
    refine ar_iload_n (pc := 16) d_Mo_days_16 rfl ?_
    refine ar_icmp_ge (pc := 17) 81 d_Mo_days_17 (by decide) ⟨by omega, by omega⟩ ⟨by omega, by omega⟩ (fun h_17 => ?_) (fun h_17 => ?_)
    refine ar_iload_n (pc := 81) d_Mo_days_81 rfl ?_
    refine ar_iret (pc := 82) d_Mo_days_82 rfl ?_
    rotate_left
    refine ar_aload_n (pc := 20) d_Mo_days_20 rfl ?_
    refine ar_getIv (pc := 21) gf_Mo_171 d_Mo_days_21 (by first | rfl | exact sh_wheel (by omega) | exact sh_milk (by omega)) e0 (fun r_21 => ?_)
    refine ar_ldcw (pc := 24) 100000 ki_Mo_347 d_Mo_days_24 (by decide) ?_
    refine ar_icmp_ge (pc := 27) 81 d_Mo_days_27 (by decide) ⟨by omega, by omega⟩ ⟨by omega, by omega⟩ (fun h_27 => ?_) (fun h_27 => ?_)
    refine ar_iload_n (pc := 81) d_Mo_days_81 rfl ?_
    refine ar_iret (pc := 82) d_Mo_days_82 rfl ?_
    rotate_left
    rotate_left
    -- leaves: ret 82, ret 82, stop 30
    all_goals first | exact ⟨rfl, hG⟩ | (exfalso; omega)
  | succ m ih =>
    intro t G1 ht hG
    obtain ⟨⟨hF, h4, h0, hg, hsh, hP, h26⟩, e0⟩ := hI G1 t hG
    have i1 := fun G2 h => ih (t + 1) _ (by omega) (hs G1 t G2 (by omega) hG h)
    have kk := lp_Mo_day X d (nn := n) (tt := (t : Int)) (Q := fun r G' => r = some (av_i (N : Int)) ∧ Inv G' N) hF h4 hwc2 h0 hg hsh hW hP h26 ?_ wc 0 G1 (by omega) ⟨⟨rfl, rfl, rfl⟩, fun _ _ _ _ _ => rfl, fun k hk => by omega⟩
    · clear ih hs hI hg
      refine ar_iload_n (pc := 15) d_Mo_days_15 rfl ?_
      refine ar_iload_n (pc := 16) d_Mo_days_16 rfl ?_
      refine ar_icmp_ge (pc := 17) 81 d_Mo_days_17 (by decide) ⟨by omega, by omega⟩ ⟨by omega, by omega⟩ (fun h_17 => by exfalso; omega) (fun h_17 => ?_)
      refine ar_aload_n (pc := 20) d_Mo_days_20 rfl ?_
      refine ar_getIv (pc := 21) gf_Mo_171 d_Mo_days_21 (by first | rfl | exact sh_wheel (by omega) | exact sh_milk (by omega)) e0 (fun r_21 => ?_)
      refine ar_ldcw (pc := 24) 100000 ki_Mo_347 d_Mo_days_24 (by decide) ?_
      refine ar_icmp_ge (pc := 27) 81 d_Mo_days_27 (by decide) ⟨by omega, by omega⟩ ⟨by omega, by omega⟩ (fun h_27 => by exfalso; omega) (fun h_27 => ?_)
      refine ar_iconst (pc := 30) d_Mo_days_30 ?_
      refine ar_istore_n (pc := 31) d_Mo_days_31 rfl (by decide) ?_
      rotate_left
      -- leaves: stop 32
      · exact ar_loc kk ⟨rfl, rfl, rfl, rfl, trivial⟩
    · intro G2 hM
      have k1 := i1 G2 hM
      have l0 := me_lo hM (b := 60) (by omega) (by omega) (by omega)
      have e1 : mm_I G2 60 0 = mm_I G1 60 0 := by rw [l0]
      clear ih hs hI hg
      refine ar_aload_n (pc := 60) d_Mo_days_60 rfl ?_
      refine ar_dup (pc := 61) d_Mo_days_61 rfl ?_
      refine ar_getIv (pc := 62) gf_Mo_171 d_Mo_days_62 (by first | rfl | exact sh_wheel (by omega) | exact sh_milk (by omega)) e1 (fun r_62 => ?_)
      refine ar_iconst (pc := 65) d_Mo_days_65 ?_
      refine ar_iadd (pc := 66) d_Mo_days_66 ?_
      refine ar_putI (pc := 67) gf_Mo_171 d_Mo_days_67 rfl (by first | rfl | exact sh_wheel (by omega) | exact sh_milk (by omega)) ⟨by omega, by omega⟩ ?_
      refine ar_iinc (pc := 70) d_Mo_days_70 rfl rfl (by decide) ?_
      refine ar_aload_n (pc := 73) d_Mo_days_73 rfl ?_
      refine ar_iconst (pc := 74) d_Mo_days_74 ?_
      refine ar_putZ (pc := 75) gf_Mo_158 d_Mo_days_75 rfl (by first | rfl | exact sh_wheel (by omega) | exact sh_milk (by omega)) (by omega) ?_
      refine ar_goto (pc := 78) 15 d_Mo_days_78 (by decide) ?_
      rotate_left
      -- leaves: stop 15
      · exact ar_loc k1 ⟨rfl, rfl, li_i rfl (by omega), trivial⟩
theorem cm_Mo_days (X : gx_T) (d : Nat) (G : mm_T) {n T : Int} {N wc L : Nat} {f : Nat → Int} {le : Nat → Nat} {dd : Nat → Int} {Inv : mm_T → Nat → Prop} (hn : i3_in n) (hT : 0 ≤ T ∧ T ≤ 100000) (hN : (N : Int) = max 0 (min n (100000 - T))) (hwc2 : wc ≤ 40) (hW : pg_W f le dd L) (h0 : Inv G 0) (hI : ∀ G1 t, Inv G1 t → mD_P G1 wc L f le dd ∧ mm_I G1 60 0 = T + t) (hs : ∀ G1 t G2, t < N → Inv G1 t → me_F G1 G2 f le dd L wc → Inv (ms_I (ms_I G2 60 0 (mm_I G1 60 0 + 1)) 60 53 0) (t + 1)) : aw_M X (d + 3) mt_Mo_days [av_r (some 60), av_i n] G 0 0 (fun r G' => (0 ≤ n ∧ n ≤ 400) ∧ r = some (av_i (N : Int)) ∧ Inv G' N ∨ ¬ (0 ≤ n ∧ n ≤ 400) ∧ r = some (av_i (-1)) ∧ G' = G) := by
  by_cases hin : 0 ≤ n ∧ n ≤ 400
  · have h := lp_Mo_days X d (N := N) (Inv := Inv) hin hT (by omega) hwc2 hW hI hs N 0 G (by omega) h0
    clear hs hI
    refine aw_enter pf_Mo_days (Nat.le_of_ble_eq_true rfl) ?_
    refine ar_iload_n (pc := 0) d_Mo_days_0 rfl ?_
    refine ar_if_lt (pc := 1) 11 d_Mo_days_1 (by decide) ⟨by omega, by omega⟩ (fun h_1 => by exfalso; omega) (fun h_1 => ?_)
    refine ar_iload_n (pc := 4) d_Mo_days_4 rfl ?_
    refine ar_sipush (pc := 5) d_Mo_days_5 (by decide) ?_
    refine ar_icmp_le (pc := 8) 13 d_Mo_days_8 (by decide) ⟨by omega, by omega⟩ ⟨by omega, by omega⟩ (fun h_8 => ?_) (fun h_8 => by exfalso; omega)
    refine ar_iconst (pc := 13) d_Mo_days_13 ?_
    refine ar_istore_n (pc := 14) d_Mo_days_14 rfl (by decide) ?_
    rotate_left
    -- leaves: stop 15
    · exact ar_mono (fun r G2 hr => Or.inl ⟨hin, hr⟩) (ar_loc h ⟨rfl, rfl, rfl, trivial⟩)
  · clear hs hI
    refine aw_enter pf_Mo_days (Nat.le_of_ble_eq_true rfl) ?_
    refine ar_iload_n (pc := 0) d_Mo_days_0 rfl ?_
    refine ar_if_lt (pc := 1) 11 d_Mo_days_1 (by decide) ⟨by omega, by omega⟩ (fun h_1 => ?_) (fun h_1 => ?_)
    refine ar_iconst (pc := 11) d_Mo_days_11 ?_
    refine ar_iret (pc := 12) d_Mo_days_12 rfl ?_
    rotate_left
    refine ar_iload_n (pc := 4) d_Mo_days_4 rfl ?_
    refine ar_sipush (pc := 5) d_Mo_days_5 (by decide) ?_
    refine ar_icmp_le (pc := 8) 13 d_Mo_days_8 (by decide) ⟨by omega, by omega⟩ ⟨by omega, by omega⟩ (fun h_8 => ?_) (fun h_8 => ?_)
    rotate_left
    refine ar_iconst (pc := 11) d_Mo_days_11 ?_
    refine ar_iret (pc := 12) d_Mo_days_12 rfl ?_
    rotate_left
    -- leaves: ret 12, stop 13, ret 12
    all_goals first | exact Or.inr ⟨hin, rfl, rfl⟩ | (exfalso; omega)
