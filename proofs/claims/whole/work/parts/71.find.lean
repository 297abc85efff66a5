/-! ===== the planner finds the best, and keeps it ===== -/
def kp_v (wl : Nat → Nat) (a : Nat → Nat) : Nat → (Nat → Int)
  | 0 => fun _ => -1
  | k + 1 => upp (kp_v wl a k) (wl k) (a k : Nat)
theorem lp_keep (X : gx_T) (d : Nat) {G : mm_T} {wl a : Nat → Nat} {c : Nat} (hF : fx_R G) (hc : mm_I G 24 8 = c) (hc10 : c ≤ 10) (hwl : ∀ k, k < c → mm_I G 25 k = (wl k : Nat) ∧ wl k < 40) (ha : ∀ k, k < c → mm_I G 27 k = (a k : Nat)) : ∀ m k, k + m = c → aw_W X mt_Pl_keepPlan (d + 2) 10 [(0, some (av_r (some 24))), (1, some (av_i (k : Int)))] [] (ms_row G 32 40 (kp_v wl a k)) 0 0 (fun r G' => r = none ∧ G' = ms_I (ms_I (ms_I (ms_row G 32 40 (kp_v wl a c)) 24 9 c) 24 10 1) 24 11 0) := by
  intro m
  induction m with
  | zero =>
    intro k hk
    have hk : k = c := by omega
    subst hk
    refine ar_iload_n (pc := 10) d_Pl_keepPlan_10 rfl ?_
    refine ar_aload_n (pc := 11) d_Pl_keepPlan_11 rfl ?_
    refine ar_getIv (pc := 12) gf_Pl_37 d_Pl_keepPlan_12 (by first | rfl | exact sh_wheel (by omega) | exact sh_milk (by omega)) (show _ = (k : Int) from hc) (fun r_12 => ?_)
    refine ar_icmp_ge (pc := 15) 55 d_Pl_keepPlan_15 (by decide) ⟨by omega, by omega⟩ ⟨by omega, by omega⟩ (fun h_15 => ?_) (fun h_15 => by exfalso; omega)
    refine ar_aload_n (pc := 55) d_Pl_keepPlan_55 rfl ?_
    refine ar_aload_n (pc := 56) d_Pl_keepPlan_56 rfl ?_
    refine ar_getIv (pc := 57) gf_Pl_37 d_Pl_keepPlan_57 (by first | rfl | exact sh_wheel (by omega) | exact sh_milk (by omega)) (show _ = (k : Int) from hc) (fun r_57 => ?_)
    refine ar_putI (pc := 60) gf_Pl_85 d_Pl_keepPlan_60 rfl (by first | rfl | exact sh_wheel (by omega) | exact sh_milk (by omega)) ⟨by omega, by omega⟩ ?_
    refine ar_aload_n (pc := 63) d_Pl_keepPlan_63 rfl ?_
    refine ar_iconst (pc := 64) d_Pl_keepPlan_64 ?_
    refine ar_putZ (pc := 65) gf_Pl_78 d_Pl_keepPlan_65 rfl (by first | rfl | exact sh_wheel (by omega) | exact sh_milk (by omega)) (by omega) ?_
    refine ar_aload_n (pc := 68) d_Pl_keepPlan_68 rfl ?_
    refine ar_iconst (pc := 69) d_Pl_keepPlan_69 ?_
    refine ar_putZ (pc := 70) gf_Pl_82 d_Pl_keepPlan_70 rfl (by first | rfl | exact sh_wheel (by omega) | exact sh_milk (by omega)) (by omega) ?_
    refine ar_ret (pc := 73) d_Pl_keepPlan_73 rfl ?_
    rotate_left
    -- leaves: ret 73
    · exact ⟨rfl, rfl⟩
  | succ m ih =>
    intro k hk
    have i1 := ih (k + 1) (by omega)
    obtain ⟨w1, w2⟩ := hwl k (by omega)
    have a1 := ha k (by omega)
    have es : ms_I (ms_row G 32 40 (kp_v wl a k)) 32 (wl k) (a k : Nat) = ms_row G 32 40 (kp_v wl a (k + 1)) := row_set _ _ _ _ _ w2
    have cu := cm_K_isUpTo X d (ms_row G 32 40 (kp_v wl a k)) (v := (wl k : Nat)) (m := 39) ⟨by omega, by omega⟩ ⟨by omega, by omega⟩
    rw [if_pos (by omega)] at cu
    clear ih hwl ha
    refine ar_rngI (fun hrg => ?_)
    have r27 : i3_in (a k : Nat) := by have := hrg 27 k; rw [show mm_I (ms_row G 32 40 (kp_v wl a k)) 27 k = mm_I G 27 k from rfl, a1] at this; exact this
    clear hrg
    refine ar_iload_n (pc := 10) d_Pl_keepPlan_10 rfl ?_
    refine ar_aload_n (pc := 11) d_Pl_keepPlan_11 rfl ?_
    refine ar_getIv (pc := 12) gf_Pl_37 d_Pl_keepPlan_12 (by first | rfl | exact sh_wheel (by omega) | exact sh_milk (by omega)) (show _ = (c : Int) from hc) (fun r_12 => ?_)
    refine ar_icmp_ge (pc := 15) 55 d_Pl_keepPlan_15 (by decide) ⟨by omega, by omega⟩ ⟨by omega, by omega⟩ (fun h_15 => by exfalso; omega) (fun h_15 => ?_)
    refine ar_aload_n (pc := 18) d_Pl_keepPlan_18 rfl ?_
    refine ar_getR (pc := 19) gf_Pl_9 d_Pl_keepPlan_19 (by first | rfl | exact sh_wheel (by omega) | exact sh_milk (by omega)) (hF _ _ _ rfl) ?_
    refine ar_iload_n (pc := 22) d_Pl_keepPlan_22 rfl ?_
    refine ar_ialdv (pc := 23) d_Pl_keepPlan_23 rfl (k) (by omega) (by omega) (show _ = ((wl k : Nat) : Int) from w1) (fun r_23 => ?_)
    refine ar_bipush (pc := 24) d_Pl_keepPlan_24 (by decide) ?_
    refine ac_statN (pc := 26) (N := mt_K_isUpTo) _ _ sv_K_isUpTo (List.mem_of_getElem? (i := 11) rfl) d_Pl_keepPlan_26 cu rfl rfl (Nat.le_of_ble_eq_true rfl) (Nat.le_of_eq (Nat.zero_add _)) (Nat.le_of_eq (Nat.zero_add _)) (fun r_26 G_26 h_26 => ?_)
    obtain ⟨rfl, e_26⟩ := h_26
    subst G_26
    refine ar_if_eq (pc := 29) 49 d_Pl_keepPlan_29 (by decide) ⟨by omega, by omega⟩ (fun h_29 => by exfalso; omega) (fun h_29 => ?_)
    refine ar_aload_n (pc := 32) d_Pl_keepPlan_32 rfl ?_
    refine ar_getR (pc := 33) gf_Pl_34 d_Pl_keepPlan_33 (by first | rfl | exact sh_wheel (by omega) | exact sh_milk (by omega)) (hF _ _ _ rfl) ?_
    refine ar_aload_n (pc := 36) d_Pl_keepPlan_36 rfl ?_
    refine ar_getR (pc := 37) gf_Pl_9 d_Pl_keepPlan_37 (by first | rfl | exact sh_wheel (by omega) | exact sh_milk (by omega)) (hF _ _ _ rfl) ?_
    refine ar_iload_n (pc := 40) d_Pl_keepPlan_40 rfl ?_
    refine ar_ialdv (pc := 41) d_Pl_keepPlan_41 rfl (k) (by omega) (by omega) (show _ = ((wl k : Nat) : Int) from w1) (fun r_41 => ?_)
    refine ar_aload_n (pc := 42) d_Pl_keepPlan_42 rfl ?_
    refine ar_getR (pc := 43) gf_Pl_18 d_Pl_keepPlan_43 (by first | rfl | exact sh_wheel (by omega) | exact sh_milk (by omega)) (hF _ _ _ rfl) ?_
    refine ar_iload_n (pc := 46) d_Pl_keepPlan_46 rfl ?_
    refine ar_ialdv (pc := 47) d_Pl_keepPlan_47 rfl (k) (by omega) (by omega) (show _ = ((a k : Nat) : Int) from a1) (fun r_47 => ?_)
    refine ar_iast (pc := 48) d_Pl_keepPlan_48 rfl ((wl k)) (by omega) (by omega) r27 ?_
    rw [es]
    refine ar_iinc (pc := 49) d_Pl_keepPlan_49 rfl rfl (by decide) ?_
    refine ar_goto (pc := 52) 10 d_Pl_keepPlan_52 (by decide) ?_
    rotate_left
    -- leaves: stop 10
    · exact ar_loc i1 ⟨rfl, li_i rfl (by omega), trivial⟩
theorem cm_Pl_keepPlan (X : gx_T) (d : Nat) {G : mm_T} {wl a : Nat → Nat} {c : Nat} (hF : fx_R G) (hc : mm_I G 24 8 = c) (hc10 : c ≤ 10) (hwl : ∀ k, k < c → mm_I G 25 k = (wl k : Nat) ∧ wl k < 40) (ha : ∀ k, k < c → mm_I G 27 k = (a k : Nat)) : aw_M X (d + 2) mt_Pl_keepPlan [av_r (some 24)] G 0 0 (fun r G' => r = none ∧ G' = ms_I (ms_I (ms_I (ms_row G 32 40 (kp_v wl a c)) 24 9 c) 24 10 1) 24 11 0) := by
  have lp := lp_keep X d hF hc hc10 hwl ha c 0 (by omega)
  have c5 := cm_JA_fill_I X d G (a := 32) (N := 40) (v := -1) rfl ⟨by omega, by omega⟩
  change aw_M X (d + 1) mt_JA_fill_I [av_r (some 32), av_i (-1)] G 0 0 (fun r G' => r = none ∧ G' = ms_row G 32 40 (kp_v wl a 0)) at c5
  refine aw_enter pf_Pl_keepPlan (Nat.le_of_ble_eq_true rfl) ?_
  refine ar_aload_n (pc := 0) d_Pl_keepPlan_0 rfl ?_
  refine ar_getR (pc := 1) gf_Pl_34 d_Pl_keepPlan_1 (by first | rfl | exact sh_wheel (by omega) | exact sh_milk (by omega)) (hF _ _ _ rfl) ?_
  refine ar_iconst (pc := 4) d_Pl_keepPlan_4 ?_
  refine ac_stat (pc := 5) (N := mt_JA_fill_I) _ _ sv_JA_fill_I ml_Pl_93 d_Pl_keepPlan_5 c5 rfl rfl (Nat.le_of_ble_eq_true rfl) (Nat.le_of_eq (Nat.zero_add _)) (Nat.le_of_eq (Nat.zero_add _)) (fun r_5 G_5 h_5 => ?_)
  obtain ⟨rfl, e_5⟩ := h_5
  subst G_5
  refine ar_iconst (pc := 8) d_Pl_keepPlan_8 ?_
  refine ar_istore_n (pc := 9) d_Pl_keepPlan_9 rfl (by decide) ?_
  rotate_left
  -- leaves: stop 10
  · exact ar_loc lp ⟨rfl, rfl, trivial⟩
theorem pq_tr {G G1 G2 : mm_T} (h1 : pq_F G G1) (h2 : pq_F G1 G2) : pq_F G G2 := ⟨⟨h2.1.1.trans h1.1.1, h2.1.2.trans h1.1.2⟩, fun b j b1 b2 b3 => by rw [h2.2.1 b j b1 b2 b3]; exact h1.2.1 b j b1 b2 b3, fun b j hb => by rw [h2.2.2 b j hb]; exact h1.2.2 b j hb⟩
/-- what findBest comes to -/
def fb_P (G : mm_T) (p : Nat → Nat → Int) (r : Nat → Int) (wl hm : Nat → Nat) (c : Nat) (rr : Option av_T) (G' : mm_T) : Prop := (∃ a y G1, as_F p r a c ∧ as_Y p r a c y ∧ rr = some (av_i (sm_f (fun k => wy_v (hm k) (a k)) c)) ∧ pq_F G G1 ∧ G' = ms_I (ms_I (ms_I (ms_row G1 32 40 (kp_v wl a c)) 24 9 c) 24 10 1) 24 11 0) ∨ (rr = some (av_i (-2)) ∧ (∀ b, ¬ as_F p r b c) ∧ pq_F G G')
theorem lp_fsum (X : gx_T) (d : Nat) {G : mm_T} {wl a hm : Nat → Nat} {c : Nat} (hF : fx_R G) (hc : mm_I G 24 8 = c) (hc10 : c ≤ 10) (hwl : ∀ k, k < c → mm_I G 25 k = (wl k : Nat) ∧ wl k < 40) (ha : ∀ k, k < c → mm_I G 27 k = (a k : Nat) ∧ a k < 24) (hh : ∀ k, k < c → mm_I G 26 k = (hm k : Nat) ∧ hm k < 24) : ∀ m k, k + m = c → (0 ≤ sm_f (fun k => wy_v (hm k) (a k)) k ∧ sm_f (fun k => wy_v (hm k) (a k)) k ≤ 65 * k) → aw_W X mt_Pl_findBest (d + 3) 31 [(0, some (av_r (some 24))), (1, some (av_i (sm_f (fun k => wy_v (hm k) (a k)) k))), (2, some (av_i (k : Int)))] [] G 0 0 (fun r G' => r = some (av_i (sm_f (fun k => wy_v (hm k) (a k)) c)) ∧ G' = ms_I (ms_I (ms_I (ms_row G 32 40 (kp_v wl a c)) 24 9 c) 24 10 1) 24 11 0) := by
  intro m
  induction m with
  | zero =>
    intro k hk hs
    have hk : k = c := by omega
    subst hk
    have c64 := cm_Pl_keepPlan X d (wl := wl) (a := a) hF hc hc10 hwl (fun k hk => (ha k hk).1)
    generalize sm_f (fun k => wy_v (hm k) (a k)) k = S at *
    refine ar_iload_n (pc := 31) d_Pl_findBest_31 rfl ?_
    refine ar_aload_n (pc := 32) d_Pl_findBest_32 rfl ?_
    refine ar_getIv (pc := 33) gf_Pl_37 d_Pl_findBest_33 (by first | rfl | exact sh_wheel (by omega) | exact sh_milk (by omega)) hc (fun r_33 => ?_)
    refine ar_icmp_ge (pc := 36) 63 d_Pl_findBest_36 (by decide) ⟨by omega, by omega⟩ ⟨by omega, by omega⟩ (fun h_36 => ?_) (fun h_36 => by exfalso; omega)
    refine ar_aload_n (pc := 63) d_Pl_findBest_63 rfl ?_
    refine ac_virt (pc := 64) (N := mt_Pl_keepPlan) _ _ mv_Pl_keepPlan ml_Pl_75 ck_4 d_Pl_findBest_64 c64 (by first | rfl | exact sh_wheel (by omega) | exact sh_milk (by omega)) rfl rfl (Nat.le_of_ble_eq_true rfl) (Nat.le_of_eq (Nat.zero_add _)) (Nat.le_of_eq (Nat.zero_add _)) (fun r_64 G_64 h_64 => ?_)
    obtain ⟨rfl, e_64⟩ := h_64
    subst G_64
    refine ar_iload_n (pc := 67) d_Pl_findBest_67 rfl ?_
    refine ar_iret (pc := 68) d_Pl_findBest_68 rfl ?_
    rotate_left
    -- leaves: ret 68
    · exact ⟨rfl, rfl⟩
  | succ m ih =>
    intro k hk hs
    obtain ⟨a1, a2⟩ := ha k (by omega)
    obtain ⟨h1, h2⟩ := hh k (by omega)
    have wr := wy_r h2 a2
    have i1 := ih (k + 1) (by omega) (by rw [sm_f]; omega)
    rw [sm_f] at i1
    have c52 := cm_Pl_way X d G (h := hm k) (s := a k) h2 a2
    clear ih ha hh hwl
    refine ar_iload_n (pc := 31) d_Pl_findBest_31 rfl ?_
    refine ar_aload_n (pc := 32) d_Pl_findBest_32 rfl ?_
    refine ar_getIv (pc := 33) gf_Pl_37 d_Pl_findBest_33 (by first | rfl | exact sh_wheel (by omega) | exact sh_milk (by omega)) hc (fun r_33 => ?_)
    refine ar_icmp_ge (pc := 36) 63 d_Pl_findBest_36 (by decide) ⟨by omega, by omega⟩ ⟨by omega, by omega⟩ (fun h_36 => by exfalso; omega) (fun h_36 => ?_)
    refine ar_iload_n (pc := 39) d_Pl_findBest_39 rfl ?_
    refine ar_aload_n (pc := 40) d_Pl_findBest_40 rfl ?_
    refine ar_getR (pc := 41) gf_Pl_15 d_Pl_findBest_41 (by first | rfl | exact sh_wheel (by omega) | exact sh_milk (by omega)) (hF _ _ _ rfl) ?_
    refine ar_iload_n (pc := 44) d_Pl_findBest_44 rfl ?_
    refine ar_ialdv (pc := 45) d_Pl_findBest_45 rfl (k) (by omega) (by omega) h1 (fun r_45 => ?_)
    refine ar_aload_n (pc := 46) d_Pl_findBest_46 rfl ?_
    refine ar_getR (pc := 47) gf_Pl_18 d_Pl_findBest_47 (by first | rfl | exact sh_wheel (by omega) | exact sh_milk (by omega)) (hF _ _ _ rfl) ?_
    refine ar_iload_n (pc := 50) d_Pl_findBest_50 rfl ?_
    refine ar_ialdv (pc := 51) d_Pl_findBest_51 rfl (k) (by omega) (by omega) a1 (fun r_51 => ?_)
    refine ac_stat (pc := 52) (N := mt_Pl_wayBetween) _ _ sv_Pl_wayBetween ml_Pl_67 d_Pl_findBest_52 c52 rfl rfl (Nat.le_of_ble_eq_true rfl) (Nat.le_of_eq (Nat.zero_add _)) (Nat.le_of_eq (Nat.zero_add _)) (fun r_52 G_52 h_52 => ?_)
    obtain ⟨rfl, e_52⟩ := h_52
    subst G_52
    refine ar_iadd (pc := 55) d_Pl_findBest_55 ?_
    refine ar_istore_n (pc := 56) d_Pl_findBest_56 rfl (by decide) ?_
    refine ar_iinc (pc := 57) d_Pl_findBest_57 rfl rfl (by decide) ?_
    refine ar_goto (pc := 60) 31 d_Pl_findBest_60 (by decide) ?_
    rotate_left
    -- leaves: stop 31
    · exact ar_loc i1 ⟨rfl, rfl, li_i rfl (by omega), trivial⟩
theorem lp_find (X : gx_T) (d : Nat) {G : mm_T} {p : Nat → Nat → Int} {r : Nat → Int} {wl hm : Nat → Nat} {c : Nat} (hF : fx_R G) (hc : mm_I G 24 8 = c) (hc10 : c ≤ 10) (hp : pc_P p c) (hr : ∀ s, s < 24 → r s ≤ 100) (hwl : ∀ k, k < c → mm_I G 25 k = (wl k : Nat) ∧ wl k < 40) (hh : ∀ k, k < c → mm_I G 26 k = (hm k : Nat) ∧ hm k < 24) : ∀ m k a y G1, k + m = c → as_F p r a k → as_Y p r a k y → pn_F G1 p r a c k → pq_F G G1 → aw_W X mt_Pl_findBest (d + 3) 4 [(0, some (av_r (some 24))), (1, some (av_i 0)), (2, some (av_i (k : Int)))] [] G1 0 0 (fb_P G p r wl hm c) := by
  intro m
  induction m with
  | zero =>
    intro k a y G1 hk ha hy hn hq
    have hk : k = c := by omega
    subst hk
    have hF1 : fx_R G1 := fun x k b q => by rw [hq.1.1]; exact hF x k b q
    have ec : mm_I G1 24 8 = (k : Int) := by rw [hq.2.1 _ _ (by omega) (by omega) (by omega)]; exact hc
    have lp := lp_fsum X d (wl := wl) (a := a) (hm := hm) hF1 ec hc10 (fun j hj => by rw [hq.2.1 _ _ (by omega) (by omega) (by omega)]; exact hwl j hj) (fun j hj => ⟨hn.2.1 j hj, (ha.1 j hj).1⟩) (fun j hj => by rw [hq.2.1 _ _ (by omega) (by omega) (by omega)]; exact hh j hj) k 0 (by omega) ⟨Int.le_refl _, by rw [sm_f]; omega⟩
    refine ar_iload_n (pc := 4) d_Pl_findBest_4 rfl ?_
    refine ar_aload_n (pc := 5) d_Pl_findBest_5 rfl ?_
    refine ar_getIv (pc := 6) gf_Pl_37 d_Pl_findBest_6 (by first | rfl | exact sh_wheel (by omega) | exact sh_milk (by omega)) ec (fun r_6 => ?_)
    refine ar_icmp_ge (pc := 9) 29 d_Pl_findBest_9 (by decide) ⟨by omega, by omega⟩ ⟨by omega, by omega⟩ (fun h_9 => ?_) (fun h_9 => by exfalso; omega)
    refine ar_iconst (pc := 29) d_Pl_findBest_29 ?_
    refine ar_istore_n (pc := 30) d_Pl_findBest_30 rfl (by decide) ?_
    rotate_left
    -- leaves: stop 31
    · exact ar_mono (fun rr G' hrr => Or.inl ⟨a, y, G1, ha, hy, hrr.1, hq, hrr.2⟩) (ar_loc lp ⟨rfl, rfl, rfl, trivial⟩)
  | succ m ih =>
    intro k a y G1 hk ha hy hn hq
    have hF1 : fx_R G1 := fun x k b q => by rw [hq.1.1]; exact hF x k b q
    have ec : mm_I G1 24 8 = (c : Int) := by rw [hq.2.1 _ _ (by omega) (by omega) (by omega)]; exact hc
    have c14 := cm_Pl_placeRow X d (n := k) (by omega) hc10 hF1 hp ha hy hr hn
    refine ar_iload_n (pc := 4) d_Pl_findBest_4 rfl ?_
    refine ar_aload_n (pc := 5) d_Pl_findBest_5 rfl ?_
    refine ar_getIv (pc := 6) gf_Pl_37 d_Pl_findBest_6 (by first | rfl | exact sh_wheel (by omega) | exact sh_milk (by omega)) ec (fun r_6 => ?_)
    refine ar_icmp_ge (pc := 9) 29 d_Pl_findBest_9 (by decide) ⟨by omega, by omega⟩ ⟨by omega, by omega⟩ (fun h_9 => by exfalso; omega) (fun h_9 => ?_)
    refine ar_aload_n (pc := 12) d_Pl_findBest_12 rfl ?_
    refine ar_iload_n (pc := 13) d_Pl_findBest_13 rfl ?_
    refine ac_virt (pc := 14) (N := mt_Pl_placeRow) _ _ mv_Pl_placeRow ml_Pl_71 ck_4 d_Pl_findBest_14 c14 (by first | rfl | exact sh_wheel (by omega) | exact sh_milk (by omega)) rfl rfl (Nat.le_of_ble_eq_true rfl) (Nat.le_of_eq (Nat.zero_add _)) (Nat.le_of_eq (Nat.zero_add _)) (fun r_14 G_14 h_14 => ?_)
    obtain ⟨rfl, a', y', q1, q2, q3, q4⟩ | ⟨rfl, q1, q2⟩ := h_14
    rotate_left
    rotate_left
    -- leaves: stop 17, stop 17
    · have i1 := ih (k + 1) a' y' G_14 (by omega) q1 q2 q3 (pq_tr hq q4)
      clear ih
      refine ar_if_ne (pc := 17) 23 d_Pl_findBest_17 (by decide) ⟨by omega, by omega⟩ (fun h_17 => ?_) (fun h_17 => by exfalso; omega)
      refine ar_iinc (pc := 23) d_Pl_findBest_23 rfl rfl (by decide) ?_
      refine ar_goto (pc := 26) 4 d_Pl_findBest_26 (by decide) ?_
      rotate_left
      -- leaves: stop 4
      · exact ar_loc i1 ⟨rfl, rfl, li_i rfl (by omega), trivial⟩
    · clear ih
      refine ar_if_ne (pc := 17) 23 d_Pl_findBest_17 (by decide) ⟨by omega, by omega⟩ (fun h_17 => by exfalso; omega) (fun h_17 => ?_)
      refine ar_bipush (pc := 20) d_Pl_findBest_20 (by decide) ?_
      refine ar_iret (pc := 22) d_Pl_findBest_22 rfl ?_
      rotate_left
      -- leaves: ret 22
      · refine Or.inr ⟨rfl, fun b hb => q1 b (as_sub (m := m) ?_), pq_tr hq q2⟩
        rw [show k + 1 + m = c by omega]; exact hb
theorem cm_Pl_findBest (X : gx_T) (d : Nat) {G : mm_T} {p : Nat → Nat → Int} {r : Nat → Int} {wl hm : Nat → Nat} {c : Nat} (hF : fx_R G) (hc : mm_I G 24 8 = c) (hc10 : c ≤ 10) (hp : pc_P p c) (hr : ∀ s, s < 24 → 0 ≤ r s ∧ r s ≤ 100) (hwl : ∀ k, k < c → mm_I G 25 k = (wl k : Nat) ∧ wl k < 40) (hh : ∀ k, k < c → mm_I G 26 k = (hm k : Nat) ∧ hm k < 24) (hpm : ∀ k s, k < c → s < 24 → mm_J G 28 (24 * k + s) = p k s) (hrm : ∀ s, s < 24 → mm_I G 29 s = r s) : aw_M X (d + 3) mt_Pl_findBest [av_r (some 24)] G 0 0 (fb_P G p r wl hm c) := by
  have lp := lp_find X d (wl := wl) (hm := hm) hF hc hc10 hp (fun s hs => (hr s hs).2) hwl hh c 0 (fun _ => 0) (fun _ => 0) G (by omega) ⟨fun k hk => by omega, fun s hs => (hr s hs).1⟩ ⟨fun s hs => ⟨Int.le_refl _, by show (0 : Int) ≤ _; omega⟩, fun s hs _ => rfl, fun k s hk => by omega⟩ ⟨hpm, fun o ho => by omega, fun s hs => by rw [hrm s hs]; show r s = r s - ((0 : Nat) : Int); omega⟩ ⟨⟨rfl, rfl⟩, fun _ _ _ _ _ => rfl, fun _ _ _ => rfl⟩
  refine aw_enter pf_Pl_findBest (Nat.le_of_ble_eq_true rfl) ?_
  refine ar_iconst (pc := 0) d_Pl_findBest_0 ?_
  refine ar_istore_n (pc := 1) d_Pl_findBest_1 rfl (by decide) ?_
  refine ar_iconst (pc := 2) d_Pl_findBest_2 ?_
  refine ar_istore_n (pc := 3) d_Pl_findBest_3 rfl (by decide) ?_
  rotate_left
  -- leaves: stop 4
  · exact ar_loc lp ⟨rfl, rfl, rfl, trivial⟩
