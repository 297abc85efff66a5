/-! ===== the reference seeks, whole ===== -/
noncomputable def su_m (G : mm_T) (w s : Nat) : Int := bv_p (bd_suit (mm_I G 91) (mm_I G 92) (mm_I G 93) (mm_I G 94) (mm_I G 66 w) (mm_I G 60 0 - mm_I G 71 w) (mm_I G 61 s))
theorem su_m01 (G : mm_T) (w s : Nat) : su_m G w s = 0 ∨ su_m G w s = 1 := by unfold su_m; rcases bv_c (bd_suit (mm_I G 91) (mm_I G 92) (mm_I G 93) (mm_I G 94) (mm_I G 66 w) (mm_I G 60 0 - mm_I G 71 w) (mm_I G 61 s)) with h | h <;> omega
def mww_I (G : mm_T) (wc : Nat) : Prop := (∀ w, w < wc → (0 ≤ mm_I G 66 w ∧ mm_I G 66 w ≤ 2) ∧ i3_in (mm_I G 60 0 - mm_I G 71 w) ∧ (-1 ≤ mm_I G 67 w ∧ mm_I G 67 w ≤ 23)) ∧ ∀ k, k < 3 → 0 ≤ mm_I G 91 k ∧ mm_I G 91 k ≤ 4
def qm_v (su : Nat → Nat → Int) (sh : Nat → Int) (gw : Nat → Nat) (n s k : Nat) : Int := if (s < 24 ∧ k < n) ∧ su (gw k) s = 1 then co_v n (sh (gw k)).toNat k s else -1
theorem co_r {n h k s : Nat} (hn : n ≤ 10) (hk : k < n) (hh : h < 24) (hs : s < 24) : 0 ≤ co_v n h k s ∧ co_v n h k s ≤ 4184623143714816 := by
  have t1 := tw_r n hn
  have t2 : 1 ≤ tw_v (n - 1 - k) ∧ tw_v (n - 1 - k) ≤ 2641807540224 := by
    have hj : n - 1 - k = 0 ∨ n - 1 - k = 1 ∨ n - 1 - k = 2 ∨ n - 1 - k = 3 ∨ n - 1 - k = 4 ∨ n - 1 - k = 5 ∨ n - 1 - k = 6 ∨ n - 1 - k = 7 ∨ n - 1 - k = 8 ∨ n - 1 - k = 9 := by omega
    rcases hj with e | e | e | e | e | e | e | e | e | e <;> (rw [e]; exact ⟨by decide, by decide⟩)
  have w := wy_r hh hs
  have p1 : 0 ≤ tw_v n * wy_v h s := Int.mul_nonneg (by omega) w.1
  have p2 : tw_v n * wy_v h s ≤ 63403380965376 * 65 := Int.mul_le_mul t1.2 w.2 w.1 (by omega)
  have p3 : 0 ≤ tw_v (n - 1 - k) * (s : Int) := Int.mul_nonneg (by omega) (by omega)
  have p4 : tw_v (n - 1 - k) * (s : Int) ≤ 2641807540224 * 23 := Int.mul_le_mul t2.2 (by omega) (by omega) (by omega)
  unfold co_v
  omega
def pa_F (G G1 : mm_T) (q : Nat → Nat → Int) (n s k : Nat) : Prop := (mm_R G1 = mm_R G ∧ mm_A G1 = mm_A G) ∧ mm_I G1 = mm_I G ∧ (∀ b i, b ≠ 100 → mm_J G1 b i = mm_J G b i) ∧ ∀ s' k', (s' < s ∨ (s' = s ∧ k' < k)) → k' < n → mm_J G1 100 (10 * s' + k') = q s' k'
theorem lp_seek_a (X : gx_T) (d : Nat) {G : mm_T} {wc n : Nat} {gw : Nat → Nat} {q : Nat → Nat → Int} {al : Int} {s : Nat} {Q : Option av_T → mm_T → Prop} (H : mgo_I G wc n gw) (HW : mww_I G wc) (hq : q = qm_v (su_m G) (mm_I G 67) gw n) (hs : s < 24)
    (kk : ∀ G2, pa_F G G2 q n (s + 1) 0 → aw_W X mt_Mo_seek (d + 3) 70 [(0, some (av_r (some 60))), (1, some (av_i al)), (2, some (av_i (s : Int)))] [] G2 0 0 Q) : ∀ m k G1, k + m = n → pa_F G G1 q n s k → aw_W X mt_Mo_seek (d + 3) 19 [(0, some (av_r (some 60))), (1, some (av_i al)), (2, some (av_i (s : Int))), (3, some (av_i (k : Int)))] [] G1 0 0 Q := by
  obtain ⟨hFG, ⟨hw1, hw2⟩, ⟨hg, hn⟩, hgo⟩ := H
  intro m
  induction m with
  | zero =>
    intro k G1 hk h
    have hk : k = n := by omega
    subst hk
    have hg1 : mm_I G1 60 54 = (k : Int) := by rw [h.2.1]; exact hg
    have k1 := kk G1 ⟨h.1, h.2.1, h.2.2.1, fun s' k' z zk => h.2.2.2 s' k' (by omega) zk⟩
    clear kk
    refine ar_iload_n (pc := 19) d_Mo_seek_19 rfl ?_
    refine ar_aload_n (pc := 20) d_Mo_seek_20 rfl ?_
    refine ar_getIv (pc := 21) gf_Mo_357 d_Mo_seek_21 (by first | rfl | exact sh_wheel (by omega) | exact sh_milk (by omega)) hg1 (fun r_21 => ?_)
    refine ar_icmp_ge (pc := 24) 70 d_Mo_seek_24 (by decide) ⟨by omega, by omega⟩ ⟨by omega, by omega⟩ (fun h_24 => ?_) (fun h_24 => by exfalso; omega)
    rotate_left
    -- leaves: stop 70
    · exact ar_loc k1 ⟨rfl, rfl, rfl, trivial⟩
  | succ m ih =>
    intro k G1 hk h
    obtain ⟨h1, h2, h3, h4⟩ := h
    have hF : fx_R G1 := fun a k b z => by rw [h1.1]; exact hFG a k b z
    have hg1 : mm_I G1 60 54 = (n : Int) := by rw [h2]; exact hg
    obtain ⟨g1, g2, g3, g4⟩ := hgo k (by omega)
    have e95 : mm_I G1 95 k = (gw k : Nat) := by rw [h2]; exact g1
    obtain ⟨hh, ehh⟩ : ∃ hh : Nat, mm_I G 67 (gw k) = hh := ⟨(mm_I G 67 (gw k)).toNat, by omega⟩
    have hw := HW.1 (gw k) g2
    have c45 := cm_Mo_doesSuit X (d + 1) G1 (w := (gw k : Nat)) (s := (s : Int)) hF ⟨by omega, by omega⟩ ⟨by omega, by omega⟩ (by rw [Int.toNat_natCast, h2]; exact hw.1) (by rw [Int.toNat_natCast, h2]; exact hw.2.1) (by rw [h2]; exact HW.2)
    rw [Int.toNat_natCast, Int.toNat_natCast, h2] at c45
    change aw_M X (d + 2) mt_Mo_doesSuit [av_r (some 60), av_i ((gw k : Nat) : Int), av_i (s : Int)] G1 0 0 (fun r G' => r = some (av_i (su_m G (gw k) s)) ∧ G' = G1) at c45
    have c54 := cm_Mo_costOf X d (G := G1) (n := n) (k := k) (s := s) (h := hh) (w := gw k) hF hg1 hn (by omega) hs e95 (by omega) (by rw [h2]; exact ehh) (by omega)
    have cr := co_r (n := n) (h := hh) (k := k) (s := s) hn (by omega) (by omega) hs
    have nxt : ∀ v, v = q s k → pa_F G (ms_J G1 100 (10 * s + k) v) q n s (k + 1) := by
      intro v hv
      refine ⟨h1, h2, fun b i hb => by rw [mj_sn _ _ (fun z => hb z.1)]; exact h3 b i hb, fun s' k' z zk => ?_⟩
      by_cases e : s' = s ∧ k' = k
      · obtain ⟨rfl, rfl⟩ := e; rw [mj_ss]; exact hv
      · rw [mj_sn _ _ (by omega)]; exact h4 s' k' (by omega) zk
    have i1 := fun v hv => ih (k + 1) _ (by omega) (nxt v hv)
    clear ih kk nxt h3 h4 hgo
    have hqk : q s k = if su_m G (gw k) s = 1 then co_v n hh k s else -1 := by
      rw [hq]; unfold qm_v
      rw [ehh, Int.toNat_natCast]
      by_cases z : su_m G (gw k) s = 1
      · rw [if_pos z, if_pos ⟨⟨hs, by omega⟩, z⟩]
      · rw [if_neg z, if_neg (fun y => z y.2)]
    rcases su_m01 G (gw k) s with z | z
    · rw [z] at c45 hqk
      rw [if_neg (by decide)] at hqk
      refine ar_iload_n (pc := 19) d_Mo_seek_19 rfl ?_
      refine ar_aload_n (pc := 20) d_Mo_seek_20 rfl ?_
      refine ar_getIv (pc := 21) gf_Mo_357 d_Mo_seek_21 (by first | rfl | exact sh_wheel (by omega) | exact sh_milk (by omega)) hg1 (fun r_21 => ?_)
      refine ar_icmp_ge (pc := 24) 70 d_Mo_seek_24 (by decide) ⟨by omega, by omega⟩ ⟨by omega, by omega⟩ (fun h_24 => by exfalso; omega) (fun h_24 => ?_)
      refine ar_aload_n (pc := 27) d_Mo_seek_27 rfl ?_
      refine ar_getR (pc := 28) gf_Mo_133 d_Mo_seek_28 (by first | rfl | exact sh_wheel (by omega) | exact sh_milk (by omega)) (hF _ _ _ rfl) ?_
      refine ar_bipush (pc := 31) d_Mo_seek_31 (by decide) ?_
      refine ar_iload_n (pc := 33) d_Mo_seek_33 rfl ?_
      refine ar_imul (pc := 34) d_Mo_seek_34 ?_
      refine ar_iload_n (pc := 35) d_Mo_seek_35 rfl ?_
      refine ar_iadd (pc := 36) d_Mo_seek_36 ?_
      refine ar_aload_n (pc := 37) d_Mo_seek_37 rfl ?_
      refine ar_aload_n (pc := 38) d_Mo_seek_38 rfl ?_
      refine ar_getR (pc := 39) gf_Mo_117 d_Mo_seek_39 (by first | rfl | exact sh_wheel (by omega) | exact sh_milk (by omega)) (hF _ _ _ rfl) ?_
      refine ar_iload_n (pc := 42) d_Mo_seek_42 rfl ?_
      refine ar_ialdv (pc := 43) d_Mo_seek_43 rfl (k) (by omega) (by omega) e95 (fun r_43 => ?_)
      refine ar_iload_n (pc := 44) d_Mo_seek_44 rfl ?_
      refine ac_virt (pc := 45) (N := mt_Mo_doesSuit) _ _ mv_Mo_doesSuit ml_Mo_351 ck_12 d_Mo_seek_45 c45 (by first | rfl | exact sh_wheel (by omega) | exact sh_milk (by omega)) rfl rfl (Nat.le_of_ble_eq_true rfl) (Nat.le_of_eq (Nat.zero_add _)) (Nat.le_of_eq (Nat.zero_add _)) (fun r_45 G_45 h_45 => ?_)
      obtain ⟨rfl, e_45⟩ := h_45
      subst G_45
      refine ar_if_eq (pc := 48) 60 d_Mo_seek_48 (by decide) ⟨by omega, by omega⟩ (fun h_48 => ?_) (fun h_48 => by exfalso; omega)
      refine ar_ldc2 (pc := 60) (-1) kj_Mo_369 d_Mo_seek_60 (by decide) ?_
      refine ar_last (pc := 63) d_Mo_seek_63 rfl (10*s+k) (by omega) (by omega) ⟨by omega, by omega⟩ ?_
      refine ar_iinc (pc := 64) d_Mo_seek_64 rfl rfl (by decide) ?_
      refine ar_goto (pc := 67) 19 d_Mo_seek_67 (by decide) ?_
      rotate_left
      -- leaves: stop 19
      · exact ar_loc (i1 _ hqk.symm) ⟨rfl, rfl, rfl, li_i rfl (by omega), trivial⟩
    · rw [z] at c45 hqk
      rw [if_pos rfl] at hqk
      refine ar_iload_n (pc := 19) d_Mo_seek_19 rfl ?_
      refine ar_aload_n (pc := 20) d_Mo_seek_20 rfl ?_
      refine ar_getIv (pc := 21) gf_Mo_357 d_Mo_seek_21 (by first | rfl | exact sh_wheel (by omega) | exact sh_milk (by omega)) hg1 (fun r_21 => ?_)
      refine ar_icmp_ge (pc := 24) 70 d_Mo_seek_24 (by decide) ⟨by omega, by omega⟩ ⟨by omega, by omega⟩ (fun h_24 => by exfalso; omega) (fun h_24 => ?_)
      refine ar_aload_n (pc := 27) d_Mo_seek_27 rfl ?_
      refine ar_getR (pc := 28) gf_Mo_133 d_Mo_seek_28 (by first | rfl | exact sh_wheel (by omega) | exact sh_milk (by omega)) (hF _ _ _ rfl) ?_
      refine ar_bipush (pc := 31) d_Mo_seek_31 (by decide) ?_
      refine ar_iload_n (pc := 33) d_Mo_seek_33 rfl ?_
      refine ar_imul (pc := 34) d_Mo_seek_34 ?_
      refine ar_iload_n (pc := 35) d_Mo_seek_35 rfl ?_
      refine ar_iadd (pc := 36) d_Mo_seek_36 ?_
      refine ar_aload_n (pc := 37) d_Mo_seek_37 rfl ?_
      refine ar_aload_n (pc := 38) d_Mo_seek_38 rfl ?_
      refine ar_getR (pc := 39) gf_Mo_117 d_Mo_seek_39 (by first | rfl | exact sh_wheel (by omega) | exact sh_milk (by omega)) (hF _ _ _ rfl) ?_
      refine ar_iload_n (pc := 42) d_Mo_seek_42 rfl ?_
      refine ar_ialdv (pc := 43) d_Mo_seek_43 rfl (k) (by omega) (by omega) e95 (fun r_43 => ?_)
      refine ar_iload_n (pc := 44) d_Mo_seek_44 rfl ?_
      refine ac_virt (pc := 45) (N := mt_Mo_doesSuit) _ _ mv_Mo_doesSuit ml_Mo_351 ck_12 d_Mo_seek_45 c45 (by first | rfl | exact sh_wheel (by omega) | exact sh_milk (by omega)) rfl rfl (Nat.le_of_ble_eq_true rfl) (Nat.le_of_eq (Nat.zero_add _)) (Nat.le_of_eq (Nat.zero_add _)) (fun r_45 G_45 h_45 => ?_)
      obtain ⟨rfl, e_45⟩ := h_45
      subst G_45
      refine ar_if_eq (pc := 48) 60 d_Mo_seek_48 (by decide) ⟨by omega, by omega⟩ (fun h_48 => by exfalso; omega) (fun h_48 => ?_)
      refine ar_aload_n (pc := 51) d_Mo_seek_51 rfl ?_
      refine ar_iload_n (pc := 52) d_Mo_seek_52 rfl ?_
      refine ar_iload_n (pc := 53) d_Mo_seek_53 rfl ?_
      refine ac_virt (pc := 54) (N := mt_Mo_costOf) _ _ mv_Mo_costOf ml_Mo_371 ck_12 d_Mo_seek_54 c54 (by first | rfl | exact sh_wheel (by omega) | exact sh_milk (by omega)) rfl rfl (Nat.le_of_ble_eq_true rfl) (Nat.le_of_eq (Nat.zero_add _)) (Nat.le_of_eq (Nat.zero_add _)) (fun r_54 G_54 h_54 => ?_)
      obtain ⟨rfl, e_54⟩ := h_54
      subst G_54
      refine ar_goto (pc := 57) 63 d_Mo_seek_57 (by decide) ?_
      refine ar_last (pc := 63) d_Mo_seek_63 rfl (10*s+k) (by omega) (by omega) ⟨by omega, by omega⟩ ?_
      refine ar_iinc (pc := 64) d_Mo_seek_64 rfl rfl (by decide) ?_
      refine ar_goto (pc := 67) 19 d_Mo_seek_67 (by decide) ?_
      rotate_left
      -- leaves: stop 19
      · exact ar_loc (i1 _ hqk.symm) ⟨rfl, rfl, rfl, li_i rfl (by omega), trivial⟩
theorem lp_seek_a2 (X : gx_T) (d : Nat) {G : mm_T} {wc n : Nat} {gw : Nat → Nat} {q : Nat → Nat → Int} {al : Int} {Q : Option av_T → mm_T → Prop} (H : mgo_I G wc n gw) (HW : mww_I G wc) (hq : q = qm_v (su_m G) (mm_I G 67) gw n)
    (kk : ∀ G2, pa_F G G2 q n 24 0 → aw_W X mt_Mo_seek (d + 3) 76 [(0, some (av_r (some 60))), (1, some (av_i al))] [] G2 0 0 Q) : ∀ m s G1, s + m = 24 → pa_F G G1 q n s 0 → aw_W X mt_Mo_seek (d + 3) 11 [(0, some (av_r (some 60))), (1, some (av_i al)), (2, some (av_i (s : Int)))] [] G1 0 0 Q := by
  intro m
  induction m with
  | zero =>
    intro s G1 hs h
    have hs : s = 24 := by omega
    subst hs
    have k1 := kk G1 h
    clear kk
    refine ar_iload_n (pc := 11) d_Mo_seek_11 rfl ?_
    refine ar_bipush (pc := 12) d_Mo_seek_12 (by decide) ?_
    refine ar_icmp_ge (pc := 14) 76 d_Mo_seek_14 (by decide) ⟨by omega, by omega⟩ ⟨by omega, by omega⟩ (fun h_14 => ?_) (fun h_14 => by exfalso; omega)
    rotate_left
    -- leaves: stop 76
    · exact ar_loc k1 ⟨rfl, rfl, trivial⟩
  | succ m ih =>
    intro s G1 hs h
    have lp := lp_seek_a X d (al := al) (Q := Q) H HW hq (show s < 24 by omega) (fun G2 h2 => by
      have i1 := ih (s + 1) G2 (by omega) h2
      clear ih kk
      refine ar_iinc (pc := 70) d_Mo_seek_70 rfl rfl (by decide) ?_
      refine ar_goto (pc := 73) 11 d_Mo_seek_73 (by decide) ?_
      rotate_left
      -- leaves: stop 11
      · exact ar_loc i1 ⟨rfl, rfl, li_i rfl (by omega), trivial⟩) n 0 G1 (by omega) h
    clear ih kk
    refine ar_iload_n (pc := 11) d_Mo_seek_11 rfl ?_
    refine ar_bipush (pc := 12) d_Mo_seek_12 (by decide) ?_
    refine ar_icmp_ge (pc := 14) 76 d_Mo_seek_14 (by decide) ⟨by omega, by omega⟩ ⟨by omega, by omega⟩ (fun h_14 => by exfalso; omega) (fun h_14 => ?_)
    refine ar_iconst (pc := 17) d_Mo_seek_17 ?_
    refine ar_istore_n (pc := 18) d_Mo_seek_18 rfl (by decide) ?_
    rotate_left
    -- leaves: stop 19
    · exact ar_loc lp ⟨rfl, rfl, rfl, rfl, trivial⟩
def pb2_F (G G1 : mm_T) (x : Nat) : Prop := (mm_R G1 = mm_R G ∧ mm_A G1 = mm_A G) ∧ mm_I G1 = mm_I G ∧ (∀ b i, b ≠ 99 → mm_J G1 b i = mm_J G b i) ∧ ∀ y, y < x → mm_J G1 99 (24576 + y) = if y = 0 then 0 else 9223372036854775807
theorem lp_seek_b (X : gx_T) (d : Nat) {G : mm_T} {N : Nat} {Q : Option av_T → mm_T → Prop} (hF : fx_R G) (hN : N ≤ 1024) (hN0 : 0 < N)
    (kk : ∀ G2, pb2_F G G2 N → aw_W X mt_Mo_seek (d + 3) 110 [(0, some (av_r (some 60))), (1, some (av_i ((N - 1 : Nat) : Int)))] [] G2 0 0 Q) : ∀ m x G1, x + m = N → pb2_F G G1 x → aw_W X mt_Mo_seek (d + 3) 78 [(0, some (av_r (some 60))), (1, some (av_i ((N - 1 : Nat) : Int))), (2, some (av_i (x : Int)))] [] G1 0 0 Q := by
  intro m
  induction m with
  | zero =>
    intro x G1 hx h
    have hx : x = N := by omega
    subst hx
    have k1 := kk G1 h
    clear kk
    refine ar_iload_n (pc := 78) d_Mo_seek_78 rfl ?_
    refine ar_iload_n (pc := 79) d_Mo_seek_79 rfl ?_
    refine ar_icmp_gt (pc := 80) 110 d_Mo_seek_80 (by decide) ⟨by omega, by omega⟩ ⟨by omega, by omega⟩ (fun h_80 => ?_) (fun h_80 => by exfalso; omega)
    rotate_left
    -- leaves: stop 110
    · exact ar_loc k1 ⟨rfl, rfl, trivial⟩
  | succ m ih =>
    intro x G1 hx h
    obtain ⟨h1, h2, h3, h4⟩ := h
    have hFG := hF
    clear hF
    have hF : fx_R G1 := fun a k b z => by rw [h1.1]; exact hFG a k b z
    have i1 := fun v (hv : v = if x = 0 then 0 else 9223372036854775807) => ih (x + 1) (ms_J G1 99 (24576 + x) v) (by omega) ⟨h1, h2, fun b i hb => by rw [mj_sn _ _ (fun z => hb z.1)]; exact h3 b i hb, fun y hy => by
      by_cases e : y = x
      · subst e; rw [mj_ss]; exact hv
      · rw [mj_sn _ _ (by omega)]; exact h4 y (by omega)⟩
    clear ih kk h3 h4
    by_cases x0 : x = 0
    · rw [if_pos x0] at i1
      refine ar_iload_n (pc := 78) d_Mo_seek_78 rfl ?_
      refine ar_iload_n (pc := 79) d_Mo_seek_79 rfl ?_
      refine ar_icmp_gt (pc := 80) 110 d_Mo_seek_80 (by decide) ⟨by omega, by omega⟩ ⟨by omega, by omega⟩ (fun h_80 => by exfalso; omega) (fun h_80 => ?_)
      refine ar_aload_n (pc := 83) d_Mo_seek_83 rfl ?_
      refine ar_getR (pc := 84) gf_Mo_129 d_Mo_seek_84 (by first | rfl | exact sh_wheel (by omega) | exact sh_milk (by omega)) (hF _ _ _ rfl) ?_
      refine ar_sipush (pc := 87) d_Mo_seek_87 (by decide) ?_
      refine ar_iload_n (pc := 90) d_Mo_seek_90 rfl ?_
      refine ar_iadd (pc := 91) d_Mo_seek_91 ?_
      refine ar_iload_n (pc := 92) d_Mo_seek_92 rfl ?_
      refine ar_if_ne (pc := 93) 100 d_Mo_seek_93 (by decide) ⟨by omega, by omega⟩ (fun h_93 => by exfalso; omega) (fun h_93 => ?_)
      refine ar_lconst (pc := 96) 0 d_Mo_seek_96 (by decide) ?_
      refine ar_goto (pc := 97) 103 d_Mo_seek_97 (by decide) ?_
      refine ar_last (pc := 103) d_Mo_seek_103 rfl (24576+x) (by omega) (by omega) ⟨by omega, by omega⟩ ?_
      refine ar_iinc (pc := 104) d_Mo_seek_104 rfl rfl (by decide) ?_
      refine ar_goto (pc := 107) 78 d_Mo_seek_107 (by decide) ?_
      rotate_left
      -- leaves: stop 78
      · exact ar_loc (i1 _ rfl) ⟨rfl, rfl, li_i rfl (by omega), trivial⟩
    · rw [if_neg x0] at i1
      refine ar_iload_n (pc := 78) d_Mo_seek_78 rfl ?_
      refine ar_iload_n (pc := 79) d_Mo_seek_79 rfl ?_
      refine ar_icmp_gt (pc := 80) 110 d_Mo_seek_80 (by decide) ⟨by omega, by omega⟩ ⟨by omega, by omega⟩ (fun h_80 => by exfalso; omega) (fun h_80 => ?_)
      refine ar_aload_n (pc := 83) d_Mo_seek_83 rfl ?_
      refine ar_getR (pc := 84) gf_Mo_129 d_Mo_seek_84 (by first | rfl | exact sh_wheel (by omega) | exact sh_milk (by omega)) (hF _ _ _ rfl) ?_
      refine ar_sipush (pc := 87) d_Mo_seek_87 (by decide) ?_
      refine ar_iload_n (pc := 90) d_Mo_seek_90 rfl ?_
      refine ar_iadd (pc := 91) d_Mo_seek_91 ?_
      refine ar_iload_n (pc := 92) d_Mo_seek_92 rfl ?_
      refine ar_if_ne (pc := 93) 100 d_Mo_seek_93 (by decide) ⟨by omega, by omega⟩ (fun h_93 => ?_) (fun h_93 => by exfalso; omega)
      refine ar_ldc2 (pc := 100) (9223372036854775807) kj_Mo_375 d_Mo_seek_100 (by decide) ?_
      refine ar_last (pc := 103) d_Mo_seek_103 rfl (24576+x) (by omega) (by omega) ⟨by omega, by omega⟩ ?_
      refine ar_iinc (pc := 104) d_Mo_seek_104 rfl rfl (by decide) ?_
      refine ar_goto (pc := 107) 78 d_Mo_seek_107 (by decide) ?_
      rotate_left
      -- leaves: stop 78
      · exact ar_loc (i1 _ rfl) ⟨rfl, rfl, li_i rfl (by omega), trivial⟩
/-- what seek leaves: all else as before -/
def skf_F (G G' : mm_T) : Prop := (mm_R G' = mm_R G ∧ mm_A G' = mm_A G) ∧ (∀ b i, b ≠ 98 → mm_I G' b i = mm_I G b i) ∧ ∀ b i, b ≠ 99 → b ≠ 100 → mm_J G' b i = mm_J G b i
theorem cm_Mo_seek (X : gx_T) (d : Nat) {G : mm_T} {wc n : Nat} {gw : Nat → Nat} {q : Nat → Nat → Int} {room : Nat → Int} (H : mgo_I G wc n gw) (HW : mww_I G wc) (hq : q = qm_v (su_m G) (mm_I G 67) gw n) (hroom : ∀ s, s < 24 → room s = 4 - ct_n (mm_I G 67) s wc + rk_c (mm_I G 67) gw s n) : aw_M X (d + 3) mt_Mo_seek [av_r (some 60)] G 0 0 (fun r G' => skf_F G G' ∧ (∃ G1, lv_I q room n G1 G' 0) ∧ r = some (av_i (if mm_J G' 99 (2 ^ n - 1) = 9223372036854775807 then 0 else 1))) := by
  have hn := H.2.2.1.2
  have h1024 := p2_10 hn
  have hpos : 0 < 2 ^ n := Nat.two_pow_pos n
  have hqb : ∀ s k, q s k ≤ 4184623143714816 := fun s k => by
    rw [hq]; unfold qm_v
    split
    · next z =>
      have g := H.2.2.2 k z.1.2
      exact (co_r hn z.1.2 (by omega) z.1.1).2
    · omega
  have lpa := lp_seek_a2 X d (al := ((2 ^ n - 1 : Nat) : Int)) (Q := fun r G' => skf_F G G' ∧ (∃ G1, lv_I q room n G1 G' 0) ∧ r = some (av_i (if mm_J G' 99 (2 ^ n - 1) = 9223372036854775807 then 0 else 1))) H HW hq (fun G2 h2 => by
    have hF2 : fx_R G2 := fun a k b z => by rw [h2.1.1]; exact H.1 a k b z
    have lpb := lp_seek_b X d (G := G2) (N := 2 ^ n) (Q := fun r G' => skf_F G G' ∧ (∃ G1, lv_I q room n G1 G' 0) ∧ r = some (av_i (if mm_J G' 99 (2 ^ n - 1) = 9223372036854775807 then 0 else 1))) hF2 h1024 hpos (fun G3 h3 => by
      have H3 : mgo_I G3 wc n gw := by
        obtain ⟨z1, z2, z3, z4⟩ := H
        refine ⟨fun a k b z => by rw [h3.1.1]; exact hF2 a k b z, by rw [h3.2.1, h2.2.1]; exact z2, by rw [h3.2.1, h2.2.1]; exact z3, fun k hk => by rw [h3.2.1, h2.2.1]; exact z4 k hk⟩
      have lpc := lp_seek_c X d (G := G3) (q := q) (room := room) (wc := wc) (n := n) (gw := gw) (Q := fun r G' => skf_F G G' ∧ (∃ G1, lv_I q room n G1 G' 0) ∧ r = some (av_i (if mm_J G' 99 (2 ^ n - 1) = 9223372036854775807 then 0 else 1))) H3 (fun s k hs hk => by rw [h3.2.2.1 _ _ (by omega)]; exact h2.2.2.2 s k (Or.inl hs) hk) hqb (fun s hs => by rw [h3.2.1, h2.2.1]; exact hroom s hs) (fun G4 h4 => by
        have hF4 : fx_R G4 := fun a k b z => by rw [h4.1.1]; exact H3.1 a k b z
        have fr : skf_F G G4 := ⟨⟨h4.1.1.trans (h3.1.1.trans h2.1.1), h4.1.2.trans (h3.1.2.trans h2.1.2)⟩, fun b i hb => by rw [h4.2.1 b i hb, h3.2.1, h2.2.1], fun b i b1 b2 => by rw [h4.2.2.1 b i b1, h3.2.2.1 b i b1]; exact h2.2.2.1 b i b2⟩
        have hF := hF4
        generalize hN : 2 ^ n = N at *
        by_cases z : mm_J G4 99 (N - 1) = 9223372036854775807
        · skip
          refine ar_aload_n (pc := 343) d_Mo_seek_343 rfl ?_
          refine ar_getR (pc := 344) gf_Mo_129 d_Mo_seek_344 (by first | rfl | exact sh_wheel (by omega) | exact sh_milk (by omega)) (hF _ _ _ rfl) ?_
          refine ar_iload_n (pc := 347) d_Mo_seek_347 rfl ?_
          refine ar_laldv (pc := 348) d_Mo_seek_348 rfl (N-1) (by omega) (by omega) (show _ = (9223372036854775807 : Int) from z) (fun r_348 => ?_)
          refine ar_ldc2 (pc := 349) (9223372036854775807) kj_Mo_375 d_Mo_seek_349 (by decide) ?_
          refine ar_leq (pc := 352) 360 d_Mo_seek_352 d_Mo_seek_353 (by decide) r_348 ⟨by omega, by omega⟩ (fun h_352 => ?_) (fun h_352 => ?_)
          refine ar_iconst (pc := 360) d_Mo_seek_360 ?_
          refine ar_zret (pc := 361) d_Mo_seek_361 rfl (by omega) ?_
          rotate_left
          refine ar_iconst (pc := 356) d_Mo_seek_356 ?_
          refine ar_goto (pc := 357) 361 d_Mo_seek_357 (by decide) ?_
          refine ar_zret (pc := 361) d_Mo_seek_361 rfl (by omega) ?_
          rotate_left
          -- leaves: ret 361, ret 361
          · exact ⟨fr, ⟨G3, h4⟩, by rw [if_pos z]⟩
          · exact absurd rfl h_352
        · skip
          refine ar_aload_n (pc := 343) d_Mo_seek_343 rfl ?_
          refine ar_getR (pc := 344) gf_Mo_129 d_Mo_seek_344 (by first | rfl | exact sh_wheel (by omega) | exact sh_milk (by omega)) (hF _ _ _ rfl) ?_
          refine ar_iload_n (pc := 347) d_Mo_seek_347 rfl ?_
          refine ar_lald (pc := 348) d_Mo_seek_348 rfl (N-1) (by omega) (by omega) (fun r_348 => ?_)
          refine ar_ldc2 (pc := 349) (9223372036854775807) kj_Mo_375 d_Mo_seek_349 (by decide) ?_
          refine ar_leq (pc := 352) 360 d_Mo_seek_352 d_Mo_seek_353 (by decide) r_348 ⟨by omega, by omega⟩ (fun h_352 => ?_) (fun h_352 => ?_)
          refine ar_iconst (pc := 360) d_Mo_seek_360 ?_
          refine ar_zret (pc := 361) d_Mo_seek_361 rfl (by omega) ?_
          rotate_left
          refine ar_iconst (pc := 356) d_Mo_seek_356 ?_
          refine ar_goto (pc := 357) 361 d_Mo_seek_357 (by decide) ?_
          refine ar_zret (pc := 361) d_Mo_seek_361 rfl (by omega) ?_
          rotate_left
          -- leaves: ret 361, ret 361
          · exact absurd h_352 z
          · exact ⟨fr, ⟨G3, h4⟩, by rw [if_neg z]⟩) 24 G3 (by omega) ⟨⟨rfl, rfl⟩, fun _ _ _ => rfl, fun _ _ _ => rfl, h3.2.2.2, fun t y t1 t2 => by omega, dl_24 (fun x hx => h3.2.2.2 x hx)⟩
      generalize 2 ^ n = N at lpc ⊢
      refine ar_bipush (pc := 110) d_Mo_seek_110 (by decide) ?_
      refine ar_istore_n (pc := 112) d_Mo_seek_112 rfl (by decide) ?_
      rotate_left
      -- leaves: stop 113
      · exact ar_loc lpc ⟨rfl, rfl, rfl, trivial⟩) (2 ^ n) 0 G2 (by omega) ⟨⟨rfl, rfl⟩, rfl, fun _ _ _ => rfl, fun y hy => by omega⟩
    generalize 2 ^ n = N at lpb ⊢
    refine ar_iconst (pc := 76) d_Mo_seek_76 ?_
    refine ar_istore_n (pc := 77) d_Mo_seek_77 rfl (by decide) ?_
    rotate_left
    -- leaves: stop 78
    · exact ar_loc lpb ⟨rfl, rfl, rfl, trivial⟩) 24 0 G (by omega) ⟨⟨rfl, rfl⟩, rfl, fun _ _ _ => rfl, fun s' k' z => by omega⟩
  have es := shl_t ⟨n, by omega⟩
  dsimp only at es
  have hg := H.2.2.1.1
  refine aw_enter pf_Mo_seek (Nat.le_of_ble_eq_true rfl) ?_
  refine ar_iconst (pc := 0) d_Mo_seek_0 ?_
  refine ar_aload_n (pc := 1) d_Mo_seek_1 rfl ?_
  refine ar_getIv (pc := 2) gf_Mo_357 d_Mo_seek_2 (by first | rfl | exact sh_wheel (by omega) | exact sh_milk (by omega)) hg (fun r_2 => ?_)
  refine ar_ishl (pc := 5) d_Mo_seek_5 ?_
  refine ar_iconst (pc := 6) d_Mo_seek_6 ?_
  refine ar_isub (pc := 7) d_Mo_seek_7 ?_
  rw [es]
  refine ar_istore_n (pc := 8) d_Mo_seek_8 rfl (by decide) ?_
  refine ar_iconst (pc := 9) d_Mo_seek_9 ?_
  refine ar_istore_n (pc := 10) d_Mo_seek_10 rfl (by decide) ?_
  rotate_left
  -- leaves: stop 11
  · exact ar_loc lpa ⟨rfl, rfl, rfl, trivial⟩
