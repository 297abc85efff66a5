/-! ===== reached ===== -/
theorem lp_rc_1 (X : gx_T) (d : Nat) (G : mm_T) {t : Int} {m wc c : Nat} (hF : fx_R G) (hm : m < 30) (hwc : mm_I G 60 4 = wc) (hwc2 : wc ≤ 40) (hc : mm_I G 60 5 = c) (hc2 : c ≤ 200) (ht : mm_I G 60 0 = t) (hl : ∀ k, k < c → -1 ≤ mm_I G 78 k ∧ mm_I G 78 k ≤ t) (h01 : ∀ k, mm_I G 74 k = 0 ∨ mm_I G 74 k = 1) {P : Nat → Prop} (hP : P = fun w => rc_P (fun v => mm_I G 74 (40 * m + v) = 1) (fun v w => ∃ j, j < c ∧ ∃ k, k < c ∧ sy_P (mm_I G 75) (mm_I G 76) (mm_I G 77) (mm_I G 78) t (v : Int) (w : Int) j k) wc w) :
    ∀ n w x, w + n = wc → j6_in x → (∀ e, e < 64 → (lb_b x e = true ↔ e < w ∧ P e)) → aw_W X mt_Mo_reached (d + 2) 21 [(0, some (av_r (some 60))), (1, some (av_i (m : Int))), (2, some (av_l x)), (4, some (av_i (w : Int)))] [] G 0 0 (fun r G' => (∃ y, r = some (av_l y) ∧ j6_in y ∧ ∀ e, e < 64 → (lb_b y e = true ↔ e < wc ∧ P e)) ∧ G' = G) := by
  intro n
  induction n with
  | zero =>
    intro w x hw hx hb
    have hw : w = wc := by omega
    subst hw
    refine ar_iload (pc := 21) d_Mo_reached_21 rfl ?_
    refine ar_aload_n (pc := 23) d_Mo_reached_23 rfl ?_
    refine ar_getIv (pc := 24) gf_Mo_165 d_Mo_reached_24 (by first | rfl | exact sh_wheel (by omega) | exact sh_milk (by omega)) hwc (fun r_24 => ?_)
    refine ar_icmp_ge (pc := 27) 129 d_Mo_reached_27 (by decide) ⟨by omega, by omega⟩ ⟨by omega, by omega⟩ (fun h_27 => ?_) (fun h_27 => by exfalso; omega)
    refine ar_lload_n (pc := 129) d_Mo_reached_129 rfl ?_
    refine ar_lret (pc := 130) d_Mo_reached_130 rfl ?_
    rotate_left
    -- leaves: ret 130
    · exact ⟨⟨x, rfl, hx, hb⟩, rfl⟩
  | succ n ih =>
    intro w x hw hx hb
    have hw01 := h01 (40 * m + w)
    refine ar_iload (pc := 21) d_Mo_reached_21 rfl ?_
    refine ar_aload_n (pc := 23) d_Mo_reached_23 rfl ?_
    refine ar_getIv (pc := 24) gf_Mo_165 d_Mo_reached_24 (by first | rfl | exact sh_wheel (by omega) | exact sh_milk (by omega)) hwc (fun r_24 => ?_)
    refine ar_icmp_ge (pc := 27) 129 d_Mo_reached_27 (by decide) ⟨by omega, by omega⟩ ⟨by omega, by omega⟩ (fun h_27 => by exfalso; omega) (fun h_27 => ?_)
    refine ar_aload_n (pc := 30) d_Mo_reached_30 rfl ?_
    refine ar_getR (pc := 31) gf_Mo_49 d_Mo_reached_31 (by first | rfl | exact sh_wheel (by omega) | exact sh_milk (by omega)) (hF _ _ _ rfl) ?_
    refine ar_bipush (pc := 34) d_Mo_reached_34 (by decide) ?_
    refine ar_iload_n (pc := 36) d_Mo_reached_36 rfl ?_
    refine ar_imul (pc := 37) d_Mo_reached_37 ?_
    refine ar_iload (pc := 38) d_Mo_reached_38 rfl ?_
    refine ar_iadd (pc := 40) d_Mo_reached_40 ?_
    refine ar_zald (pc := 41) d_Mo_reached_41 rfl (40*m+w) (by omega) (by omega) (fun r_41 => ?_)
    refine ar_istore (pc := 42) d_Mo_reached_42 rfl (by decide) ?_
    refine ar_iconst (pc := 44) d_Mo_reached_44 ?_
    refine ar_istore (pc := 45) d_Mo_reached_45 rfl (by decide) ?_
    rotate_left
    -- leaves: stop 47
    · refine ar_loc (lp_rc_2 X d G (x := x) (w := w) hF hm hwc hwc2 (by omega) hc hc2 ht hl h01 ?_ wc 0 _ (by omega) hw01 ⟨fun h => Or.inl h, fun h => h.elim id (fun ⟨u, h1, _⟩ => by omega)⟩) ⟨rfl, rfl, rfl, rfl, rfl, rfl, trivial⟩
      intro z hz hzi
      have hzi : z = 1 ↔ P w := by rw [hP]; exact hzi
      refine ar_lload_n (pc := 107) d_Mo_reached_107 rfl ?_
      refine ar_iload (pc := 108) d_Mo_reached_108 rfl ?_
      refine ar_if_eq (pc := 110) 120 d_Mo_reached_110 (by decide) ⟨by omega, by omega⟩ (fun h_110 => ?_) (fun h_110 => ?_)
      refine ar_lconst (pc := 120) 0 d_Mo_reached_120 (by decide) ?_
      refine ar_lor (pc := 121) d_Mo_reached_121 ?_
      refine ar_lstore_n (pc := 122) d_Mo_reached_122 rfl (by decide) ?_
      refine ar_iinc (pc := 123) d_Mo_reached_123 rfl rfl (by decide) ?_
      refine ar_goto (pc := 126) 21 d_Mo_reached_126 (by decide) ?_
      rotate_left
      refine ar_lconst (pc := 113) 1 d_Mo_reached_113 (by decide) ?_
      refine ar_iload (pc := 114) d_Mo_reached_114 rfl ?_
      refine ar_lshl (pc := 116) d_Mo_reached_116 ?_
      refine ar_goto (pc := 117) 121 d_Mo_reached_117 (by decide) ?_
      refine ar_lor (pc := 121) d_Mo_reached_121 ?_
      refine ar_lstore_n (pc := 122) d_Mo_reached_122 rfl (by decide) ?_
      refine ar_iinc (pc := 123) d_Mo_reached_123 rfl rfl (by decide) ?_
      refine ar_goto (pc := 126) 21 d_Mo_reached_126 (by decide) ?_
      rotate_left
      -- leaves: stop 21, stop 21
      · refine ar_loc (ih (w + 1) (b_lor x 0) (by omega) (lb_in_lor _ _) (fun e he => ?_)) ⟨rfl, rfl, rfl, li_i rfl (by omega), trivial⟩
        rw [lb_lor, lb_0, Bool.or_false, hb e he]
        constructor
        · rintro ⟨h1, h2⟩; exact ⟨by omega, h2⟩
        · rintro ⟨h1, h2⟩
          by_cases hew : e = w
          · subst hew; have := hzi.mpr h2; omega
          · exact ⟨by omega, h2⟩
      · refine ar_loc (ih (w + 1) (b_lor x (b_lshl 1 (w : Int))) (by omega) (lb_in_lor _ _) (fun e he => ?_)) ⟨rfl, rfl, rfl, li_i rfl (by omega), trivial⟩
        have hPw := hzi.mp (by omega)
        rw [lb_lor, lb_shl (by omega), Bool.or_eq_true, hb e he, decide_eq_true_iff]
        constructor
        · rintro (⟨h1, h2⟩ | h)
          · exact ⟨by omega, h2⟩
          · subst h; exact ⟨by omega, hPw⟩
        · rintro ⟨h1, h2⟩
          by_cases hew : e = w
          · exact Or.inr hew.symm
          · exact Or.inl ⟨by omega, h2⟩
theorem cm_Mo_reached (X : gx_T) (d : Nat) (G : mm_T) {m t : Int} {wc c : Nat} (hF : fx_R G) (hm : i3_in m) (hmc : mm_I G 60 3 ≤ 30) (hwc : mm_I G 60 4 = wc) (hwc2 : wc ≤ 40) (hc : mm_I G 60 5 = c) (hc2 : c ≤ 200) (ht : mm_I G 60 0 = t) (hl : ∀ k, k < c → -1 ≤ mm_I G 78 k ∧ mm_I G 78 k ≤ t) (h01 : ∀ k, mm_I G 74 k = 0 ∨ mm_I G 74 k = 1) : aw_M X (d + 2) mt_Mo_reached [av_r (some 60), av_i m] G 0 0 (fun r G' => (∃ y, r = some (av_l y) ∧ j6_in y ∧ (¬ (0 ≤ m ∧ m < mm_I G 60 3) → y = -1) ∧ ((0 ≤ m ∧ m < mm_I G 60 3) → ∀ e, e < 64 → (lb_b y e = true ↔ e < wc ∧ rc_P (fun v => mm_I G 74 (40 * m.toNat + v) = 1) (fun v w => ∃ j, j < c ∧ ∃ k, k < c ∧ sy_P (mm_I G 75) (mm_I G 76) (mm_I G 77) (mm_I G 78) t (v : Int) (w : Int) j k) wc e))) ∧ G' = G) := by
  by_cases hin : 0 ≤ m ∧ m < mm_I G 60 3
  · obtain ⟨k, rfl⟩ : ∃ k : Nat, m = k := ⟨m.toNat, by omega⟩
    rw [Int.toNat_natCast]
    have h := lp_rc_1 X d G (m := k) hF (by omega) hwc hwc2 hc hc2 ht hl h01 rfl wc 0 0 (by omega) ⟨by omega, by omega⟩ (fun e he => by rw [lb_0]; simp)
    refine aw_enter pf_Mo_reached (Nat.le_of_ble_eq_true rfl) ?_
    refine ar_iload_n (pc := 0) d_Mo_reached_0 rfl ?_
    refine ar_if_lt (pc := 1) 12 d_Mo_reached_1 (by decide) ⟨by omega, by omega⟩ (fun h_1 => by exfalso; omega) (fun h_1 => ?_)
    refine ar_iload_n (pc := 4) d_Mo_reached_4 rfl ?_
    refine ar_aload_n (pc := 5) d_Mo_reached_5 rfl ?_
    refine ar_getI (pc := 6) gf_Mo_162 d_Mo_reached_6 (by first | rfl | exact sh_wheel (by omega) | exact sh_milk (by omega)) (fun r_6 => ?_)
    refine ar_icmp_lt (pc := 9) 16 d_Mo_reached_9 (by decide) ⟨by omega, by omega⟩ ⟨by omega, by omega⟩ (fun h_9 => ?_) (fun h_9 => by exfalso; omega)
    refine ar_lconst (pc := 16) 0 d_Mo_reached_16 (by decide) ?_
    refine ar_lstore_n (pc := 17) d_Mo_reached_17 rfl (by decide) ?_
    refine ar_iconst (pc := 18) d_Mo_reached_18 ?_
    refine ar_istore (pc := 19) d_Mo_reached_19 rfl (by decide) ?_
    rotate_left
    -- leaves: stop 21
    · refine ar_mono (fun r G2 hr => ?_) (ar_loc h ⟨rfl, rfl, rfl, rfl, trivial⟩)
      obtain ⟨⟨y, h1, h2, h3⟩, h4⟩ := hr
      exact ⟨⟨y, h1, h2, fun hn => absurd hin hn, fun _ => h3⟩, h4⟩
  · skip
    refine aw_enter pf_Mo_reached (Nat.le_of_ble_eq_true rfl) ?_
    refine ar_iload_n (pc := 0) d_Mo_reached_0 rfl ?_
    refine ar_if_lt (pc := 1) 12 d_Mo_reached_1 (by decide) ⟨by omega, by omega⟩ (fun h_1 => ?_) (fun h_1 => ?_)
    refine ar_ldc2 (pc := 12) (-1) kj_Mo_369 d_Mo_reached_12 (by decide) ?_
    refine ar_lret (pc := 15) d_Mo_reached_15 rfl ?_
    rotate_left
    refine ar_iload_n (pc := 4) d_Mo_reached_4 rfl ?_
    refine ar_aload_n (pc := 5) d_Mo_reached_5 rfl ?_
    refine ar_getI (pc := 6) gf_Mo_162 d_Mo_reached_6 (by first | rfl | exact sh_wheel (by omega) | exact sh_milk (by omega)) (fun r_6 => ?_)
    refine ar_icmp_lt (pc := 9) 16 d_Mo_reached_9 (by decide) ⟨by omega, by omega⟩ ⟨by omega, by omega⟩ (fun h_9 => ?_) (fun h_9 => ?_)
    rotate_left
    refine ar_ldc2 (pc := 12) (-1) kj_Mo_369 d_Mo_reached_12 (by decide) ?_
    refine ar_lret (pc := 15) d_Mo_reached_15 rfl ?_
    rotate_left
    -- leaves: ret 15, stop 16, ret 15
    · exact ⟨⟨-1, rfl, ⟨by omega, by omega⟩, fun _ => rfl, fun z => absurd z hin⟩, rfl⟩
    · exfalso; omega
    · exact ⟨⟨-1, rfl, ⟨by omega, by omega⟩, fun _ => rfl, fun z => absurd z hin⟩, rfl⟩
theorem lp_K_wheelsFrom (X : gx_T) (d : Nat) (G : mm_T) {m wc : Nat} (hF : fx_R G) (hW : fx_W G) (hm : m < 30) (hwc : mm_I G 0 14 = wc) (hwc2 : wc ≤ 40) : ∀ n w x, w + n = wc → j6_in x → (∀ e, e < 64 → (lb_b x e = true ↔ e < w ∧ ib_b (mm_I G (300 + e) 3) m = true)) → aw_W X mt_K_wheelsFrom (d + 2) 5 [(0, some (av_r (some 0))), (1, some (av_i (m : Int))), (2, some (av_l x)), (4, some (av_i (w : Int)))] [] G 0 0 (fun r G' => (∃ y, r = some (av_l y) ∧ j6_in y ∧ ∀ e, e < 64 → (lb_b y e = true ↔ e < wc ∧ ib_b (mm_I G (300 + e) 3) m = true)) ∧ G' = G) := by
  intro n
  induction n with
  | zero =>
    intro w x hw hx hb
    have hw : w = wc := by omega
    subst hw
    refine ar_iload (pc := 5) d_K_wheelsFrom_5 rfl ?_
    refine ar_aload_n (pc := 7) d_K_wheelsFrom_7 rfl ?_
    refine ar_getIv (pc := 8) gf_K_115 d_K_wheelsFrom_8 (by first | rfl | exact sh_wheel (by omega) | exact sh_milk (by omega)) hwc (fun r_8 => ?_)
    refine ar_icmp_ge (pc := 11) 52 d_K_wheelsFrom_11 (by decide) ⟨by omega, by omega⟩ ⟨by omega, by omega⟩ (fun h_11 => ?_) (fun h_11 => by exfalso; omega)
    refine ar_lload_n (pc := 52) d_K_wheelsFrom_52 rfl ?_
    refine ar_lret (pc := 53) d_K_wheelsFrom_53 rfl ?_
    rotate_left
    -- leaves: ret 53
    · exact ⟨⟨x, rfl, hx, hb⟩, rfl⟩
  | succ n ih =>
    intro w x hw hx hb
    have h := cm_K_wheelAt X d G (m := (w : Int)) hF hW ⟨by omega, by omega⟩
    rw [if_pos (by omega), Int.toNat_natCast] at h
    have hlt := ib_test (w := m) (by omega) (mm_I G (300 + w) 3)
    have hin := ib_in (Int32.ofInt (b_iushr (mm_I G (300 + w) 3) (m : Int)) &&& Int32.ofInt 1)
    refine ar_iload (pc := 5) d_K_wheelsFrom_5 rfl ?_
    refine ar_aload_n (pc := 7) d_K_wheelsFrom_7 rfl ?_
    refine ar_getIv (pc := 8) gf_K_115 d_K_wheelsFrom_8 (by first | rfl | exact sh_wheel (by omega) | exact sh_milk (by omega)) hwc (fun r_8 => ?_)
    refine ar_icmp_ge (pc := 11) 52 d_K_wheelsFrom_11 (by decide) ⟨by omega, by omega⟩ ⟨by omega, by omega⟩ (fun h_11 => by exfalso; omega) (fun h_11 => ?_)
    refine ar_aload_n (pc := 14) d_K_wheelsFrom_14 rfl ?_
    refine ar_iload (pc := 15) d_K_wheelsFrom_15 rfl ?_
    refine ac_virt (pc := 17) (N := mt_K_wheelAt) _ _ mv_K_wheelAt ml_K_173 ck_11 d_K_wheelsFrom_17 h (by first | rfl | exact sh_wheel (by omega) | exact sh_milk (by omega)) rfl rfl (Nat.le_of_ble_eq_true rfl) (Nat.le_of_eq (Nat.zero_add _)) (Nat.le_of_eq (Nat.zero_add _)) (fun r_17 G_17 h_17 => ?_)
    obtain ⟨rfl, e_17⟩ := h_17
    subst G_17
    refine ar_astore (pc := 20) d_K_wheelsFrom_20 rfl (by decide) ?_
    refine ar_aload (pc := 22) d_K_wheelsFrom_22 rfl ?_
    refine ar_ifnull (pc := 24) 46 d_K_wheelsFrom_24 (by decide) (fun h => by cases h) (fun _ _ => ?_)
    refine ar_aload (pc := 27) d_K_wheelsFrom_27 rfl ?_
    refine ar_getI (pc := 29) gf_K_286 d_K_wheelsFrom_29 (by first | rfl | exact sh_wheel (by omega) | exact sh_milk (by omega)) (fun r_29 => ?_)
    refine ar_iload_n (pc := 32) d_K_wheelsFrom_32 rfl ?_
    refine ar_iushr (pc := 33) d_K_wheelsFrom_33 ?_
    refine ar_iconst (pc := 34) d_K_wheelsFrom_34 ?_
    refine ar_iand (pc := 35) d_K_wheelsFrom_35 ?_
    refine ar_if_eq (pc := 36) 46 d_K_wheelsFrom_36 (by decide) hin (fun h_36 => ?_) (fun h_36 => ?_)
    refine ar_iinc (pc := 46) d_K_wheelsFrom_46 rfl rfl (by decide) ?_
    refine ar_goto (pc := 49) 5 d_K_wheelsFrom_49 (by decide) ?_
    rotate_left
    refine ar_lload_n (pc := 39) d_K_wheelsFrom_39 rfl ?_
    refine ar_lconst (pc := 40) 1 d_K_wheelsFrom_40 (by decide) ?_
    refine ar_iload (pc := 41) d_K_wheelsFrom_41 rfl ?_
    refine ar_lshl (pc := 43) d_K_wheelsFrom_43 ?_
    refine ar_lor (pc := 44) d_K_wheelsFrom_44 ?_
    refine ar_lstore_n (pc := 45) d_K_wheelsFrom_45 rfl (by decide) ?_
    refine ar_iinc (pc := 46) d_K_wheelsFrom_46 rfl rfl (by decide) ?_
    refine ar_goto (pc := 49) 5 d_K_wheelsFrom_49 (by decide) ?_
    rotate_left
    -- leaves: stop 5, stop 5
    · have hz := hlt.mp h_36
      refine ar_loc (ih (w + 1) x (by omega) hx (fun e he => ?_)) ⟨rfl, rfl, rfl, li_i rfl (by omega), trivial⟩
      rw [hb e he]
      constructor
      · rintro ⟨h1, h2⟩; exact ⟨by omega, h2⟩
      · rintro ⟨h1, h2⟩
        by_cases hew : e = w
        · subst hew; rw [hz] at h2; cases h2
        · exact ⟨by omega, h2⟩
    · have hz : ib_b (mm_I G (300 + w) 3) m = true := by
        cases hzz : ib_b (mm_I G (300 + w) 3) m with
        | true => rfl
        | false => exact absurd (hlt.mpr hzz) h_36
      refine ar_loc (ih (w + 1) (b_lor x (b_lshl 1 (w : Int))) (by omega) (lb_in_lor _ _) (fun e he => ?_)) ⟨rfl, rfl, rfl, li_i rfl (by omega), trivial⟩
      rw [lb_lor, lb_shl (by omega), Bool.or_eq_true, hb e he, decide_eq_true_iff]
      constructor
      · rintro (⟨h1, h2⟩ | h)
        · exact ⟨by omega, h2⟩
        · subst h; exact ⟨by omega, hz⟩
      · rintro ⟨h1, h2⟩
        by_cases hew : e = w
        · exact Or.inr hew.symm
        · exact Or.inl ⟨by omega, h2⟩
theorem cm_K_wheelsFrom (X : gx_T) (d : Nat) (G : mm_T) {m wc : Nat} (hF : fx_R G) (hW : fx_W G) (hm : m < 30) (hwc : mm_I G 0 14 = wc) (hwc2 : wc ≤ 40) : aw_M X (d + 2) mt_K_wheelsFrom [av_r (some 0), av_i (m : Int)] G 0 0 (fun r G' => (∃ y, r = some (av_l y) ∧ j6_in y ∧ ∀ e, e < 64 → (lb_b y e = true ↔ e < wc ∧ ib_b (mm_I G (300 + e) 3) m = true)) ∧ G' = G) := by
  refine aw_enter pf_K_wheelsFrom (Nat.le_of_ble_eq_true rfl) ?_
  refine ar_lconst (pc := 0) 0 d_K_wheelsFrom_0 (by decide) ?_
  refine ar_lstore_n (pc := 1) d_K_wheelsFrom_1 rfl (by decide) ?_
  refine ar_iconst (pc := 2) d_K_wheelsFrom_2 ?_
  refine ar_istore (pc := 3) d_K_wheelsFrom_3 rfl (by decide) ?_
  rotate_left
  -- leaves: stop 5
  · exact ar_loc (lp_K_wheelsFrom X d G hF hW hm hwc hwc2 wc 0 0 (by omega) ⟨by omega, by omega⟩ (fun e he => by rw [lb_0]; simp)) ⟨rfl, rfl, rfl, rfl, trivial⟩
theorem cm_K_reached (X : gx_T) (d : Nat) (G : mm_T) {m t : Int} {wc c : Nat} (hF : fx_R G) (hW : fx_W G) (hm : i3_in m) (hwc : mm_I G 0 14 = wc) (hwc2 : wc ≤ 40) (hc : mm_I G 12 4 = c) (hc2 : c ≤ 200) (ht : mm_I G 0 15 = t) (hti : i3_in t) (hw : ∀ k, k < c → 0 ≤ mm_I G 13 k ∧ mm_I G 13 k < 40) : aw_M X (d + 5) mt_K_reached [av_r (some 0), av_i m] G 0 0 (fun r G' => (∃ y, r = some (av_l y) ∧ j6_in y ∧ (¬ (0 ≤ m ∧ m < mm_I G 0 13) → y = -1) ∧ ((0 ≤ m ∧ m < mm_I G 0 13) → ∀ e, e < 64 → (lb_b y e = true ↔ (e < wc ∧ ib_b (mm_I G (300 + e) 3) m.toNat = true) ∨ ∃ q, q < c ∧ ((mm_I G 13 q).toNat < wc ∧ ib_b (mm_I G (300 + (mm_I G 13 q).toNat) 3) m.toNat = true) ∧ ∃ k, k < c ∧ sy_B (mm_I G 13) (mm_I G 14) (mm_I G 15) (mm_I G 16) t q k e))) ∧ G' = G) := by
  have hW1 := hW.1
  have h := cm_K_milkAt X (d + 3) G hF hW hm
  by_cases hin : 0 ≤ m ∧ m < mm_I G 0 13
  · rw [if_pos hin] at h
    obtain ⟨k, rfl⟩ : ∃ k : Nat, m = k := ⟨m.toNat, by omega⟩
    rw [Int.toNat_natCast] at h ⊢
    refine aw_enter pf_K_reached (Nat.le_of_ble_eq_true rfl) ?_
    refine ar_aload_n (pc := 0) d_K_reached_0 rfl ?_
    refine ar_iload_n (pc := 1) d_K_reached_1 rfl ?_
    refine ac_virt (pc := 2) (N := mt_K_milkAt) _ _ mv_K_milkAt ml_K_199 ck_11 d_K_reached_2 h (by first | rfl | exact sh_wheel (by omega) | exact sh_milk (by omega)) rfl rfl (Nat.le_of_ble_eq_true rfl) (Nat.le_of_eq (Nat.zero_add _)) (Nat.le_of_eq (Nat.zero_add _)) (fun r_2 G_2 h_2 => ?_)
    obtain ⟨rfl, e_2⟩ := h_2
    subst G_2
    refine ar_ifnonnull (pc := 5) 12 d_K_reached_5 (by decide) (fun _ _ => ?_) (fun h => by cases h)
    refine ar_aload_n (pc := 12) d_K_reached_12 rfl ?_
    refine ar_iload_n (pc := 13) d_K_reached_13 rfl ?_
    refine ac_virt (pc := 14) (N := mt_K_wheelsFrom) _ _ mv_K_wheelsFrom ml_K_265 ck_11 d_K_reached_14 (cm_K_wheelsFrom _ _ _ hF hW (by omega) hwc hwc2) (by first | rfl | exact sh_wheel (by omega) | exact sh_milk (by omega)) rfl rfl (Nat.le_of_ble_eq_true rfl) (Nat.le_of_eq (Nat.zero_add _)) (Nat.le_of_eq (Nat.zero_add _)) (fun r_14 G_14 h_14 => ?_)
    obtain ⟨⟨y, rfl, hy, hyb⟩, e14⟩ := h_14
    subst G_14
    refine ar_lstore_n (pc := 17) d_K_reached_17 rfl (by decide) ?_
    refine ar_lload_n (pc := 18) d_K_reached_18 rfl ?_
    refine ar_aload_n (pc := 19) d_K_reached_19 rfl ?_
    refine ar_getR (pc := 20) gf_K_38 d_K_reached_20 (by first | rfl | exact sh_wheel (by omega) | exact sh_milk (by omega)) (hF _ _ _ rfl) ?_
    refine ar_lload_n (pc := 23) d_K_reached_23 rfl ?_
    refine ar_aload_n (pc := 24) d_K_reached_24 rfl ?_
    refine ar_getIv (pc := 25) gf_K_132 d_K_reached_25 (by first | rfl | exact sh_wheel (by omega) | exact sh_milk (by omega)) ht (fun r_25 => ?_)
    refine ac_virt (pc := 28) (N := mt_St_besideAny) _ _ mv_St_besideAny ml_K_259 ck_7 d_K_reached_28 (cm_St_besideAny _ _ _ hF hti hc hc2 hw) (by first | rfl | exact sh_wheel (by omega) | exact sh_milk (by omega)) rfl rfl (Nat.le_of_ble_eq_true rfl) (Nat.le_of_eq (Nat.zero_add _)) (Nat.le_of_eq (Nat.zero_add _)) (fun r_28 G_28 h_28 => ?_)
    obtain ⟨⟨u, rfl, hu, hub⟩, e28⟩ := h_28
    subst G_28
    refine ar_lor (pc := 31) d_K_reached_31 ?_
    refine ar_lret (pc := 32) d_K_reached_32 rfl ?_
    rotate_left
    -- leaves: ret 32
    · refine ⟨⟨_, rfl, lb_in_lor _ _, fun z => absurd hin z, fun _ e he => ?_⟩, rfl⟩
      rw [lb_lor, Bool.or_eq_true, hyb e he, hub e he]
      constructor
      · rintro (h1 | ⟨q, hq, h2, h3⟩)
        · exact Or.inl h1
        · have := hw q hq
          exact Or.inr ⟨q, hq, (hyb _ (by omega)).mp h2, h3⟩
      · rintro (h1 | ⟨q, hq, h2, h3⟩)
        · exact Or.inl h1
        · have := hw q hq
          exact Or.inr ⟨q, hq, (hyb _ (by omega)).mpr h2, h3⟩
  · rw [if_neg hin] at h
    refine aw_enter pf_K_reached (Nat.le_of_ble_eq_true rfl) ?_
    refine ar_aload_n (pc := 0) d_K_reached_0 rfl ?_
    refine ar_iload_n (pc := 1) d_K_reached_1 rfl ?_
    refine ac_virt (pc := 2) (N := mt_K_milkAt) _ _ mv_K_milkAt ml_K_199 ck_11 d_K_reached_2 h (by first | rfl | exact sh_wheel (by omega) | exact sh_milk (by omega)) rfl rfl (Nat.le_of_ble_eq_true rfl) (Nat.le_of_eq (Nat.zero_add _)) (Nat.le_of_eq (Nat.zero_add _)) (fun r_2 G_2 h_2 => ?_)
    obtain ⟨rfl, e_2⟩ := h_2
    subst G_2
    refine ar_ifnonnull (pc := 5) 12 d_K_reached_5 (by decide) (fun _ h => by cases h) (fun _ => ?_)
    refine ar_ldc2 (pc := 8) (-1) kj_K_263 d_K_reached_8 (by decide) ?_
    refine ar_lret (pc := 11) d_K_reached_11 rfl ?_
    rotate_left
    -- leaves: ret 11
    · exact ⟨⟨-1, rfl, ⟨by omega, by omega⟩, fun _ => rfl, fun z => absurd z hin⟩, rfl⟩
