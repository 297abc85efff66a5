/-! ===== plan of the class, whole ===== -/
def gy_c (su : Nat → Nat → Int) (sh : Nat → Int) : Nat → Nat
  | 0 => 0
  | i + 1 => gy_c su sh i + if sh i ≠ -1 ∧ su i (sh i).toNat ≠ 1 then 1 else 0
def gy_w (su : Nat → Nat → Int) (sh : Nat → Int) : Nat → (Nat → Nat)
  | 0 => fun _ => 0
  | i + 1 => if sh i ≠ -1 ∧ su i (sh i).toNat ≠ 1 then upn (gy_w su sh i) (gy_c su sh i) i else gy_w su sh i
def gy_r (su : Nat → Nat → Int) (sh : Nat → Int) (r0 : Nat → Int) : Nat → (Nat → Int)
  | 0 => r0
  | i + 1 => if sh i ≠ -1 ∧ su i (sh i).toNat ≠ 1 then upp (gy_r su sh r0 i) (sh i).toNat (gy_r su sh r0 i (sh i).toNat + 1) else gy_r su sh r0 i
theorem gy_m {su : Nat → Nat → Int} {sh : Nat → Int} : ∀ m i, gy_c su sh i ≤ gy_c su sh (i + m) := by
  intro m
  induction m with
  | zero => intro i; exact Nat.le_refl _
  | succ m ih => intro i; have := ih i; rw [← Nat.add_assoc, gy_c]; omega
theorem gy_rr {su : Nat → Nat → Int} {sh r0 : Nat → Int} (h0 : ∀ s, s < 24 → 0 ≤ r0 s ∧ r0 s ≤ 4) : ∀ i s, s < 24 → 0 ≤ gy_r su sh r0 i s ∧ gy_r su sh r0 i s ≤ 4 + i := by
  intro i
  induction i with
  | zero => intro s hs; have := h0 s hs; rw [gy_r]; omega
  | succ i ih =>
    intro s hs
    rw [gy_r]
    have i1 := ih s hs
    split
    · unfold upp
      split
      · next e => rw [← e]; omega
      · omega
    · omega
/-- the k-th that goes is a wheel that lies unsuited, in order -/
theorem gy_p {su : Nat → Nat → Int} {sh : Nat → Int} : ∀ i k, k < gy_c su sh i → gy_w su sh i k < i ∧ sh (gy_w su sh i k) ≠ -1 ∧ su (gy_w su sh i k) (sh (gy_w su sh i k)).toNat ≠ 1 := by
  intro i
  induction i with
  | zero => intro k hk; rw [gy_c] at hk; omega
  | succ i ih =>
    intro k hk
    rw [gy_c] at hk
    rw [gy_w]
    by_cases q : sh i ≠ -1 ∧ su i (sh i).toNat ≠ 1
    · rw [if_pos q] at hk ⊢
      unfold upn
      by_cases e : k = gy_c su sh i
      · rw [if_pos e]; exact ⟨by omega, q.1, q.2⟩
      · rw [if_neg e]; have := ih k (by omega); exact ⟨by omega, this.2⟩
    · rw [if_neg q] at hk ⊢; have := ih k (by omega); exact ⟨by omega, this.2⟩
def px_v (su : Nat → Nat → Int) (sh : Nat → Int) (wl : Nat → Nat) (c k s : Nat) : Int := if k < c ∧ su (wl k) s = 1 then pz_v (sh (wl k)).toNat k s else 4611686018427387904
theorem bp_cg {G G1 : mm_T} {c : Nat} {wl hm wl' hm' : Nat → Nat} {p p' : Nat → Nat → Int} {r r' : Nat → Int} (h : bp_F G G1 c wl hm p r) (e1 : ∀ k, k < c → wl k = wl' k ∧ hm k = hm' k) (e2 : ∀ k s, k < 10 → s < 24 → p k s = p' k s) (e3 : ∀ s, s < 24 → r s = r' s) : bp_F G G1 c wl' hm' p' r' := by
  obtain ⟨h1, h2, h3, h4, h5, h6, h7⟩ := h
  exact ⟨h1, h2, h3, h4, fun k hk => by rw [← (e1 k hk).1, ← (e1 k hk).2]; exact h5 k hk, fun s hs => by rw [← e3 s hs]; exact h6 s hs, fun k s hk hs => by rw [← e2 k s hk hs]; exact h7 k s hk hs⟩
def ps_F (G G1 : mm_T) (k : Nat) : Prop := (mm_R G1 = mm_R G ∧ mm_A G1 = mm_A G) ∧ (∀ b j, ¬ (b = 24 ∧ j = 8) → b ≠ 29 → mm_I G1 b j = mm_I G b j) ∧ (∀ b j, b ≠ 28 → mm_J G1 b j = mm_J G b j) ∧ mm_I G1 24 8 = 0 ∧ (∀ s, s < k → mm_I G1 29 s = 4 - mm_I G 4 s) ∧ ∀ j, j < 240 → mm_J G1 28 j = 4611686018427387904
theorem lp_start (X : gx_T) (d : Nat) {G : mm_T} (hF : fx_R G) (hl : ∀ s, s < 24 → 0 ≤ mm_I G 4 s ∧ mm_I G 4 s ≤ 4) : ∀ m k G1, k + m = 24 → ps_F G G1 k → aw_W X mt_Pl_start (d + 3) 17 [(0, some (av_r (some 24))), (1, some (av_r (some 1))), (2, some (av_i (k : Int)))] [] G1 0 0 (fun r G' => r = none ∧ ps_F G G' 24) := by
  intro m
  induction m with
  | zero =>
    intro k G1 hk h
    have hk : k = 24 := by omega
    subst hk
    refine ar_iload_n (pc := 17) d_Pl_start_17 rfl ?_
    refine ar_bipush (pc := 18) d_Pl_start_18 (by decide) ?_
    refine ar_icmp_ge (pc := 20) 40 d_Pl_start_20 (by decide) ⟨by omega, by omega⟩ ⟨by omega, by omega⟩ (fun h_20 => ?_) (fun h_20 => by exfalso; omega)
    refine ar_ret (pc := 40) d_Pl_start_40 rfl ?_
    rotate_left
    -- leaves: ret 40
    · exact ⟨rfl, h⟩
  | succ m ih =>
    intro k G1 hk h
    obtain ⟨h1, h2, h3, h4, h5, h6⟩ := h
    have hFG := hF
    clear hF
    have hF : fx_R G1 := fun x k b q => by rw [h1.1]; exact hFG x k b q
    have c30 := cm_Sh_roomAt X d G1 (s := (k : Int)) hF ⟨by omega, by omega⟩
    have lk := hl k (by omega)
    rw [if_pos (by omega), Int.toNat_natCast, h2 4 k (by omega) (by omega)] at c30
    have i1 := ih (k + 1) (ms_I G1 29 k (4 - mm_I G 4 k)) (by omega) (by
      refine ⟨h1, fun b j b1 b2 => ?_, h3, ?_, fun s hs => ?_, h6⟩
      · rw [mi_n (by omega)]; exact h2 b j b1 b2
      · rw [mi_n (by omega)]; exact h4
      · by_cases e : s = k
        · rw [e, mi_s]
        · rw [mi_n (by omega)]; exact h5 s (by omega))
    clear ih h2 h3 h5 h6 hl
    refine ar_iload_n (pc := 17) d_Pl_start_17 rfl ?_
    refine ar_bipush (pc := 18) d_Pl_start_18 (by decide) ?_
    refine ar_icmp_ge (pc := 20) 40 d_Pl_start_20 (by decide) ⟨by omega, by omega⟩ ⟨by omega, by omega⟩ (fun h_20 => by exfalso; omega) (fun h_20 => ?_)
    refine ar_aload_n (pc := 23) d_Pl_start_23 rfl ?_
    refine ar_getR (pc := 24) gf_Pl_25 d_Pl_start_24 (by first | rfl | exact sh_wheel (by omega) | exact sh_milk (by omega)) (hF _ _ _ rfl) ?_
    refine ar_iload_n (pc := 27) d_Pl_start_27 rfl ?_
    refine ar_aload_n (pc := 28) d_Pl_start_28 rfl ?_
    refine ar_iload_n (pc := 29) d_Pl_start_29 rfl ?_
    refine ac_virt (pc := 30) (N := mt_Sh_roomAt) _ _ mv_Sh_roomAt ml_Pl_49 ck_6 d_Pl_start_30 c30 (by first | rfl | exact sh_wheel (by omega) | exact sh_milk (by omega)) rfl rfl (Nat.le_of_ble_eq_true rfl) (Nat.le_of_eq (Nat.zero_add _)) (Nat.le_of_eq (Nat.zero_add _)) (fun r_30 G_30 h_30 => ?_)
    obtain ⟨rfl, e_30⟩ := h_30
    subst G_30
    refine ar_iast (pc := 33) d_Pl_start_33 rfl (k) (by omega) (by omega) ⟨by omega, by omega⟩ ?_
    refine ar_iinc (pc := 34) d_Pl_start_34 rfl rfl (by decide) ?_
    refine ar_goto (pc := 37) 17 d_Pl_start_37 (by decide) ?_
    rotate_left
    -- leaves: stop 17
    · exact ar_loc i1 ⟨rfl, rfl, li_i rfl (by omega), trivial⟩
theorem cm_Pl_start (X : gx_T) (d : Nat) {G : mm_T} (hF : fx_R G) (hl : ∀ s, s < 24 → 0 ≤ mm_I G 4 s ∧ mm_I G 4 s ≤ 4) : aw_M X (d + 3) mt_Pl_start [av_r (some 24), av_r (some 1)] G 0 0 (fun r G' => r = none ∧ ps_F G G' 24) := by
  have c12 := cm_JA_fill_J X (d + 1) (ms_I G 24 8 0) (a := 28) (N := 240) (v := 4611686018427387904) rfl ⟨by omega, by omega⟩
  have lp := lp_start X d hF hl 24 0 (ms_FJ (ms_I G 24 8 0) 28 240 4611686018427387904) (by omega) (by
    refine ⟨⟨rfl, rfl⟩, fun b j b1 b2 => ?_, fun b j hb => ?_, ?_, fun s hs => by omega, fun j hj => ?_⟩
    · show mm_I (ms_I G 24 8 0) b j = _; rw [mi_n b1]
    · show (if b = 28 ∧ j < 240 then 4611686018427387904 else mm_J G b j) = _; rw [if_neg (fun q => hb q.1)]
    · exact mi_s G 24 8 0
    · show (if 28 = 28 ∧ j < 240 then 4611686018427387904 else mm_J G 28 j) = _; rw [if_pos ⟨rfl, hj⟩])
  refine aw_enter pf_Pl_start (Nat.le_of_ble_eq_true rfl) ?_
  refine ar_aload_n (pc := 0) d_Pl_start_0 rfl ?_
  refine ar_iconst (pc := 1) d_Pl_start_1 ?_
  refine ar_putI (pc := 2) gf_Pl_37 d_Pl_start_2 rfl (by first | rfl | exact sh_wheel (by omega) | exact sh_milk (by omega)) ⟨by omega, by omega⟩ ?_
  refine ar_aload_n (pc := 5) d_Pl_start_5 rfl ?_
  refine ar_getR (pc := 6) gf_Pl_21 d_Pl_start_6 (by first | rfl | exact sh_wheel (by omega) | exact sh_milk (by omega)) (hF _ _ _ rfl) ?_
  refine ar_ldc2 (pc := 9) (4611686018427387904) kj_Pl_41 d_Pl_start_9 (by decide) ?_
  refine ac_stat (pc := 12) (N := mt_JA_fill_J) _ _ sv_JA_fill_J ml_Pl_43 d_Pl_start_12 c12 rfl rfl (Nat.le_of_ble_eq_true rfl) (Nat.le_of_eq (Nat.zero_add _)) (Nat.le_of_eq (Nat.zero_add _)) (fun r_12 G_12 h_12 => ?_)
  obtain ⟨rfl, e_12⟩ := h_12
  subst G_12
  refine ar_iconst (pc := 15) d_Pl_start_15 ?_
  refine ar_istore_n (pc := 16) d_Pl_start_16 rfl (by decide) ?_
  rotate_left
  -- leaves: stop 17
  · exact ar_loc lp ⟨rfl, rfl, rfl, trivial⟩
/-- what plan of the class comes to -/
def kp_P (G : mm_T) (wc : Nat) (su : Nat → Nat → Int) (sh r0 : Nat → Int) (rr : Option av_T) (G' : mm_T) : Prop := (10 < gy_c su sh wc ∧ rr = some (av_i (-3)) ∧ ∃ c wl hm p r, bp_F G G' c wl hm p r) ∨ (gy_c su sh wc ≤ 10 ∧ ∃ G1, bp_F G G1 (gy_c su sh wc) (gy_w su sh wc) (fun k => (sh (gy_w su sh wc k)).toNat) (px_v su sh (gy_w su sh wc) (gy_c su sh wc)) (gy_r su sh r0 wc) ∧ fb_P G1 (px_v su sh (gy_w su sh wc) (gy_c su sh wc)) (gy_r su sh r0 wc) (gy_w su sh wc) (fun k => (sh (gy_w su sh wc k)).toNat) (gy_c su sh wc) rr G')
theorem lp_K_plan (X : gx_T) (d : Nat) {G : mm_T} {wc : Nat} {su : Nat → Nat → Int} {sh r0 : Nat → Int} (hK : kw_I G wc) (hsu : su = su_x G) (hsh : sh = fun w => mm_I G (300 + w) 4) (hr0 : r0 = fun s => 4 - mm_I G 4 s) : ∀ m i G1, i + m = wc → gy_c su sh i ≤ 10 → bp_F G G1 (gy_c su sh i) (gy_w su sh i) (fun k => (sh (gy_w su sh i k)).toNat) (px_v su sh (gy_w su sh i) (gy_c su sh i)) (gy_r su sh r0 i) → aw_W X mt_K_plan (d + 6) 13 [(0, some (av_r (some 0))), (1, some (av_i (i : Int)))] [] G1 0 0 (kp_P G wc su sh r0) := by
  have w40 := hK.2.2.1.2
  have hrr := gy_rr (su := su) (sh := sh) (r0 := r0) (fun s hs => by have := hK.2.2.2.2.2 s hs; rw [hr0]; show 0 ≤ 4 - mm_I G 4 s ∧ 4 - mm_I G 4 s ≤ 4; omega)
  intro m
  induction m with
  | zero =>
    intro i G1 hi hc hb
    have hi : i = wc := by omega
    subst hi
    have hK1 := kw_bp hK hb
    have e14 := hK1.2.2.1.1
    have hF := hK1.1
    have hgp := gy_p (su := su) (sh := sh) i
    have hshr : ∀ w, w < i → -1 ≤ sh w ∧ sh w ≤ 23 := fun w hw => by rw [hsh]; exact (hK.2.2.2.1 w hw).2.1
    have c71 := cm_Pl_findBest X (d + 2) (G := G1) (p := px_v su sh (gy_w su sh i) (gy_c su sh i)) (r := gy_r su sh r0 i) (wl := gy_w su sh i) (hm := fun k => (sh (gy_w su sh i k)).toNat) hF hb.2.2.2.1 hc (fun k s hk hs => by
        unfold px_v
        split
        · right
          obtain ⟨g1, g2, g3⟩ := hgp k hk
          have := hshr _ g1
          exact pz_r (by omega) hs
        · exact Or.inl rfl) (fun s hs => by have := hrr i s hs; omega) (fun k hk => ⟨(hb.2.2.2.2.1 k hk).1, by have := (hgp k hk).1; omega⟩) (fun k hk => ⟨(hb.2.2.2.2.1 k hk).2, by have := hshr _ (hgp k hk).1; omega⟩) (fun k s hk hs => hb.2.2.2.2.2.2 k s (by omega) hs) hb.2.2.2.2.2.1
    refine ar_iload_n (pc := 13) d_K_plan_13 rfl ?_
    refine ar_aload_n (pc := 14) d_K_plan_14 rfl ?_
    refine ar_getIv (pc := 15) gf_K_115 d_K_plan_15 (by first | rfl | exact sh_wheel (by omega) | exact sh_milk (by omega)) e14 (fun r_15 => ?_)
    refine ar_icmp_ge (pc := 18) 67 d_K_plan_18 (by decide) ⟨by omega, by omega⟩ ⟨by omega, by omega⟩ (fun h_18 => ?_) (fun h_18 => by exfalso; omega)
    refine ar_aload_n (pc := 67) d_K_plan_67 rfl ?_
    refine ar_getR (pc := 68) gf_K_52 d_K_plan_68 (by first | rfl | exact sh_wheel (by omega) | exact sh_milk (by omega)) (hF _ _ _ rfl) ?_
    refine ac_virt (pc := 71) (N := mt_Pl_findBest) _ _ mv_Pl_findBest ml_K_232 ck_4 d_K_plan_71 c71 (by first | rfl | exact sh_wheel (by omega) | exact sh_milk (by omega)) rfl rfl (Nat.le_of_ble_eq_true rfl) (Nat.le_of_eq (Nat.zero_add _)) (Nat.le_of_eq (Nat.zero_add _)) (fun r_71 G_71 h_71 => ?_)
    rotate_left
    -- leaves: stop 74
    · obtain ⟨x, rfl⟩ : ∃ x, r_71 = some (av_i x) := by
        rcases h_71 with ⟨a, y, G2, -, -, e, -⟩ | ⟨e, -⟩
        · exact ⟨_, e⟩
        · exact ⟨_, e⟩
      refine ar_iret (pc := 74) d_K_plan_74 rfl ?_
      rotate_left
      -- leaves: ret 74
      · exact Or.inr ⟨hc, G1, hb, h_71⟩
  | succ m ih =>
    intro i G1 hi hc hb
    have hK1 := kw_bp hK hb
    have e14 := hK1.2.2.1.1
    have hF := hK1.1
    have hi40 : i < 40 := by omega
    have hlw := cm_K_lyingWheel X (d + 3) G1 (m := (i : Int)) hF hK1.2.1 ⟨by omega, by omega⟩
    rw [Int.toNat_natCast] at hlw
    have hshi : sh i = mm_I G (300 + i) 4 := by rw [hsh]
    have e4 : mm_I G1 (300 + i) 4 = sh i := by rw [hshi, hb.2.1 _ _ (by omega) (by omega) (by omega) (by omega)]
    have hr4 := (hK.2.2.2.1 i (by omega)).2.1
    rw [← hshi] at hr4
    have i1 := fun G2 => ih (i + 1) G2 (by omega)
    clear ih
    rw [gy_c, gy_w, gy_r] at i1
    have mono := gy_m (su := su) (sh := sh) m (i + 1)
    rw [gy_c, show i + 1 + m = wc by omega] at mono
    by_cases hs1 : sh i = -1
    · rw [if_neg (by omega)] at hlw
      rw [if_neg (fun q => q.1 hs1), if_neg (fun q => q.1 hs1), if_neg (fun q => q.1 hs1)] at i1
      have g := i1 G1 (by omega) hb
      clear i1
      refine ar_iload_n (pc := 13) d_K_plan_13 rfl ?_
      refine ar_aload_n (pc := 14) d_K_plan_14 rfl ?_
      refine ar_getIv (pc := 15) gf_K_115 d_K_plan_15 (by first | rfl | exact sh_wheel (by omega) | exact sh_milk (by omega)) e14 (fun r_15 => ?_)
      refine ar_icmp_ge (pc := 18) 67 d_K_plan_18 (by decide) ⟨by omega, by omega⟩ ⟨by omega, by omega⟩ (fun h_18 => by exfalso; omega) (fun h_18 => ?_)
      refine ar_aload_n (pc := 21) d_K_plan_21 rfl ?_
      refine ar_iload_n (pc := 22) d_K_plan_22 rfl ?_
      refine ac_virt (pc := 23) (N := mt_K_lyingWheel) _ _ mv_K_lyingWheel ml_K_125 ck_11 d_K_plan_23 hlw (by first | rfl | exact sh_wheel (by omega) | exact sh_milk (by omega)) rfl rfl (Nat.le_of_ble_eq_true rfl) (Nat.le_of_eq (Nat.zero_add _)) (Nat.le_of_eq (Nat.zero_add _)) (fun r_23 G_23 h_23 => ?_)
      obtain ⟨rfl, e_23⟩ := h_23
      subst G_23
      refine ar_astore_n (pc := 26) d_K_plan_26 rfl (by decide) ?_
      refine ar_aload_n (pc := 27) d_K_plan_27 rfl ?_
      refine ar_ifnull (pc := 28) 61 d_K_plan_28 (by decide) (fun _ => ?_) (fun _ h => by cases h)
      refine ar_iinc (pc := 61) d_K_plan_61 rfl rfl (by decide) ?_
      refine ar_goto (pc := 64) 13 d_K_plan_64 (by decide) ?_
      rotate_left
      -- leaves: stop 13
      · exact ar_loc g ⟨rfl, li_i rfl (by omega), trivial⟩
    · rw [if_pos (by omega)] at hlw
      obtain ⟨h, hh⟩ : ∃ h : Nat, sh i = h := ⟨(sh i).toNat, by omega⟩
      have hh24 : h < 24 := by omega
      have c37 := cm_K_suit1 X (d + 1) hK1 (w := i) (s := h) (by omega) hh24
      rw [su_bp hb, ← hsu] at c37
      have htn : (sh i).toNat = h := by omega
      rw [htn] at i1 mono
      have s01 : su i h = 0 ∨ su i h = 1 := by rw [hsu]; exact su_01 G i h
      rw [hh] at e4
      by_cases hs2 : su i h = 1
      · rw [if_neg (fun q => q.2 hs2), if_neg (fun q => q.2 hs2), if_neg (fun q => q.2 hs2)] at i1
        have g := i1 G1 (by omega) hb
        clear i1
        rw [hs2] at c37
        refine ar_iload_n (pc := 13) d_K_plan_13 rfl ?_
        refine ar_aload_n (pc := 14) d_K_plan_14 rfl ?_
        refine ar_getIv (pc := 15) gf_K_115 d_K_plan_15 (by first | rfl | exact sh_wheel (by omega) | exact sh_milk (by omega)) e14 (fun r_15 => ?_)
        refine ar_icmp_ge (pc := 18) 67 d_K_plan_18 (by decide) ⟨by omega, by omega⟩ ⟨by omega, by omega⟩ (fun h_18 => by exfalso; omega) (fun h_18 => ?_)
        refine ar_aload_n (pc := 21) d_K_plan_21 rfl ?_
        refine ar_iload_n (pc := 22) d_K_plan_22 rfl ?_
        refine ac_virt (pc := 23) (N := mt_K_lyingWheel) _ _ mv_K_lyingWheel ml_K_125 ck_11 d_K_plan_23 hlw (by first | rfl | exact sh_wheel (by omega) | exact sh_milk (by omega)) rfl rfl (Nat.le_of_ble_eq_true rfl) (Nat.le_of_eq (Nat.zero_add _)) (Nat.le_of_eq (Nat.zero_add _)) (fun r_23 G_23 h_23 => ?_)
        obtain ⟨rfl, e_23⟩ := h_23
        subst G_23
        refine ar_astore_n (pc := 26) d_K_plan_26 rfl (by decide) ?_
        refine ar_aload_n (pc := 27) d_K_plan_27 rfl ?_
        refine ar_ifnull (pc := 28) 61 d_K_plan_28 (by decide) (fun h => by cases h) (fun _ _ => ?_)
        refine ar_aload_n (pc := 31) d_K_plan_31 rfl ?_
        refine ar_aload_n (pc := 32) d_K_plan_32 rfl ?_
        refine ar_aload_n (pc := 33) d_K_plan_33 rfl ?_
        refine ar_getIv (pc := 34) gf_K_138 d_K_plan_34 (by first | rfl | exact sh_wheel (by omega) | exact sh_milk (by omega)) e4 (fun r_34 => ?_)
        refine ac_virt (pc := 37) (N := mt_K_isSuited) _ _ mv_K_isSuited ml_K_195 ck_11 d_K_plan_37 c37 (by first | rfl | exact sh_wheel (by omega) | exact sh_milk (by omega)) rfl rfl (Nat.le_of_ble_eq_true rfl) (Nat.le_of_eq (Nat.zero_add _)) (Nat.le_of_eq (Nat.zero_add _)) (fun r_37 G_37 h_37 => ?_)
        obtain ⟨rfl, e_37⟩ := h_37
        subst G_37
        refine ar_if_ne (pc := 40) 61 d_K_plan_40 (by decide) ⟨by omega, by omega⟩ (fun h_40 => ?_) (fun h_40 => by exfalso; omega)
        refine ar_iinc (pc := 61) d_K_plan_61 rfl rfl (by decide) ?_
        refine ar_goto (pc := 64) 13 d_K_plan_64 (by decide) ?_
        rotate_left
        -- leaves: stop 13
        · exact ar_loc g ⟨rfl, li_i rfl (by omega), trivial⟩
      · rw [if_pos ⟨hs1, hs2⟩] at mono
        rw [if_pos ⟨hs1, hs2⟩, if_pos ⟨hs1, hs2⟩, if_pos ⟨hs1, hs2⟩] at i1
        have hs0 : su i h = 0 := by omega
        rw [hs0] at c37
        have c47 := cm_Pl_isFull X (d + 4) G1
        rw [hb.2.2.2.1] at c47
        by_cases h10 : gy_c su sh i = 10
        · rw [if_pos (by omega)] at c47
          clear i1
          refine ar_iload_n (pc := 13) d_K_plan_13 rfl ?_
          refine ar_aload_n (pc := 14) d_K_plan_14 rfl ?_
          refine ar_getIv (pc := 15) gf_K_115 d_K_plan_15 (by first | rfl | exact sh_wheel (by omega) | exact sh_milk (by omega)) e14 (fun r_15 => ?_)
          refine ar_icmp_ge (pc := 18) 67 d_K_plan_18 (by decide) ⟨by omega, by omega⟩ ⟨by omega, by omega⟩ (fun h_18 => by exfalso; omega) (fun h_18 => ?_)
          refine ar_aload_n (pc := 21) d_K_plan_21 rfl ?_
          refine ar_iload_n (pc := 22) d_K_plan_22 rfl ?_
          refine ac_virt (pc := 23) (N := mt_K_lyingWheel) _ _ mv_K_lyingWheel ml_K_125 ck_11 d_K_plan_23 hlw (by first | rfl | exact sh_wheel (by omega) | exact sh_milk (by omega)) rfl rfl (Nat.le_of_ble_eq_true rfl) (Nat.le_of_eq (Nat.zero_add _)) (Nat.le_of_eq (Nat.zero_add _)) (fun r_23 G_23 h_23 => ?_)
          obtain ⟨rfl, e_23⟩ := h_23
          subst G_23
          refine ar_astore_n (pc := 26) d_K_plan_26 rfl (by decide) ?_
          refine ar_aload_n (pc := 27) d_K_plan_27 rfl ?_
          refine ar_ifnull (pc := 28) 61 d_K_plan_28 (by decide) (fun h => by cases h) (fun _ _ => ?_)
          refine ar_aload_n (pc := 31) d_K_plan_31 rfl ?_
          refine ar_aload_n (pc := 32) d_K_plan_32 rfl ?_
          refine ar_aload_n (pc := 33) d_K_plan_33 rfl ?_
          refine ar_getIv (pc := 34) gf_K_138 d_K_plan_34 (by first | rfl | exact sh_wheel (by omega) | exact sh_milk (by omega)) e4 (fun r_34 => ?_)
          refine ac_virt (pc := 37) (N := mt_K_isSuited) _ _ mv_K_isSuited ml_K_195 ck_11 d_K_plan_37 c37 (by first | rfl | exact sh_wheel (by omega) | exact sh_milk (by omega)) rfl rfl (Nat.le_of_ble_eq_true rfl) (Nat.le_of_eq (Nat.zero_add _)) (Nat.le_of_eq (Nat.zero_add _)) (fun r_37 G_37 h_37 => ?_)
          obtain ⟨rfl, e_37⟩ := h_37
          subst G_37
          refine ar_if_ne (pc := 40) 61 d_K_plan_40 (by decide) ⟨by omega, by omega⟩ (fun h_40 => by exfalso; omega) (fun h_40 => ?_)
          refine ar_aload_n (pc := 43) d_K_plan_43 rfl ?_
          refine ar_getR (pc := 44) gf_K_52 d_K_plan_44 (by first | rfl | exact sh_wheel (by omega) | exact sh_milk (by omega)) (hF _ _ _ rfl) ?_
          refine ac_virt (pc := 47) (N := mt_Pl_isFull) _ _ mv_Pl_isFull ml_K_225 ck_4 d_K_plan_47 c47 (by first | rfl | exact sh_wheel (by omega) | exact sh_milk (by omega)) rfl rfl (Nat.le_of_ble_eq_true rfl) (Nat.le_of_eq (Nat.zero_add _)) (Nat.le_of_eq (Nat.zero_add _)) (fun r_47 G_47 h_47 => ?_)
          obtain ⟨rfl, e_47⟩ := h_47
          subst G_47
          refine ar_if_eq (pc := 50) 56 d_K_plan_50 (by decide) ⟨by omega, by omega⟩ (fun h_50 => by exfalso; omega) (fun h_50 => ?_)
          refine ar_bipush (pc := 53) d_K_plan_53 (by decide) ?_
          refine ar_iret (pc := 55) d_K_plan_55 rfl ?_
          rotate_left
          -- leaves: ret 55
          · exact Or.inl ⟨by omega, rfl, _, _, _, _, _, hb⟩
        · rw [if_neg (by omega)] at c47
          have rb := hrr i h hh24
          have c58 := cm_K_askPlanFor X d (w := i) (h := h) hK (by omega) hb (by omega) (by rw [← hshi]; exact hh) hh24 (by omega)
          have g := fun G2 q => i1 G2 (by omega) q
          clear i1
          have conv : ∀ G2, bp_F G G2 (gy_c su sh i + 1) (upn (gy_w su sh i) (gy_c su sh i) i) (upn (fun k => (sh (gy_w su sh i k)).toNat) (gy_c su sh i) h) (pu_v (su_x G i) h (gy_c su sh i) 24 (px_v su sh (gy_w su sh i) (gy_c su sh i))) (upp (gy_r su sh r0 i) h (gy_r su sh r0 i h + 1)) → bp_F G G2 (gy_c su sh i + 1) (upn (gy_w su sh i) (gy_c su sh i) i) (fun k => (sh (upn (gy_w su sh i) (gy_c su sh i) i k)).toNat) (px_v su sh (upn (gy_w su sh i) (gy_c su sh i) i) (gy_c su sh i + 1)) (upp (gy_r su sh r0 i) h (gy_r su sh r0 i h + 1)) := by
            intro G2 q
            refine bp_cg q (fun k hk => ⟨rfl, ?_⟩) (fun k s hk hs => ?_) (fun s hs => rfl)
            · unfold upn
              by_cases e : k = gy_c su sh i
              · rw [if_pos e]; simp only [e, if_true]; omega
              · rw [if_neg e]; simp only [e, if_false]
            · rw [← hsu]
              unfold pu_v px_v
              by_cases e : k = gy_c su sh i
              · have eu : upn (gy_w su sh i) (gy_c su sh i) i k = i := by unfold upn; rw [if_pos e]
                rw [eu, htn]
                by_cases e2 : su i s = 1
                · rw [if_pos ⟨e, hs, e2⟩, if_pos ⟨by omega, e2⟩, e]
                · rw [if_neg (fun z => e2 z.2.2), if_neg (fun z => by omega), if_neg (fun z => e2 z.2)]
              · have eu : upn (gy_w su sh i) (gy_c su sh i) i k = gy_w su sh i k := by unfold upn; rw [if_neg e]
                rw [eu, if_neg (fun z => e z.1)]
                by_cases e2 : k < gy_c su sh i ∧ su (gy_w su sh i k) s = 1
                · rw [if_pos e2, if_pos ⟨by omega, e2.2⟩]
                · rw [if_neg e2, if_neg (fun z => e2 ⟨by omega, z.2⟩)]
          refine ar_iload_n (pc := 13) d_K_plan_13 rfl ?_
          refine ar_aload_n (pc := 14) d_K_plan_14 rfl ?_
          refine ar_getIv (pc := 15) gf_K_115 d_K_plan_15 (by first | rfl | exact sh_wheel (by omega) | exact sh_milk (by omega)) e14 (fun r_15 => ?_)
          refine ar_icmp_ge (pc := 18) 67 d_K_plan_18 (by decide) ⟨by omega, by omega⟩ ⟨by omega, by omega⟩ (fun h_18 => by exfalso; omega) (fun h_18 => ?_)
          refine ar_aload_n (pc := 21) d_K_plan_21 rfl ?_
          refine ar_iload_n (pc := 22) d_K_plan_22 rfl ?_
          refine ac_virt (pc := 23) (N := mt_K_lyingWheel) _ _ mv_K_lyingWheel ml_K_125 ck_11 d_K_plan_23 hlw (by first | rfl | exact sh_wheel (by omega) | exact sh_milk (by omega)) rfl rfl (Nat.le_of_ble_eq_true rfl) (Nat.le_of_eq (Nat.zero_add _)) (Nat.le_of_eq (Nat.zero_add _)) (fun r_23 G_23 h_23 => ?_)
          obtain ⟨rfl, e_23⟩ := h_23
          subst G_23
          refine ar_astore_n (pc := 26) d_K_plan_26 rfl (by decide) ?_
          refine ar_aload_n (pc := 27) d_K_plan_27 rfl ?_
          refine ar_ifnull (pc := 28) 61 d_K_plan_28 (by decide) (fun h => by cases h) (fun _ _ => ?_)
          refine ar_aload_n (pc := 31) d_K_plan_31 rfl ?_
          refine ar_aload_n (pc := 32) d_K_plan_32 rfl ?_
          refine ar_aload_n (pc := 33) d_K_plan_33 rfl ?_
          refine ar_getIv (pc := 34) gf_K_138 d_K_plan_34 (by first | rfl | exact sh_wheel (by omega) | exact sh_milk (by omega)) e4 (fun r_34 => ?_)
          refine ac_virt (pc := 37) (N := mt_K_isSuited) _ _ mv_K_isSuited ml_K_195 ck_11 d_K_plan_37 c37 (by first | rfl | exact sh_wheel (by omega) | exact sh_milk (by omega)) rfl rfl (Nat.le_of_ble_eq_true rfl) (Nat.le_of_eq (Nat.zero_add _)) (Nat.le_of_eq (Nat.zero_add _)) (fun r_37 G_37 h_37 => ?_)
          obtain ⟨rfl, e_37⟩ := h_37
          subst G_37
          refine ar_if_ne (pc := 40) 61 d_K_plan_40 (by decide) ⟨by omega, by omega⟩ (fun h_40 => by exfalso; omega) (fun h_40 => ?_)
          refine ar_aload_n (pc := 43) d_K_plan_43 rfl ?_
          refine ar_getR (pc := 44) gf_K_52 d_K_plan_44 (by first | rfl | exact sh_wheel (by omega) | exact sh_milk (by omega)) (hF _ _ _ rfl) ?_
          refine ac_virt (pc := 47) (N := mt_Pl_isFull) _ _ mv_Pl_isFull ml_K_225 ck_4 d_K_plan_47 c47 (by first | rfl | exact sh_wheel (by omega) | exact sh_milk (by omega)) rfl rfl (Nat.le_of_ble_eq_true rfl) (Nat.le_of_eq (Nat.zero_add _)) (Nat.le_of_eq (Nat.zero_add _)) (fun r_47 G_47 h_47 => ?_)
          obtain ⟨rfl, e_47⟩ := h_47
          subst G_47
          refine ar_if_eq (pc := 50) 56 d_K_plan_50 (by decide) ⟨by omega, by omega⟩ (fun h_50 => ?_) (fun h_50 => by exfalso; omega)
          refine ar_aload_n (pc := 56) d_K_plan_56 rfl ?_
          refine ar_aload_n (pc := 57) d_K_plan_57 rfl ?_
          refine ac_virt (pc := 58) (N := mt_K_askPlanFor) _ _ mv_K_askPlanFor ml_K_228 ck_11 d_K_plan_58 c58 (by first | rfl | exact sh_wheel (by omega) | exact sh_milk (by omega)) rfl rfl (Nat.le_of_ble_eq_true rfl) (Nat.le_of_eq (Nat.zero_add _)) (Nat.le_of_eq (Nat.zero_add _)) (fun r_58 G_58 h_58 => ?_)
          obtain ⟨rfl, q58⟩ := h_58
          refine ar_iinc (pc := 61) d_K_plan_61 rfl rfl (by decide) ?_
          refine ar_goto (pc := 64) 13 d_K_plan_64 (by decide) ?_
          rotate_left
          -- leaves: stop 13
          · exact ar_loc (g _ (conv _ q58)) ⟨rfl, li_i rfl (by omega), trivial⟩
theorem cm_K_plan (X : gx_T) (d : Nat) {G : mm_T} {wc : Nat} (hK : kw_I G wc) : aw_M X (d + 6) mt_K_plan [av_r (some 0)] G 0 0 (kp_P G wc (su_x G) (fun w => mm_I G (300 + w) 4) (fun s => 4 - mm_I G 4 s)) := by
  have lp := fun G1 q => lp_K_plan X d hK rfl rfl rfl wc 0 G1 (by omega) (by rw [gy_c]; omega) q
  have c8 := cm_Pl_start X (d + 2) hK.1 hK.2.2.2.2.2
  have hF := hK.1
  refine aw_enter pf_K_plan (Nat.le_of_ble_eq_true rfl) ?_
  refine ar_aload_n (pc := 0) d_K_plan_0 rfl ?_
  refine ar_getR (pc := 1) gf_K_52 d_K_plan_1 (by first | rfl | exact sh_wheel (by omega) | exact sh_milk (by omega)) (hF _ _ _ rfl) ?_
  refine ar_aload_n (pc := 4) d_K_plan_4 rfl ?_
  refine ar_getR (pc := 5) gf_K_10 d_K_plan_5 (by first | rfl | exact sh_wheel (by omega) | exact sh_milk (by omega)) (hF _ _ _ rfl) ?_
  refine ac_virt (pc := 8) (N := mt_Pl_start) _ _ mv_Pl_start ml_K_221 ck_4 d_K_plan_8 c8 (by first | rfl | exact sh_wheel (by omega) | exact sh_milk (by omega)) rfl rfl (Nat.le_of_ble_eq_true rfl) (Nat.le_of_eq (Nat.zero_add _)) (Nat.le_of_eq (Nat.zero_add _)) (fun r_8 G_8 h_8 => ?_)
  obtain ⟨rfl, q8⟩ := h_8
  refine ar_iconst (pc := 11) d_K_plan_11 ?_
  refine ar_istore_n (pc := 12) d_K_plan_12 rfl (by decide) ?_
  rotate_left
  -- leaves: stop 13
  · refine ar_loc (lp _ ?_) ⟨rfl, rfl, trivial⟩
    obtain ⟨h1, h2, h3, h4, h5, h6⟩ := q8
    refine ⟨h1, fun b j b1 b2 b3 b4 => h2 b j b1 b4, h3, h4, fun k hk => by rw [gy_c] at hk; omega, fun s hs => h5 s hs, fun k s hk hs => ?_⟩
    rw [h6 _ (by omega)]
    unfold px_v
    rw [if_neg (fun z => by have := z.1; rw [gy_c] at this; omega)]
