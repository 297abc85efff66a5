/-! ===== the planner: ways, spreading ===== -/
theorem ar_lge {X : gx_T} {M : mt_T} {d pc : Nat} {L : List (Nat × Option av_T)} {st : List av_T} {G : mm_T} {k n : Nat} {Q : Option av_T → mm_T → Prop} {x y off : Int} (t : Nat) (hd : decode M.2.1 pc = .ok (.lcmp, 1)) (hd2 : decode M.2.1 (pc + 1) = .ok (.ifCond .ge off, 3)) (ht : ((pc + 1 : Nat) : Int) + off = (t : Int)) (hxr : j6_in x) (hyr : j6_in y) (kt : y ≤ x → aw_W X M d t L st G k n Q) (kf : x < y → aw_W X M d (pc + 4) L st G k n Q) : aw_W X M d pc L (av_l y :: av_l x :: st) G k n Q := by
  refine ar_lcmp hd hxr hyr ?_
  by_cases h1 : y < x
  · rw [if_pos h1]; exact ar_if_ge t hd2 ht ⟨by omega, by omega⟩ (fun _ => kt (by omega)) (fun q => by omega)
  · rw [if_neg h1]
    by_cases h2 : x = y
    · rw [if_pos h2]; exact ar_if_ge t hd2 ht ⟨by omega, by omega⟩ (fun _ => kt (by omega)) (fun q => by omega)
    · rw [if_neg h2]; exact ar_if_ge t hd2 ht ⟨by omega, by omega⟩ (fun q => by omega) (fun _ => kf (by omega))
theorem ar_llt {X : gx_T} {M : mt_T} {d pc : Nat} {L : List (Nat × Option av_T)} {st : List av_T} {G : mm_T} {k n : Nat} {Q : Option av_T → mm_T → Prop} {x y off : Int} (t : Nat) (hd : decode M.2.1 pc = .ok (.lcmp, 1)) (hd2 : decode M.2.1 (pc + 1) = .ok (.ifCond .lt off, 3)) (ht : ((pc + 1 : Nat) : Int) + off = (t : Int)) (hxr : j6_in x) (hyr : j6_in y) (kt : x < y → aw_W X M d t L st G k n Q) (kf : y ≤ x → aw_W X M d (pc + 4) L st G k n Q) : aw_W X M d pc L (av_l y :: av_l x :: st) G k n Q := by
  refine ar_lcmp hd hxr hyr ?_
  by_cases h1 : y < x
  · rw [if_pos h1]; exact ar_if_lt t hd2 ht ⟨by omega, by omega⟩ (fun q => by omega) (fun _ => kf (by omega))
  · rw [if_neg h1]
    by_cases h2 : x = y
    · rw [if_pos h2]; exact ar_if_lt t hd2 ht ⟨by omega, by omega⟩ (fun q => by omega) (fun _ => kf (by omega))
    · rw [if_neg h2]; exact ar_if_lt t hd2 ht ⟨by omega, by omega⟩ (fun _ => kt (by omega)) (fun q => by omega)
def wy_v (h s : Nat) : Int := 20 * (if h / 6 < s / 6 then (s / 6 : Nat) - (h / 6 : Nat) else (h / 6 : Nat) - (s / 6 : Nat) : Int) + (if h % 6 < s % 6 then (s % 6 : Nat) - (h % 6 : Nat) else (h % 6 : Nat) - (s % 6 : Nat) : Int)
theorem wy_r {h s : Nat} (hh : h < 24) (hs : s < 24) : 0 ≤ wy_v h s ∧ wy_v h s ≤ 65 := by unfold wy_v; split <;> split <;> omega
theorem cm_Pl_way (X : gx_T) (d : Nat) (G : mm_T) {h s : Nat} (hh : h < 24) (hs : s < 24) : aw_M X (d + 2) mt_Pl_wayBetween [av_i (h : Int), av_i (s : Int)] G 0 0 (fun r G' => r = some (av_i (wy_v h s)) ∧ G' = G) := by
  have c9 := cm_JM_abs X d G (v := (h : Int) / 6 - (s : Int) / 6) ⟨by omega, by omega⟩
  have c22 := cm_JM_abs X d G (v := (h : Int) % 6 - (s : Int) % 6) ⟨by omega, by omega⟩
  refine aw_enter pf_Pl_wayBetween (Nat.le_of_ble_eq_true rfl) ?_
  refine ar_iload_n (pc := 0) d_Pl_wayBetween_0 rfl ?_
  refine ar_bipush (pc := 1) d_Pl_wayBetween_1 (by decide) ?_
  refine ar_idivp (pc := 3) d_Pl_wayBetween_3 (by omega) (by omega) (by omega) (by omega) ?_
  refine ar_iload_n (pc := 4) d_Pl_wayBetween_4 rfl ?_
  refine ar_bipush (pc := 5) d_Pl_wayBetween_5 (by decide) ?_
  refine ar_idivp (pc := 7) d_Pl_wayBetween_7 (by omega) (by omega) (by omega) (by omega) ?_
  refine ar_isub (pc := 8) d_Pl_wayBetween_8 ?_
  refine ac_stat (pc := 9) (N := mt_JM_abs) _ _ sv_JM_abs ml_Pl_88 d_Pl_wayBetween_9 c9 rfl rfl (Nat.le_of_ble_eq_true rfl) (Nat.le_of_eq (Nat.zero_add _)) (Nat.le_of_eq (Nat.zero_add _)) (fun r_9 G_9 h_9 => ?_)
  obtain ⟨rfl, e_9⟩ := h_9
  subst G_9
  refine ar_istore_n (pc := 12) d_Pl_wayBetween_12 rfl (by decide) ?_
  refine ar_iload_n (pc := 13) d_Pl_wayBetween_13 rfl ?_
  refine ar_bipush (pc := 14) d_Pl_wayBetween_14 (by decide) ?_
  refine ar_irem (pc := 16) d_Pl_wayBetween_16 (by omega) (by omega) (by omega) (by omega) ?_
  refine ar_iload_n (pc := 17) d_Pl_wayBetween_17 rfl ?_
  refine ar_bipush (pc := 18) d_Pl_wayBetween_18 (by decide) ?_
  refine ar_irem (pc := 20) d_Pl_wayBetween_20 (by omega) (by omega) (by omega) (by omega) ?_
  refine ar_isub (pc := 21) d_Pl_wayBetween_21 ?_
  refine ac_stat (pc := 22) (N := mt_JM_abs) _ _ sv_JM_abs ml_Pl_88 d_Pl_wayBetween_22 c22 rfl rfl (Nat.le_of_ble_eq_true rfl) (Nat.le_of_eq (Nat.zero_add _)) (Nat.le_of_eq (Nat.zero_add _)) (fun r_22 G_22 h_22 => ?_)
  obtain ⟨rfl, e_22⟩ := h_22
  subst G_22
  refine ar_istore_n (pc := 25) d_Pl_wayBetween_25 rfl (by decide) ?_
  refine ar_bipush (pc := 26) d_Pl_wayBetween_26 (by decide) ?_
  refine ar_iload_n (pc := 28) d_Pl_wayBetween_28 rfl ?_
  refine ar_imul (pc := 29) d_Pl_wayBetween_29 ?_
  refine ar_iload_n (pc := 30) d_Pl_wayBetween_30 rfl ?_
  refine ar_iadd (pc := 31) d_Pl_wayBetween_31 ?_
  refine ar_iret (pc := 32) d_Pl_wayBetween_32 rfl ?_
  rotate_left
  -- leaves: ret 32
  · refine ⟨congrArg (fun x => some (av_i x)) ?_, rfl⟩
    unfold wy_v
    by_cases q1 : h / 6 < s / 6
    · rw [if_pos q1, if_neg (show ¬ 0 ≤ (h : Int) / 6 - (s : Int) / 6 by omega)]
      by_cases q2 : h % 6 < s % 6
      · rw [if_pos q2, if_neg (show ¬ 0 ≤ (h : Int) % 6 - (s : Int) % 6 by omega)]; omega
      · rw [if_neg q2, if_pos (show 0 ≤ (h : Int) % 6 - (s : Int) % 6 by omega)]; omega
    · rw [if_neg q1, if_pos (show 0 ≤ (h : Int) / 6 - (s : Int) / 6 by omega)]
      by_cases q2 : h % 6 < s % 6
      · rw [if_pos q2, if_neg (show ¬ 0 ≤ (h : Int) % 6 - (s : Int) % 6 by omega)]; omega
      · rw [if_neg q2, if_pos (show 0 ≤ (h : Int) % 6 - (s : Int) % 6 by omega)]; omega
/-- reach and comer as they stand; all else as before -/
def pw_F (G G1 : mm_T) (D C : Nat → Int) : Prop := (mm_R G1 = mm_R G ∧ mm_A G1 = mm_A G) ∧ (∀ b j, b ≠ 31 → mm_I G1 b j = mm_I G b j) ∧ (∀ b j, b ≠ 30 → mm_J G1 b j = mm_J G b j) ∧ (∀ s, s < 24 → mm_J G1 30 s = D s) ∧ ∀ s, s < 24 → mm_I G1 31 s = C s
theorem mj_sn (G : mm_T) {a k b j : Nat} (v : Int) (h : ¬ (b = a ∧ j = k)) : mm_J (ms_J G a k v) b j = mm_J G b j := by
  show (if b = a ∧ j = k then v else mm_J G b j) = _
  rw [if_neg h]
theorem mj_ss (G : mm_T) (a k : Nat) (v : Int) : mm_J (ms_J G a k v) a k = v := by
  show (if a = a ∧ k = k then v else mm_J G a k) = _
  rw [if_pos ⟨rfl, rfl⟩]
theorem pw_u {G G1 : mm_T} {D C : Nat → Int} (h : pw_F G G1 D C) (s : Nat) (x c : Int) : pw_F G (ms_I (ms_J G1 30 s x) 31 s c) (upp D s x) (upp C s c) := by
  obtain ⟨h1, h2, h3, h4, h5⟩ := h
  refine ⟨h1, fun b j hb => ?_, fun b j hb => ?_, fun t ht => ?_, fun t ht => ?_⟩
  · rw [mi_n (fun q => hb q.1)]; exact h2 b j hb
  · show mm_J (ms_J G1 30 s x) b j = _
    rw [mj_sn _ _ (fun q => hb q.1)]; exact h3 b j hb
  · show mm_J (ms_J G1 30 s x) 30 t = _
    unfold upp
    by_cases e : t = s
    · rw [if_pos e, e, mj_ss]
    · rw [if_neg e, mj_sn _ _ (by omega)]; exact h4 t ht
  · unfold upp
    by_cases e : t = s
    · rw [if_pos e, e, mi_s]
    · rw [if_neg e, mi_n (by omega)]; exact h5 t ht
section
variable {G : mm_T} {n : Nat} {p : Nat → Nat → Int} {a : Nat → Nat} {Jv : Nat → Nat → (Nat → Int) → (Nat → Int) → Int → Prop}
def sp_H (G : mm_T) (n : Nat) (p : Nat → Nat → Int) (a : Nat → Nat) (Jv : Nat → Nat → (Nat → Int) → (Nat → Int) → Int → Prop) : Prop :=
  (n ≤ 9 ∧ fx_R G) ∧ (∀ o s, o < n → s < 24 → mm_J G 28 (24 * o + s) = p o s) ∧ (∀ o, o < n → mm_I G 27 o = (a o : Nat) ∧ a o < 24) ∧
  (∀ o s D C b, o < n → s < 24 → Jv o s D C b → D (a o) ≠ 4611686018427387904 → p o s ≠ 4611686018427387904 → j6_in (D (a o) - p o (a o) + p o s)) ∧
  (∀ o s D C b, Jv o s D C b → b = 0 ∨ b = 1) ∧
  (∀ o s D C b, o < n → s < 24 → Jv o s D C b → rx_c p a o s D → Jv o (s + 1) (upp D s (D (a o) - p o (a o) + p o s)) (upp C s o) 1) ∧
  (∀ o s D C b, o < n → s < 24 → Jv o s D C b → ¬ rx_c p a o s D → Jv o (s + 1) D C b) ∧
  ∀ o D C b, o < n → Jv o 24 D C b → Jv (o + 1) 0 D C b
theorem sp_skip (H : sp_H G n p a Jv) {o : Nat} {D C : Nat → Int} {b : Int} (ho : o < n) (hM : D (a o) = 4611686018427387904) : ∀ m s, s + m = 24 → Jv o s D C b → Jv o 24 D C b := by
  intro m
  induction m with
  | zero => intro s hs h; rw [show s = 24 by omega] at h; exact h
  | succ m ih => intro s hs h; exact ih (s + 1) (by omega) (H.2.2.2.2.2.2.1 o s D C b ho (by omega) h (fun q => q.1 hM))
theorem lp_spread_s (X : gx_T) (d : Nat) (H : sp_H G n p a Jv) {o : Nat} (ho : o < n) {Q : Option av_T → mm_T → Prop}
    (kk : ∀ G2 D C b, Jv o 24 D C b → pw_F G G2 D C → aw_W X mt_Pl_spread (d + 1) 144 [(0, some (av_r (some 24))), (1, some (av_i (n : Int))), (2, some (av_i b)), (3, some (av_i (o : Int)))] [] G2 0 0 Q) : ∀ m s G1 D C b, s + m = 24 → Jv o s D C b → pw_F G G1 D C → aw_W X mt_Pl_spread (d + 1) 20 [(0, some (av_r (some 24))), (1, some (av_i (n : Int))), (2, some (av_i b)), (3, some (av_i (o : Int))), (4, some (av_i (a o : Nat))), (5, some (av_i (s : Int)))] [] G1 0 0 Q := by
  intro m
  induction m with
  | zero =>
    intro s G1 D C b hs hJ hw
    have hs : s = 24 := by omega
    subst hs
    have k1 := kk G1 D C b hJ hw
    clear kk
    refine ar_iload (pc := 20) d_Pl_spread_20 rfl ?_
    refine ar_bipush (pc := 22) d_Pl_spread_22 (by decide) ?_
    refine ar_icmp_ge (pc := 24) 144 d_Pl_spread_24 (by decide) ⟨by omega, by omega⟩ ⟨by omega, by omega⟩ (fun h_24 => ?_) (fun h_24 => by exfalso; omega)
    rotate_left
    -- leaves: stop 144
    · exact ar_loc k1 ⟨rfl, rfl, rfl, rfl, trivial⟩
  | succ m ih =>
    intro s G1 D C b hs hJ hw
    obtain ⟨⟨n9, hFG⟩, hp, ha, hr, hb, hst, hk, hoo⟩ := H
    have hs24 : s < 24 := by omega
    have ha1 := (ha o ho).2
    have hF : fx_R G1 := fun x k b q => by rw [hw.1.1]; exact hFG x k b q
    have eD := hw.2.2.2.1 (a o) ha1
    have eDs := hw.2.2.2.1 s hs24
    have ep : mm_J G1 28 (24 * o + s) = p o s := by rw [hw.2.2.1 _ _ (by omega)]; exact hp o s ho hs24
    have epa : mm_J G1 28 (24 * o + a o) = p o (a o) := by rw [hw.2.2.1 _ _ (by omega)]; exact hp o (a o) ho ha1
    by_cases hM : D (a o) = 4611686018427387904
    · have k1 := kk G1 D C b (sp_skip ⟨⟨n9, hFG⟩, hp, ha, hr, hb, hst, hk, hoo⟩ ho hM (m + 1) s hs hJ) hw
      clear kk ih
      refine ar_iload (pc := 20) d_Pl_spread_20 rfl ?_
      refine ar_bipush (pc := 22) d_Pl_spread_22 (by decide) ?_
      refine ar_icmp_ge (pc := 24) 144 d_Pl_spread_24 (by decide) ⟨by omega, by omega⟩ ⟨by omega, by omega⟩ (fun h_24 => by exfalso; omega) (fun h_24 => ?_)
      refine ar_aload_n (pc := 27) d_Pl_spread_27 rfl ?_
      refine ar_getR (pc := 28) gf_Pl_28 d_Pl_spread_28 (by first | rfl | exact sh_wheel (by omega) | exact sh_milk (by omega)) (hF _ _ _ rfl) ?_
      refine ar_iload (pc := 31) d_Pl_spread_31 rfl ?_
      refine ar_laldv (pc := 33) d_Pl_spread_33 rfl ((a o)) (by omega) (by omega) eD (fun r_33 => ?_)
      refine ar_ldc2 (pc := 34) (4611686018427387904) kj_Pl_41 d_Pl_spread_34 (by decide) ?_
      refine ar_leq (pc := 37) 144 d_Pl_spread_37 d_Pl_spread_38 (by decide) r_33 ⟨by omega, by omega⟩ (fun h_37 => ?_) (fun h_37 => ?_)
      rotate_left
      rotate_left
      -- leaves: stop 144, stop 41
      · exact ar_loc k1 ⟨rfl, rfl, rfl, rfl, trivial⟩
      · exact absurd hM h_37
    · have i1 := fun b' G2 D' C' q q2 => ih (s + 1) G2 D' C' b' (by omega) q q2
      have kx := hst o s D C b ho hs24 hJ
      have kn := hk o s D C b ho hs24 hJ
      have rr := hr o s D C b ho hs24 hJ hM
      clear ih kk hst hk hr hoo hp ha
      have pu := pw_u hw s (D (a o) - p o (a o) + p o s) (o : Int)
      by_cases hpM : p o s = 4611686018427387904
      · have g := i1 b G1 D C (kn (fun q => q.2.1 hpM)) hw
        clear i1 kx kn
        refine ar_iload (pc := 20) d_Pl_spread_20 rfl ?_
        refine ar_bipush (pc := 22) d_Pl_spread_22 (by decide) ?_
        refine ar_icmp_ge (pc := 24) 144 d_Pl_spread_24 (by decide) ⟨by omega, by omega⟩ ⟨by omega, by omega⟩ (fun h_24 => by exfalso; omega) (fun h_24 => ?_)
        refine ar_aload_n (pc := 27) d_Pl_spread_27 rfl ?_
        refine ar_getR (pc := 28) gf_Pl_28 d_Pl_spread_28 (by first | rfl | exact sh_wheel (by omega) | exact sh_milk (by omega)) (hF _ _ _ rfl) ?_
        refine ar_iload (pc := 31) d_Pl_spread_31 rfl ?_
        refine ar_laldv (pc := 33) d_Pl_spread_33 rfl ((a o)) (by omega) (by omega) eD (fun r_33 => ?_)
        refine ar_ldc2 (pc := 34) (4611686018427387904) kj_Pl_41 d_Pl_spread_34 (by decide) ?_
        refine ar_leq (pc := 37) 144 d_Pl_spread_37 d_Pl_spread_38 (by decide) r_33 ⟨by omega, by omega⟩ (fun h_37 => ?_) (fun h_37 => ?_)
        rotate_left
        refine ar_aload_n (pc := 41) d_Pl_spread_41 rfl ?_
        refine ar_getR (pc := 42) gf_Pl_21 d_Pl_spread_42 (by first | rfl | exact sh_wheel (by omega) | exact sh_milk (by omega)) (hF _ _ _ rfl) ?_
        refine ar_iload_n (pc := 45) d_Pl_spread_45 rfl ?_
        refine ar_bipush (pc := 46) d_Pl_spread_46 (by decide) ?_
        refine ar_imul (pc := 48) d_Pl_spread_48 ?_
        refine ar_iload (pc := 49) d_Pl_spread_49 rfl ?_
        refine ar_iadd (pc := 51) d_Pl_spread_51 ?_
        refine ar_laldv (pc := 52) d_Pl_spread_52 rfl (24*o+s) (by omega) (by omega) ep (fun r_52 => ?_)
        refine ar_lstore (pc := 53) d_Pl_spread_53 rfl (by decide) ?_
        refine ar_lload (pc := 55) d_Pl_spread_55 rfl ?_
        refine ar_ldc2 (pc := 57) (4611686018427387904) kj_Pl_41 d_Pl_spread_57 (by decide) ?_
        refine ar_leq (pc := 60) 138 d_Pl_spread_60 d_Pl_spread_61 (by decide) r_52 ⟨by omega, by omega⟩ (fun h_60 => ?_) (fun h_60 => ?_)
        refine ar_iinc (pc := 138) d_Pl_spread_138 rfl rfl (by decide) ?_
        refine ar_goto (pc := 141) 20 d_Pl_spread_141 (by decide) ?_
        rotate_left
        rotate_left
        -- leaves: stop 144, stop 20, stop 64
        · exact absurd h_37 hM
        · exact ar_loc g ⟨rfl, rfl, rfl, rfl, rfl, li_i rfl (by omega), trivial⟩
        · exact absurd hpM h_60
      · have rr := rr hpM
        by_cases hx : D (a o) - p o (a o) + p o s < D s
        · have g := i1 1 _ _ _ (kx ⟨hM, hpM, hx⟩) pu
          clear i1 kx kn hw pu
          refine ar_iload (pc := 20) d_Pl_spread_20 rfl ?_
          refine ar_bipush (pc := 22) d_Pl_spread_22 (by decide) ?_
          refine ar_icmp_ge (pc := 24) 144 d_Pl_spread_24 (by decide) ⟨by omega, by omega⟩ ⟨by omega, by omega⟩ (fun h_24 => by exfalso; omega) (fun h_24 => ?_)
          refine ar_aload_n (pc := 27) d_Pl_spread_27 rfl ?_
          refine ar_getR (pc := 28) gf_Pl_28 d_Pl_spread_28 (by first | rfl | exact sh_wheel (by omega) | exact sh_milk (by omega)) (hF _ _ _ rfl) ?_
          refine ar_iload (pc := 31) d_Pl_spread_31 rfl ?_
          refine ar_laldv (pc := 33) d_Pl_spread_33 rfl ((a o)) (by omega) (by omega) eD (fun r_33 => ?_)
          refine ar_ldc2 (pc := 34) (4611686018427387904) kj_Pl_41 d_Pl_spread_34 (by decide) ?_
          refine ar_leq (pc := 37) 144 d_Pl_spread_37 d_Pl_spread_38 (by decide) r_33 ⟨by omega, by omega⟩ (fun h_37 => ?_) (fun h_37 => ?_)
          rotate_left
          refine ar_aload_n (pc := 41) d_Pl_spread_41 rfl ?_
          refine ar_getR (pc := 42) gf_Pl_21 d_Pl_spread_42 (by first | rfl | exact sh_wheel (by omega) | exact sh_milk (by omega)) (hF _ _ _ rfl) ?_
          refine ar_iload_n (pc := 45) d_Pl_spread_45 rfl ?_
          refine ar_bipush (pc := 46) d_Pl_spread_46 (by decide) ?_
          refine ar_imul (pc := 48) d_Pl_spread_48 ?_
          refine ar_iload (pc := 49) d_Pl_spread_49 rfl ?_
          refine ar_iadd (pc := 51) d_Pl_spread_51 ?_
          refine ar_laldv (pc := 52) d_Pl_spread_52 rfl (24*o+s) (by omega) (by omega) ep (fun r_52 => ?_)
          refine ar_lstore (pc := 53) d_Pl_spread_53 rfl (by decide) ?_
          refine ar_lload (pc := 55) d_Pl_spread_55 rfl ?_
          refine ar_ldc2 (pc := 57) (4611686018427387904) kj_Pl_41 d_Pl_spread_57 (by decide) ?_
          refine ar_leq (pc := 60) 138 d_Pl_spread_60 d_Pl_spread_61 (by decide) r_52 ⟨by omega, by omega⟩ (fun h_60 => ?_) (fun h_60 => ?_)
          refine ar_iinc (pc := 138) d_Pl_spread_138 rfl rfl (by decide) ?_
          refine ar_goto (pc := 141) 20 d_Pl_spread_141 (by decide) ?_
          rotate_left
          refine ar_aload_n (pc := 64) d_Pl_spread_64 rfl ?_
          refine ar_getR (pc := 65) gf_Pl_28 d_Pl_spread_65 (by first | rfl | exact sh_wheel (by omega) | exact sh_milk (by omega)) (hF _ _ _ rfl) ?_
          refine ar_iload (pc := 68) d_Pl_spread_68 rfl ?_
          refine ar_laldv (pc := 70) d_Pl_spread_70 rfl ((a o)) (by omega) (by omega) eD (fun r_70 => ?_)
          refine ar_aload_n (pc := 71) d_Pl_spread_71 rfl ?_
          refine ar_getR (pc := 72) gf_Pl_21 d_Pl_spread_72 (by first | rfl | exact sh_wheel (by omega) | exact sh_milk (by omega)) (hF _ _ _ rfl) ?_
          refine ar_iload_n (pc := 75) d_Pl_spread_75 rfl ?_
          refine ar_bipush (pc := 76) d_Pl_spread_76 (by decide) ?_
          refine ar_imul (pc := 78) d_Pl_spread_78 ?_
          refine ar_iload (pc := 79) d_Pl_spread_79 rfl ?_
          refine ar_iadd (pc := 81) d_Pl_spread_81 ?_
          refine ar_laldv (pc := 82) d_Pl_spread_82 rfl (24*o+a o) (by omega) (by omega) epa (fun r_82 => ?_)
          refine ar_lsub (pc := 83) d_Pl_spread_83 ?_
          refine ar_lload (pc := 84) d_Pl_spread_84 rfl ?_
          refine ar_ladd (pc := 86) d_Pl_spread_86 ?_
          refine ar_aload_n (pc := 87) d_Pl_spread_87 rfl ?_
          refine ar_getR (pc := 88) gf_Pl_28 d_Pl_spread_88 (by first | rfl | exact sh_wheel (by omega) | exact sh_milk (by omega)) (hF _ _ _ rfl) ?_
          refine ar_iload (pc := 91) d_Pl_spread_91 rfl ?_
          refine ar_laldv (pc := 93) d_Pl_spread_93 rfl (s) (by omega) (by omega) eDs (fun r_93 => ?_)
          refine ar_lge (pc := 94) 138 d_Pl_spread_94 d_Pl_spread_95 (by decide) rr r_93 (fun h_94 => ?_) (fun h_94 => ?_)
          refine ar_iinc (pc := 138) d_Pl_spread_138 rfl rfl (by decide) ?_
          refine ar_goto (pc := 141) 20 d_Pl_spread_141 (by decide) ?_
          rotate_left
          refine ar_aload_n (pc := 98) d_Pl_spread_98 rfl ?_
          refine ar_getR (pc := 99) gf_Pl_28 d_Pl_spread_99 (by first | rfl | exact sh_wheel (by omega) | exact sh_milk (by omega)) (hF _ _ _ rfl) ?_
          refine ar_iload (pc := 102) d_Pl_spread_102 rfl ?_
          refine ar_aload_n (pc := 104) d_Pl_spread_104 rfl ?_
          refine ar_getR (pc := 105) gf_Pl_28 d_Pl_spread_105 (by first | rfl | exact sh_wheel (by omega) | exact sh_milk (by omega)) (hF _ _ _ rfl) ?_
          refine ar_iload (pc := 108) d_Pl_spread_108 rfl ?_
          refine ar_laldv (pc := 110) d_Pl_spread_110 rfl ((a o)) (by omega) (by omega) eD (fun r_110 => ?_)
          refine ar_aload_n (pc := 111) d_Pl_spread_111 rfl ?_
          refine ar_getR (pc := 112) gf_Pl_21 d_Pl_spread_112 (by first | rfl | exact sh_wheel (by omega) | exact sh_milk (by omega)) (hF _ _ _ rfl) ?_
          refine ar_iload_n (pc := 115) d_Pl_spread_115 rfl ?_
          refine ar_bipush (pc := 116) d_Pl_spread_116 (by decide) ?_
          refine ar_imul (pc := 118) d_Pl_spread_118 ?_
          refine ar_iload (pc := 119) d_Pl_spread_119 rfl ?_
          refine ar_iadd (pc := 121) d_Pl_spread_121 ?_
          refine ar_laldv (pc := 122) d_Pl_spread_122 rfl (24*o+a o) (by omega) (by omega) epa (fun r_122 => ?_)
          refine ar_lsub (pc := 123) d_Pl_spread_123 ?_
          refine ar_lload (pc := 124) d_Pl_spread_124 rfl ?_
          refine ar_ladd (pc := 126) d_Pl_spread_126 ?_
          refine ar_last (pc := 127) d_Pl_spread_127 rfl (s) (by omega) (by omega) rr ?_
          refine ar_aload_n (pc := 128) d_Pl_spread_128 rfl ?_
          refine ar_getR (pc := 129) gf_Pl_31 d_Pl_spread_129 (by first | rfl | exact sh_wheel (by omega) | exact sh_milk (by omega)) (hF _ _ _ rfl) ?_
          refine ar_iload (pc := 132) d_Pl_spread_132 rfl ?_
          refine ar_iload_n (pc := 134) d_Pl_spread_134 rfl ?_
          refine ar_iast (pc := 135) d_Pl_spread_135 rfl (s) (by omega) (by omega) ⟨by omega, by omega⟩ ?_
          refine ar_iconst (pc := 136) d_Pl_spread_136 ?_
          refine ar_istore_n (pc := 137) d_Pl_spread_137 rfl (by decide) ?_
          refine ar_iinc (pc := 138) d_Pl_spread_138 rfl rfl (by decide) ?_
          refine ar_goto (pc := 141) 20 d_Pl_spread_141 (by decide) ?_
          rotate_left
          -- leaves: stop 144, stop 20, stop 20, stop 20
          all_goals first | exact absurd h_37 hM | exact absurd h_60 hpM | (exfalso; omega) | exact ar_loc g ⟨rfl, rfl, rfl, rfl, rfl, li_i rfl (by omega), trivial⟩
        · have g := i1 b G1 D C (kn (fun q => hx q.2.2)) hw
          clear i1 kx kn pu
          refine ar_iload (pc := 20) d_Pl_spread_20 rfl ?_
          refine ar_bipush (pc := 22) d_Pl_spread_22 (by decide) ?_
          refine ar_icmp_ge (pc := 24) 144 d_Pl_spread_24 (by decide) ⟨by omega, by omega⟩ ⟨by omega, by omega⟩ (fun h_24 => by exfalso; omega) (fun h_24 => ?_)
          refine ar_aload_n (pc := 27) d_Pl_spread_27 rfl ?_
          refine ar_getR (pc := 28) gf_Pl_28 d_Pl_spread_28 (by first | rfl | exact sh_wheel (by omega) | exact sh_milk (by omega)) (hF _ _ _ rfl) ?_
          refine ar_iload (pc := 31) d_Pl_spread_31 rfl ?_
          refine ar_laldv (pc := 33) d_Pl_spread_33 rfl ((a o)) (by omega) (by omega) eD (fun r_33 => ?_)
          refine ar_ldc2 (pc := 34) (4611686018427387904) kj_Pl_41 d_Pl_spread_34 (by decide) ?_
          refine ar_leq (pc := 37) 144 d_Pl_spread_37 d_Pl_spread_38 (by decide) r_33 ⟨by omega, by omega⟩ (fun h_37 => ?_) (fun h_37 => ?_)
          rotate_left
          refine ar_aload_n (pc := 41) d_Pl_spread_41 rfl ?_
          refine ar_getR (pc := 42) gf_Pl_21 d_Pl_spread_42 (by first | rfl | exact sh_wheel (by omega) | exact sh_milk (by omega)) (hF _ _ _ rfl) ?_
          refine ar_iload_n (pc := 45) d_Pl_spread_45 rfl ?_
          refine ar_bipush (pc := 46) d_Pl_spread_46 (by decide) ?_
          refine ar_imul (pc := 48) d_Pl_spread_48 ?_
          refine ar_iload (pc := 49) d_Pl_spread_49 rfl ?_
          refine ar_iadd (pc := 51) d_Pl_spread_51 ?_
          refine ar_laldv (pc := 52) d_Pl_spread_52 rfl (24*o+s) (by omega) (by omega) ep (fun r_52 => ?_)
          refine ar_lstore (pc := 53) d_Pl_spread_53 rfl (by decide) ?_
          refine ar_lload (pc := 55) d_Pl_spread_55 rfl ?_
          refine ar_ldc2 (pc := 57) (4611686018427387904) kj_Pl_41 d_Pl_spread_57 (by decide) ?_
          refine ar_leq (pc := 60) 138 d_Pl_spread_60 d_Pl_spread_61 (by decide) r_52 ⟨by omega, by omega⟩ (fun h_60 => ?_) (fun h_60 => ?_)
          refine ar_iinc (pc := 138) d_Pl_spread_138 rfl rfl (by decide) ?_
          refine ar_goto (pc := 141) 20 d_Pl_spread_141 (by decide) ?_
          rotate_left
          refine ar_aload_n (pc := 64) d_Pl_spread_64 rfl ?_
          refine ar_getR (pc := 65) gf_Pl_28 d_Pl_spread_65 (by first | rfl | exact sh_wheel (by omega) | exact sh_milk (by omega)) (hF _ _ _ rfl) ?_
          refine ar_iload (pc := 68) d_Pl_spread_68 rfl ?_
          refine ar_laldv (pc := 70) d_Pl_spread_70 rfl ((a o)) (by omega) (by omega) eD (fun r_70 => ?_)
          refine ar_aload_n (pc := 71) d_Pl_spread_71 rfl ?_
          refine ar_getR (pc := 72) gf_Pl_21 d_Pl_spread_72 (by first | rfl | exact sh_wheel (by omega) | exact sh_milk (by omega)) (hF _ _ _ rfl) ?_
          refine ar_iload_n (pc := 75) d_Pl_spread_75 rfl ?_
          refine ar_bipush (pc := 76) d_Pl_spread_76 (by decide) ?_
          refine ar_imul (pc := 78) d_Pl_spread_78 ?_
          refine ar_iload (pc := 79) d_Pl_spread_79 rfl ?_
          refine ar_iadd (pc := 81) d_Pl_spread_81 ?_
          refine ar_laldv (pc := 82) d_Pl_spread_82 rfl (24*o+a o) (by omega) (by omega) epa (fun r_82 => ?_)
          refine ar_lsub (pc := 83) d_Pl_spread_83 ?_
          refine ar_lload (pc := 84) d_Pl_spread_84 rfl ?_
          refine ar_ladd (pc := 86) d_Pl_spread_86 ?_
          refine ar_aload_n (pc := 87) d_Pl_spread_87 rfl ?_
          refine ar_getR (pc := 88) gf_Pl_28 d_Pl_spread_88 (by first | rfl | exact sh_wheel (by omega) | exact sh_milk (by omega)) (hF _ _ _ rfl) ?_
          refine ar_iload (pc := 91) d_Pl_spread_91 rfl ?_
          refine ar_laldv (pc := 93) d_Pl_spread_93 rfl (s) (by omega) (by omega) eDs (fun r_93 => ?_)
          refine ar_lge (pc := 94) 138 d_Pl_spread_94 d_Pl_spread_95 (by decide) rr r_93 (fun h_94 => ?_) (fun h_94 => ?_)
          refine ar_iinc (pc := 138) d_Pl_spread_138 rfl rfl (by decide) ?_
          refine ar_goto (pc := 141) 20 d_Pl_spread_141 (by decide) ?_
          rotate_left
          rotate_left
          -- leaves: stop 144, stop 20, stop 20, stop 98
          all_goals first | exact absurd h_37 hM | exact absurd h_60 hpM | (exfalso; omega) | exact ar_loc g ⟨rfl, rfl, rfl, rfl, rfl, li_i rfl (by omega), trivial⟩
theorem lp_spread_o (X : gx_T) (d : Nat) (H : sp_H G n p a Jv) : ∀ m o G1 D C b, o + m = n → Jv o 0 D C b → pw_F G G1 D C → aw_W X mt_Pl_spread (d + 1) 4 [(0, some (av_r (some 24))), (1, some (av_i (n : Int))), (2, some (av_i b)), (3, some (av_i (o : Int)))] [] G1 0 0 (fun r G' => ∃ D' C' b', r = some (av_i b') ∧ (b' = 0 ∨ b' = 1) ∧ Jv n 0 D' C' b' ∧ pw_F G G' D' C') := by
  intro m
  induction m with
  | zero =>
    intro o G1 D C b ho hJ hw
    have ho : o = n := by omega
    subst ho
    have hb := H.2.2.2.2.1 _ _ _ _ _ hJ
    have n9 := H.1.1
    refine ar_iload_n (pc := 4) d_Pl_spread_4 rfl ?_
    refine ar_iload_n (pc := 5) d_Pl_spread_5 rfl ?_
    refine ar_icmp_ge (pc := 6) 150 d_Pl_spread_6 (by decide) ⟨by omega, by omega⟩ ⟨by omega, by omega⟩ (fun h_6 => ?_) (fun h_6 => by exfalso; omega)
    refine ar_iload_n (pc := 150) d_Pl_spread_150 rfl ?_
    refine ar_zret (pc := 151) d_Pl_spread_151 rfl (by omega) ?_
    rotate_left
    -- leaves: ret 151
    · exact ⟨D, C, b, rfl, hb, hJ, hw⟩
  | succ m ih =>
    intro o G1 D C b ho hJ hw
    have n9 := H.1.1
    have hlt : o < n := by omega
    have hF : fx_R G1 := fun x k b q => by rw [hw.1.1]; exact H.1.2 x k b q
    have ha := H.2.2.1 o hlt
    have e27 : mm_I G1 27 o = (a o : Nat) := by rw [hw.2.1 _ _ (by omega)]; exact ha.1
    have lp := lp_spread_s X d H hlt (Q := fun r G' => ∃ D' C' b', r = some (av_i b') ∧ (b' = 0 ∨ b' = 1) ∧ Jv n 0 D' C' b' ∧ pw_F G G' D' C') (fun G2 D2 C2 b2 q q2 => by
      have i1 := ih (o + 1) G2 D2 C2 b2 (by omega) (H.2.2.2.2.2.2.2 o D2 C2 b2 hlt q) q2
      clear ih
      refine ar_iinc (pc := 144) d_Pl_spread_144 rfl rfl (by decide) ?_
      refine ar_goto (pc := 147) 4 d_Pl_spread_147 (by decide) ?_
      rotate_left
      -- leaves: stop 4
      · exact ar_loc i1 ⟨rfl, rfl, rfl, li_i rfl (by omega), trivial⟩) 24 0 G1 D C b (by omega) hJ hw
    clear ih
    refine ar_iload_n (pc := 4) d_Pl_spread_4 rfl ?_
    refine ar_iload_n (pc := 5) d_Pl_spread_5 rfl ?_
    refine ar_icmp_ge (pc := 6) 150 d_Pl_spread_6 (by decide) ⟨by omega, by omega⟩ ⟨by omega, by omega⟩ (fun h_6 => by exfalso; omega) (fun h_6 => ?_)
    refine ar_aload_n (pc := 9) d_Pl_spread_9 rfl ?_
    refine ar_getR (pc := 10) gf_Pl_18 d_Pl_spread_10 (by first | rfl | exact sh_wheel (by omega) | exact sh_milk (by omega)) (hF _ _ _ rfl) ?_
    refine ar_iload_n (pc := 13) d_Pl_spread_13 rfl ?_
    refine ar_ialdv (pc := 14) d_Pl_spread_14 rfl (o) (by omega) (by omega) e27 (fun r_14 => ?_)
    refine ar_istore (pc := 15) d_Pl_spread_15 rfl (by decide) ?_
    refine ar_iconst (pc := 17) d_Pl_spread_17 ?_
    refine ar_istore (pc := 18) d_Pl_spread_18 rfl (by decide) ?_
    rotate_left
    -- leaves: stop 20
    · exact ar_loc lp ⟨rfl, rfl, rfl, rfl, rfl, rfl, trivial⟩
theorem cm_Pl_spread (X : gx_T) (d : Nat) (H : sp_H G n p a Jv) {G1 : mm_T} {D C : Nat → Int} (hJ : Jv 0 0 D C 0) (hw : pw_F G G1 D C) : aw_M X (d + 1) mt_Pl_spread [av_r (some 24), av_i (n : Int)] G1 0 0 (fun r G' => ∃ D' C' b', r = some (av_i b') ∧ (b' = 0 ∨ b' = 1) ∧ Jv n 0 D' C' b' ∧ pw_F G G' D' C') := by
  have lp := lp_spread_o X d H n 0 G1 D C 0 (by omega) hJ hw
  refine aw_enter pf_Pl_spread (Nat.le_of_ble_eq_true rfl) ?_
  refine ar_iconst (pc := 0) d_Pl_spread_0 ?_
  refine ar_istore_n (pc := 1) d_Pl_spread_1 rfl (by decide) ?_
  refine ar_iconst (pc := 2) d_Pl_spread_2 ?_
  refine ar_istore_n (pc := 3) d_Pl_spread_3 rfl (by decide) ?_
  rotate_left
  -- leaves: stop 4
  · exact ar_loc lp ⟨rfl, rfl, rfl, rfl, trivial⟩
end
