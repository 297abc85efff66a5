/-! ===== the reference's reader: what waits ===== -/
section
variable {B : Nat → Int} {z : Nat} {G G1 : mm_T} {i v : Nat} {W o : List Int}
theorem mo_tk {G2 : mm_T} {j : Nat} (h : mo_T B z G1 j) (e1 : ∀ k, (k = 38 ∨ k = 40 ∨ k = 41 ∨ k = 42) → mm_I G2 60 k = mm_I G1 60 k) (e2 : mm_J G2 60 43 = mm_J G1 60 43) : mo_T B z G2 j := by
  obtain ⟨h1, h2, h3, h4⟩ := h
  exact ⟨by rw [e1 41 (by omega)]; exact h1, by rw [e1 40 (by omega), e2]; exact h2, fun q => by rw [e1 42 (by omega)]; exact h3 q, fun q1 q2 => by rw [e1 38 (by omega)]; exact h4 q1 q2⟩
theorem mo_a (h : mo_F B z G G1 i v W o) {y a b : Int} (hy : it_R y a b) : mo_F B z G (ms_I (ms_I (ms_I G1 83 o.length a) 84 o.length b) 60 32 ((o.length : Nat) + 1)) i v W (o ++ [y]) := by
  obtain ⟨h1, h2, h3, h4, h5, ⟨h6, h7, h8⟩, h9, h10⟩ := h
  refine ⟨h1, fun b j b1 b2 b3 b4 => ?_, h3, mo_tk h4 (fun k hk => ?_) rfl, ?_, ⟨?_, wt_up W (fun j _ => ?_) h7, ?_⟩, ?_, fun k hk => ?_⟩
  · rw [mi_n (by omega), mi_n (by omega), mi_n (by omega)]; exact h2 b j b1 b2 b3 b4
  · rw [mi_n (by omega), mi_n (by omega), mi_n (by omega)]
  · rw [mi_n (by omega), mi_n (by omega), mi_n (by omega)]; exact h5
  · rw [mi_n (by omega), mi_n (by omega), mi_n (by omega)]; exact h6
  · rw [mi_n (by omega), mi_n (by omega), mi_n (by omega)]
  · rw [mi_n (by omega), mi_n (by omega), mi_n (by omega)]; exact h8
  · rw [mi_s, List.length_append]; simp
  · rw [List.length_append] at hk
    rw [mi_n (by omega), mi_n (by omega)]
    by_cases e : k = o.length
    · subst e; rw [mi_s, mi_n (by omega), mi_s, gd_l]; exact hy
    · have hk : k < o.length := by simp at hk; omega
      rw [mi_n (by omega), mi_n (by omega), mi_n (by omega), gd_a hk]; exact h10 k hk
theorem cm_Mo_step (X : gx_T) (d : Nat) {y a b : Int} (hF : fx_R G) (h : mo_F B z G G1 i v W o) (hy : it_R y a b) (ha : i3_in a) (hb : i3_in b) (ho : o.length < 500) : aw_M X (d + 1) mt_Mo_step [av_r (some 60), av_i a, av_i b] G1 0 0 (fun r G' => r = none ∧ mo_F B z G G' i v W (o ++ [y])) := by
  have fin := mo_a h hy
  have e32 := h.2.2.2.2.2.2.1
  have hF1 : fx_R G1 := fun a k b q => by rw [h.1.1]; exact hF a k b q
  clear h
  have hF := hF1
  refine aw_enter pf_Mo_step (Nat.le_of_ble_eq_true rfl) ?_
  refine ar_aload_n (pc := 0) d_Mo_step_0 rfl ?_
  refine ar_getR (pc := 1) gf_Mo_77 d_Mo_step_1 (by first | rfl | exact sh_wheel (by omega) | exact sh_milk (by omega)) (hF _ _ _ rfl) ?_
  refine ar_aload_n (pc := 4) d_Mo_step_4 rfl ?_
  refine ar_getIv (pc := 5) gf_Mo_273 d_Mo_step_5 (by first | rfl | exact sh_wheel (by omega) | exact sh_milk (by omega)) e32 (fun r_5 => ?_)
  refine ar_iload_n (pc := 8) d_Mo_step_8 rfl ?_
  refine ar_iast (pc := 9) d_Mo_step_9 rfl (o.length) (by omega) (by omega) ⟨by omega, by omega⟩ ?_
  refine ar_aload_n (pc := 10) d_Mo_step_10 rfl ?_
  refine ar_getR (pc := 11) gf_Mo_80 d_Mo_step_11 (by first | rfl | exact sh_wheel (by omega) | exact sh_milk (by omega)) (hF _ _ _ rfl) ?_
  refine ar_aload_n (pc := 14) d_Mo_step_14 rfl ?_
  refine ar_getIv (pc := 15) gf_Mo_273 d_Mo_step_15 (by first | rfl | exact sh_wheel (by omega) | exact sh_milk (by omega)) (show _ = ((o.length : Nat) : Int) from e32) (fun r_15 => ?_)
  refine ar_iload_n (pc := 18) d_Mo_step_18 rfl ?_
  refine ar_iast (pc := 19) d_Mo_step_19 rfl (o.length) (by omega) (by omega) ⟨by omega, by omega⟩ ?_
  refine ar_aload_n (pc := 20) d_Mo_step_20 rfl ?_
  refine ar_dup (pc := 21) d_Mo_step_21 rfl ?_
  refine ar_getIv (pc := 22) gf_Mo_273 d_Mo_step_22 (by first | rfl | exact sh_wheel (by omega) | exact sh_milk (by omega)) (show _ = ((o.length : Nat) : Int) from e32) (fun r_22 => ?_)
  refine ar_iconst (pc := 25) d_Mo_step_25 ?_
  refine ar_iadd (pc := 26) d_Mo_step_26 ?_
  refine ar_putI (pc := 27) gf_Mo_273 d_Mo_step_27 rfl (by first | rfl | exact sh_wheel (by omega) | exact sh_milk (by omega)) ⟨by omega, by omega⟩ ?_
  refine ar_ret (pc := 30) d_Mo_step_30 rfl ?_
  rotate_left
  -- leaves: ret 30
  · exact ⟨rfl, fin⟩
theorem mo_u (h : mo_F B z G G1 i v W o) (w : Int) {D : Int} (hD : D = (dp_n (w :: W) : Nat)) : mo_F B z G (ms_I (ms_I (ms_I G1 88 W.length w) 60 45 ((W.length : Nat) + 1)) 60 46 D) i v (w :: W) o := by
  obtain ⟨h1, h2, h3, h4, h5, ⟨h6, h7, h8⟩, h9, h10⟩ := h
  refine ⟨h1, fun b j b1 b2 b3 b4 => ?_, h3, mo_tk h4 (fun k hk => ?_) rfl, ?_, ⟨?_, ⟨?_, wt_up W (fun j hj => ?_) h7⟩, ?_⟩, ?_, fun k hk => ?_⟩
  · rw [mi_n (by omega), mi_n (by omega), mi_n (by omega)]; exact h2 b j b1 b2 b3 b4
  · rw [mi_n (by omega), mi_n (by omega), mi_n (by omega)]
  · rw [mi_n (by omega), mi_n (by omega), mi_n (by omega)]; exact h5
  · rw [mi_n (by omega), mi_s]; simp
  · rw [mi_n (by omega), mi_n (by omega), mi_s]
  · rw [mi_n (by omega), mi_n (by omega), mi_n (by omega)]
  · rw [mi_s]; exact hD
  · rw [mi_n (by omega), mi_n (by omega), mi_n (by omega)]; exact h9
  · rw [mi_n (by omega), mi_n (by omega), mi_n (by omega), mi_n (by omega), mi_n (by omega), mi_n (by omega)]; exact h10 k hk
theorem mo_u0 (h : mo_F B z G G1 i v W o) (w : Int) (hD : dp_n (w :: W) = dp_n W) : mo_F B z G (ms_I (ms_I G1 88 W.length w) 60 45 ((W.length : Nat) + 1)) i v (w :: W) o := by
  have e46 : mm_I (ms_I (ms_I G1 88 W.length w) 60 45 ((W.length : Nat) + 1)) 60 46 = (dp_n (w :: W) : Nat) := by rw [mi_n (by omega), mi_n (by omega), hD]; exact h.2.2.2.2.2.1.2.2
  have h' := mo_u h w (D := (dp_n (w :: W) : Nat)) rfl
  have e : ms_I (ms_I (ms_I G1 88 W.length w) 60 45 ((W.length : Nat) + 1)) 60 46 ((dp_n (w :: W) : Nat) : Int) = ms_I (ms_I G1 88 W.length w) 60 45 ((W.length : Nat) + 1) := by
    rw [← e46]
    generalize ms_I (ms_I G1 88 W.length w) 60 45 ((W.length : Nat) + 1) = G9
    obtain ⟨A, I, J, R⟩ := G9
    refine congrArg (fun q => (A, q, J, R)) (funext fun x => funext fun y => ?_)
    show (if x = 60 ∧ y = 46 then I 60 46 else I x y) = I x y
    split
    · next q => rw [q.1, q.2]
    · rfl
  rw [e] at h'
  exact h'
theorem cm_Mo_hold (X : gx_T) (d : Nat) {w : Int} (hF : fx_R G) (h : mo_F B z G G1 i v W o) (hw : 40 ≤ w ∧ w ≤ 48) (hW : W.length < 400) (hdp : dp_n W ≤ 100) : aw_M X (d + 1) mt_Mo_hold [av_r (some 60), av_i w] G1 0 0 (fun r G' => r = none ∧ mo_F B z G G' i v (w :: W) o) := by
  have e45 := h.2.2.2.2.2.1.1
  have e46 := h.2.2.2.2.2.1.2.2
  have hF1 : fx_R G1 := fun a k b q => by rw [h.1.1]; exact hF a k b q
  by_cases hq : w = 40 ∨ w = 48
  · have fin := mo_u h w (D := (dp_n W : Nat) + 1) (by rw [dp_n, if_pos hq]; omega)
    clear h
    have hF := hF1
    refine aw_enter pf_Mo_hold (Nat.le_of_ble_eq_true rfl) ?_
    refine ar_aload_n (pc := 0) d_Mo_hold_0 rfl ?_
    refine ar_getR (pc := 1) gf_Mo_96 d_Mo_hold_1 (by first | rfl | exact sh_wheel (by omega) | exact sh_milk (by omega)) (hF _ _ _ rfl) ?_
    refine ar_aload_n (pc := 4) d_Mo_hold_4 rfl ?_
    refine ar_getIv (pc := 5) gf_Mo_276 d_Mo_hold_5 (by first | rfl | exact sh_wheel (by omega) | exact sh_milk (by omega)) e45 (fun r_5 => ?_)
    refine ar_iload_n (pc := 8) d_Mo_hold_8 rfl ?_
    refine ar_iast (pc := 9) d_Mo_hold_9 rfl (W.length) (by omega) (by omega) ⟨by omega, by omega⟩ ?_
    refine ar_aload_n (pc := 10) d_Mo_hold_10 rfl ?_
    refine ar_dup (pc := 11) d_Mo_hold_11 rfl ?_
    refine ar_getIv (pc := 12) gf_Mo_276 d_Mo_hold_12 (by first | rfl | exact sh_wheel (by omega) | exact sh_milk (by omega)) (show _ = ((W.length : Nat) : Int) from e45) (fun r_12 => ?_)
    refine ar_iconst (pc := 15) d_Mo_hold_15 ?_
    refine ar_iadd (pc := 16) d_Mo_hold_16 ?_
    refine ar_putI (pc := 17) gf_Mo_276 d_Mo_hold_17 rfl (by first | rfl | exact sh_wheel (by omega) | exact sh_milk (by omega)) ⟨by omega, by omega⟩ ?_
    refine ar_iload_n (pc := 20) d_Mo_hold_20 rfl ?_
    refine ar_bipush (pc := 21) d_Mo_hold_21 (by decide) ?_
    refine ar_icmp_eq (pc := 23) 32 d_Mo_hold_23 (by decide) ⟨by omega, by omega⟩ ⟨by omega, by omega⟩ (fun h_23 => ?_) (fun h_23 => ?_)
    refine ar_aload_n (pc := 32) d_Mo_hold_32 rfl ?_
    refine ar_dup (pc := 33) d_Mo_hold_33 rfl ?_
    refine ar_getIv (pc := 34) gf_Mo_279 d_Mo_hold_34 (by first | rfl | exact sh_wheel (by omega) | exact sh_milk (by omega)) (show _ = ((dp_n W : Nat) : Int) from e46) (fun r_34 => ?_)
    refine ar_iconst (pc := 37) d_Mo_hold_37 ?_
    refine ar_iadd (pc := 38) d_Mo_hold_38 ?_
    refine ar_putI (pc := 39) gf_Mo_279 d_Mo_hold_39 rfl (by first | rfl | exact sh_wheel (by omega) | exact sh_milk (by omega)) ⟨by omega, by omega⟩ ?_
    refine ar_ret (pc := 42) d_Mo_hold_42 rfl ?_
    rotate_left
    refine ar_iload_n (pc := 26) d_Mo_hold_26 rfl ?_
    refine ar_bipush (pc := 27) d_Mo_hold_27 (by decide) ?_
    refine ar_icmp_ne (pc := 29) 42 d_Mo_hold_29 (by decide) ⟨by omega, by omega⟩ ⟨by omega, by omega⟩ (fun h_29 => ?_) (fun h_29 => ?_)
    refine ar_ret (pc := 42) d_Mo_hold_42 rfl ?_
    rotate_left
    refine ar_aload_n (pc := 32) d_Mo_hold_32 rfl ?_
    refine ar_dup (pc := 33) d_Mo_hold_33 rfl ?_
    refine ar_getIv (pc := 34) gf_Mo_279 d_Mo_hold_34 (by first | rfl | exact sh_wheel (by omega) | exact sh_milk (by omega)) (show _ = ((dp_n W : Nat) : Int) from e46) (fun r_34 => ?_)
    refine ar_iconst (pc := 37) d_Mo_hold_37 ?_
    refine ar_iadd (pc := 38) d_Mo_hold_38 ?_
    refine ar_putI (pc := 39) gf_Mo_279 d_Mo_hold_39 rfl (by first | rfl | exact sh_wheel (by omega) | exact sh_milk (by omega)) ⟨by omega, by omega⟩ ?_
    refine ar_ret (pc := 42) d_Mo_hold_42 rfl ?_
    rotate_left
    -- leaves: ret 42, ret 42, ret 42
    · exact ⟨rfl, fin⟩
    · exfalso; omega
    · exact ⟨rfl, fin⟩
  · have fin := mo_u0 h w (by rw [dp_n, if_neg hq]; omega)
    clear h
    have hF := hF1
    refine aw_enter pf_Mo_hold (Nat.le_of_ble_eq_true rfl) ?_
    refine ar_aload_n (pc := 0) d_Mo_hold_0 rfl ?_
    refine ar_getR (pc := 1) gf_Mo_96 d_Mo_hold_1 (by first | rfl | exact sh_wheel (by omega) | exact sh_milk (by omega)) (hF _ _ _ rfl) ?_
    refine ar_aload_n (pc := 4) d_Mo_hold_4 rfl ?_
    refine ar_getIv (pc := 5) gf_Mo_276 d_Mo_hold_5 (by first | rfl | exact sh_wheel (by omega) | exact sh_milk (by omega)) e45 (fun r_5 => ?_)
    refine ar_iload_n (pc := 8) d_Mo_hold_8 rfl ?_
    refine ar_iast (pc := 9) d_Mo_hold_9 rfl (W.length) (by omega) (by omega) ⟨by omega, by omega⟩ ?_
    refine ar_aload_n (pc := 10) d_Mo_hold_10 rfl ?_
    refine ar_dup (pc := 11) d_Mo_hold_11 rfl ?_
    refine ar_getIv (pc := 12) gf_Mo_276 d_Mo_hold_12 (by first | rfl | exact sh_wheel (by omega) | exact sh_milk (by omega)) (show _ = ((W.length : Nat) : Int) from e45) (fun r_12 => ?_)
    refine ar_iconst (pc := 15) d_Mo_hold_15 ?_
    refine ar_iadd (pc := 16) d_Mo_hold_16 ?_
    refine ar_putI (pc := 17) gf_Mo_276 d_Mo_hold_17 rfl (by first | rfl | exact sh_wheel (by omega) | exact sh_milk (by omega)) ⟨by omega, by omega⟩ ?_
    refine ar_iload_n (pc := 20) d_Mo_hold_20 rfl ?_
    refine ar_bipush (pc := 21) d_Mo_hold_21 (by decide) ?_
    refine ar_icmp_eq (pc := 23) 32 d_Mo_hold_23 (by decide) ⟨by omega, by omega⟩ ⟨by omega, by omega⟩ (fun h_23 => by exfalso; omega) (fun h_23 => ?_)
    refine ar_iload_n (pc := 26) d_Mo_hold_26 rfl ?_
    refine ar_bipush (pc := 27) d_Mo_hold_27 (by decide) ?_
    refine ar_icmp_ne (pc := 29) 42 d_Mo_hold_29 (by decide) ⟨by omega, by omega⟩ ⟨by omega, by omega⟩ (fun h_29 => ?_) (fun h_29 => by exfalso; omega)
    refine ar_ret (pc := 42) d_Mo_hold_42 rfl ?_
    rotate_left
    -- leaves: ret 42
    · exact ⟨rfl, fin⟩
theorem mo_p {w : Int} {t : List Int} {D : Int} (h : mo_F B z G G1 i v (w :: t) o) (hD : D = (dp_n t : Nat)) : mo_F B z G (ms_I (ms_I G1 60 45 (t.length : Nat)) 60 46 D) i v t o := by
  obtain ⟨h1, h2, h3, h4, h5, ⟨h6, h7, h8⟩, h9, h10⟩ := h
  refine ⟨h1, fun b j b1 b2 b3 b4 => ?_, h3, mo_tk h4 (fun k hk => ?_) rfl, ?_, ⟨?_, wt_up t (fun j hj => ?_) h7.2, ?_⟩, ?_, fun k hk => ?_⟩
  · rw [mi_n (by omega), mi_n (by omega)]; exact h2 b j b1 b2 b3 b4
  · rw [mi_n (by omega), mi_n (by omega)]
  · rw [mi_n (by omega), mi_n (by omega)]; exact h5
  · rw [mi_n (by omega), mi_s]
  · rw [mi_n (by omega), mi_n (by omega)]
  · rw [mi_s]; exact hD
  · rw [mi_n (by omega), mi_n (by omega)]; exact h9
  · rw [mi_n (by omega), mi_n (by omega), mi_n (by omega), mi_n (by omega)]; exact h10 k hk
theorem mo_p0 {w : Int} {t : List Int} (h : mo_F B z G G1 i v (w :: t) o) (hD : dp_n (w :: t) = dp_n t) : mo_F B z G (ms_I G1 60 45 (t.length : Nat)) i v t o := by
  have e46 : mm_I (ms_I G1 60 45 (t.length : Nat)) 60 46 = (dp_n t : Nat) := by rw [mi_n (by omega), ← hD]; exact h.2.2.2.2.2.1.2.2
  have h' := mo_p h (D := (dp_n t : Nat)) rfl
  have e : ms_I (ms_I G1 60 45 (t.length : Nat)) 60 46 ((dp_n t : Nat) : Int) = ms_I G1 60 45 (t.length : Nat) := by
    rw [← e46]
    generalize ms_I G1 60 45 (t.length : Nat) = G9
    obtain ⟨A, I, J, R⟩ := G9
    refine congrArg (fun q => (A, q, J, R)) (funext fun x => funext fun y => ?_)
    show (if x = 60 ∧ y = 46 then I 60 46 else I x y) = I x y
    split
    · next q => rw [q.1, q.2]
    · rfl
  rw [e] at h'
  exact h'
theorem oi_R {w : Int} (h : 40 ≤ w ∧ w ≤ 47) : it_R (oi_v w) w 0 := by
  have hw : w = 40 ∨ w = 41 ∨ w = 42 ∨ w = 43 ∨ w = 44 ∨ w = 45 ∨ w = 46 ∨ w = 47 := by omega
  unfold it_R
  rcases hw with rfl | rfl | rfl | rfl | rfl | rfl | rfl | rfl
  all_goals (unfold oi_v; decide)
theorem cm_Mo_pop (X : gx_T) (d : Nat) {w : Int} {t : List Int} (hF : fx_R G) (h : mo_F B z G G1 i v (w :: t) o) (hw : 40 ≤ w ∧ w ≤ 47) (hW : t.length < 400) (ho : o.length < 500) : aw_M X (d + 2) mt_Mo_pop [av_r (some 60)] G1 0 0 (fun r G' => r = none ∧ mo_F B z G G' i v t (o ++ [oi_v w])) := by
  have e45 : mm_I G1 60 45 = (t.length : Nat) + 1 := by rw [h.2.2.2.2.2.1.1]; simp
  have e46 := h.2.2.2.2.2.1.2.2
  have e88 : mm_I G1 88 t.length = w := h.2.2.2.2.2.1.2.1.1
  have hF1 : fx_R G1 := fun a k b q => by rw [h.1.1]; exact hF a k b q
  by_cases hq : w = 40
  · have dpe : dp_n (w :: t) = dp_n t + 1 := by rw [dp_n, if_pos (Or.inl hq)]; omega
    have h2 := mo_p h (D := (dp_n (w :: t) : Nat) - 1) (by omega)
    have c45 := cm_Mo_step X d (y := oi_v w) (a := w) (b := 0) hF h2 (oi_R hw) ⟨by omega, by omega⟩ ⟨by omega, by omega⟩ ho
    rw [show ((t.length : Nat) : Int) = ((t.length : Nat) : Int) + 1 - 1 by omega] at c45
    clear h h2
    refine aw_enter pf_Mo_pop (Nat.le_of_ble_eq_true rfl) ?_
    refine ar_rngI (fun hrg => ?_)
    have rd := hrg 60 46
    rw [e46] at rd
    clear hrg
    have hF := hF1
    refine ar_aload_n (pc := 0) d_Mo_pop_0 rfl ?_
    refine ar_dup (pc := 1) d_Mo_pop_1 rfl ?_
    refine ar_getIv (pc := 2) gf_Mo_276 d_Mo_pop_2 (by first | rfl | exact sh_wheel (by omega) | exact sh_milk (by omega)) e45 (fun r_2 => ?_)
    refine ar_iconst (pc := 5) d_Mo_pop_5 ?_
    refine ar_isub (pc := 6) d_Mo_pop_6 ?_
    refine ar_putI (pc := 7) gf_Mo_276 d_Mo_pop_7 rfl (by first | rfl | exact sh_wheel (by omega) | exact sh_milk (by omega)) ⟨by omega, by omega⟩ ?_
    refine ar_aload_n (pc := 10) d_Mo_pop_10 rfl ?_
    refine ar_getR (pc := 11) gf_Mo_96 d_Mo_pop_11 (by first | rfl | exact sh_wheel (by omega) | exact sh_milk (by omega)) (hF _ _ _ rfl) ?_
    refine ar_aload_n (pc := 14) d_Mo_pop_14 rfl ?_
    refine ar_getIv (pc := 15) gf_Mo_276 d_Mo_pop_15 (by first | rfl | exact sh_wheel (by omega) | exact sh_milk (by omega)) (show _ = ((t.length : Nat) : Int) + 1 - 1 from rfl) (fun r_15 => ?_)
    refine ar_ialdv (pc := 18) d_Mo_pop_18 rfl (t.length) (by omega) (by omega) (show _ = w from e88) (fun r_18 => ?_)
    refine ar_bipush (pc := 19) d_Mo_pop_19 (by decide) ?_
    refine ar_icmp_ne (pc := 21) 34 d_Mo_pop_21 (by decide) ⟨by omega, by omega⟩ ⟨by omega, by omega⟩ (fun h_21 => by exfalso; omega) (fun h_21 => ?_)
    refine ar_aload_n (pc := 24) d_Mo_pop_24 rfl ?_
    refine ar_dup (pc := 25) d_Mo_pop_25 rfl ?_
    refine ar_getIv (pc := 26) gf_Mo_279 d_Mo_pop_26 (by first | rfl | exact sh_wheel (by omega) | exact sh_milk (by omega)) (show _ = ((dp_n (w :: t) : Nat) : Int) from e46) (fun r_26 => ?_)
    refine ar_iconst (pc := 29) d_Mo_pop_29 ?_
    refine ar_isub (pc := 30) d_Mo_pop_30 ?_
    refine ar_putI (pc := 31) gf_Mo_279 d_Mo_pop_31 rfl (by first | rfl | exact sh_wheel (by omega) | exact sh_milk (by omega)) ⟨by omega, by omega⟩ ?_
    refine ar_aload_n (pc := 34) d_Mo_pop_34 rfl ?_
    refine ar_aload_n (pc := 35) d_Mo_pop_35 rfl ?_
    refine ar_getR (pc := 36) gf_Mo_96 d_Mo_pop_36 (by first | rfl | exact sh_wheel (by omega) | exact sh_milk (by omega)) (hF _ _ _ rfl) ?_
    refine ar_aload_n (pc := 39) d_Mo_pop_39 rfl ?_
    refine ar_getIv (pc := 40) gf_Mo_276 d_Mo_pop_40 (by first | rfl | exact sh_wheel (by omega) | exact sh_milk (by omega)) (show _ = ((t.length : Nat) : Int) + 1 - 1 from rfl) (fun r_40 => ?_)
    refine ar_ialdv (pc := 43) d_Mo_pop_43 rfl (t.length) (by omega) (by omega) (show _ = w from e88) (fun r_43 => ?_)
    refine ar_iconst (pc := 44) d_Mo_pop_44 ?_
    refine ac_virt (pc := 45) (N := mt_Mo_step) _ _ mv_Mo_step ml_Mo_282 ck_12 d_Mo_pop_45 c45 (by first | rfl | exact sh_wheel (by omega) | exact sh_milk (by omega)) rfl rfl (Nat.le_of_ble_eq_true rfl) (Nat.le_of_eq (Nat.zero_add _)) (Nat.le_of_eq (Nat.zero_add _)) (fun r_45 G_45 h_45 => ?_)
    obtain ⟨rfl, q45⟩ := h_45
    refine ar_ret (pc := 48) d_Mo_pop_48 rfl ?_
    rotate_left
    -- leaves: ret 48
    · exact ⟨rfl, q45⟩
  · have h2 := mo_p0 h (by rw [dp_n, if_neg (by omega)]; omega)
    have c45 := cm_Mo_step X d (y := oi_v w) (a := w) (b := 0) hF h2 (oi_R hw) ⟨by omega, by omega⟩ ⟨by omega, by omega⟩ ho
    rw [show ((t.length : Nat) : Int) = ((t.length : Nat) : Int) + 1 - 1 by omega] at c45
    clear h h2
    have hF := hF1
    refine aw_enter pf_Mo_pop (Nat.le_of_ble_eq_true rfl) ?_
    refine ar_aload_n (pc := 0) d_Mo_pop_0 rfl ?_
    refine ar_dup (pc := 1) d_Mo_pop_1 rfl ?_
    refine ar_getIv (pc := 2) gf_Mo_276 d_Mo_pop_2 (by first | rfl | exact sh_wheel (by omega) | exact sh_milk (by omega)) e45 (fun r_2 => ?_)
    refine ar_iconst (pc := 5) d_Mo_pop_5 ?_
    refine ar_isub (pc := 6) d_Mo_pop_6 ?_
    refine ar_putI (pc := 7) gf_Mo_276 d_Mo_pop_7 rfl (by first | rfl | exact sh_wheel (by omega) | exact sh_milk (by omega)) ⟨by omega, by omega⟩ ?_
    refine ar_aload_n (pc := 10) d_Mo_pop_10 rfl ?_
    refine ar_getR (pc := 11) gf_Mo_96 d_Mo_pop_11 (by first | rfl | exact sh_wheel (by omega) | exact sh_milk (by omega)) (hF _ _ _ rfl) ?_
    refine ar_aload_n (pc := 14) d_Mo_pop_14 rfl ?_
    refine ar_getIv (pc := 15) gf_Mo_276 d_Mo_pop_15 (by first | rfl | exact sh_wheel (by omega) | exact sh_milk (by omega)) (show _ = ((t.length : Nat) : Int) + 1 - 1 from rfl) (fun r_15 => ?_)
    refine ar_ialdv (pc := 18) d_Mo_pop_18 rfl (t.length) (by omega) (by omega) (show _ = w from e88) (fun r_18 => ?_)
    refine ar_bipush (pc := 19) d_Mo_pop_19 (by decide) ?_
    refine ar_icmp_ne (pc := 21) 34 d_Mo_pop_21 (by decide) ⟨by omega, by omega⟩ ⟨by omega, by omega⟩ (fun h_21 => ?_) (fun h_21 => by exfalso; omega)
    refine ar_aload_n (pc := 34) d_Mo_pop_34 rfl ?_
    refine ar_aload_n (pc := 35) d_Mo_pop_35 rfl ?_
    refine ar_getR (pc := 36) gf_Mo_96 d_Mo_pop_36 (by first | rfl | exact sh_wheel (by omega) | exact sh_milk (by omega)) (hF _ _ _ rfl) ?_
    refine ar_aload_n (pc := 39) d_Mo_pop_39 rfl ?_
    refine ar_getIv (pc := 40) gf_Mo_276 d_Mo_pop_40 (by first | rfl | exact sh_wheel (by omega) | exact sh_milk (by omega)) (show _ = ((t.length : Nat) : Int) + 1 - 1 from rfl) (fun r_40 => ?_)
    refine ar_ialdv (pc := 43) d_Mo_pop_43 rfl (t.length) (by omega) (by omega) (show _ = w from e88) (fun r_43 => ?_)
    refine ar_iconst (pc := 44) d_Mo_pop_44 ?_
    refine ac_virt (pc := 45) (N := mt_Mo_step) _ _ mv_Mo_step ml_Mo_282 ck_12 d_Mo_pop_45 c45 (by first | rfl | exact sh_wheel (by omega) | exact sh_milk (by omega)) rfl rfl (Nat.le_of_ble_eq_true rfl) (Nat.le_of_eq (Nat.zero_add _)) (Nat.le_of_eq (Nat.zero_add _)) (fun r_45 G_45 h_45 => ?_)
    obtain ⟨rfl, q45⟩ := h_45
    refine ar_ret (pc := 48) d_Mo_pop_48 rfl ?_
    rotate_left
    -- leaves: ret 48
    · exact ⟨rfl, q45⟩
end
