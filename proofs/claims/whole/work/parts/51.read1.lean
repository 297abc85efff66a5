/-! ===== the class's reader ===== -/
/-- the tokens that the class keeps -/
def tt_T (K P N : Nat → Int) (n : Nat) (G : mm_T) : Prop := mm_I G 36 3 = (n : Int) + 1 ∧ n ≤ 500 ∧ (∀ k, k ≤ n → mm_I G 37 k = K k ∧ mm_I G 38 k = P k ∧ mm_I G 39 k = N k) ∧ (∀ k, k ≤ n → (0 ≤ K k ∧ K k ≤ 303) ∧ (0 ≤ P k ∧ P k ≤ 500) ∧ (0 ≤ N k ∧ N k ≤ 999999)) ∧ (K n = 300 ∨ K n = 301) ∧ ∀ k, k < n → K k ≠ 300 ∧ K k ≠ 301
theorem tt_n {K P N : Nat → Int} {n i : Nat} {G : mm_T} (h : tt_T K P N n G) (hi : i ≤ n) (hk : K i ≠ 300 ∧ K i ≠ 301) : i < n := by
  have := h.2.2.2.2.1
  by_cases e : i = n
  · rw [e] at hk; omega
  · omega
theorem gd_a {o : List Int} {z : Int} {k : Nat} (h : k < o.length) : (o ++ [z]).getD k 0 = o.getD k 0 := by
  rw [List.getD_eq_getElem?_getD, List.getD_eq_getElem?_getD, List.getElem?_append_left h]
theorem gd_l (o : List Int) (z : Int) : (o ++ [z]).getD o.length 0 = z := by
  rw [List.getD_eq_getElem?_getD, List.getElem?_append_right (Nat.le_refl _)]; simp
def dn_B (n i v : Nat) (o : List Int) (i' v' : Nat) (o' : List Int) : Prop := i < i' ∧ i' ≤ n ∧ v' ≤ 80 ∧ o'.length + i ≤ o.length + i'
theorem aj_l (j : Int) : (aj_v j).length ≤ 1 ∧ (j = -1 → (aj_v j).length = 0) := by
  unfold aj_v
  split
  · exact ⟨by simp, fun _ => rfl⟩
  · next h => exact ⟨by simp, fun q => absurd q h⟩
/-! orders at 42 -/
def pr_F_a (K P N : Nat → Int) (G G1 : mm_T) (i v : Nat) (o : List Int) : Prop := (mm_R G1 = mm_R G ∧ mm_J G1 = mm_J G ∧ mm_A G1 = mm_A G) ∧ (∀ b k, ¬ (b = 35 ∧ 1 ≤ k ∧ k ≤ 5) → ¬ (b = 42 ∧ k = 5) → b ≠ 43 → mm_I G1 b k = mm_I G b k) ∧ (mm_I G1 35 1 = (i : Int) + 1 ∧ mm_I G1 35 2 = K i ∧ mm_I G1 35 3 = P i ∧ mm_I G1 35 4 = N i ∧ mm_I G1 35 5 = v) ∧ mm_I G1 42 5 = (o.length : Nat) ∧ ∀ k, k < o.length → mm_I G1 43 k = o.getD k 0
def pb_F_a (G G1 : mm_T) (k p : Int) : Prop := (mm_R G1 = mm_R G ∧ mm_J G1 = mm_J G ∧ mm_A G1 = mm_A G) ∧ (∀ b k, ¬ (b = 35 ∧ 1 ≤ k ∧ k ≤ 7) → ¬ (b = 42 ∧ k = 5) → b ≠ 43 → mm_I G1 b k = mm_I G b k) ∧ mm_I G1 35 6 = k ∧ mm_I G1 35 7 = p
def po_P_a (K P N : Nat → Int) (G : mm_T) (D : Nat → Nat → List Int → Prop) (Bd : Int → Int → Prop) (r : Option av_T) (G' : mm_T) : Prop := (r = some (av_i 1) ∧ ∃ i v o, D i v o ∧ pr_F_a K P N G G' i v o) ∨ (r = some (av_i 0) ∧ ∃ k p, Bd k p ∧ pb_F_a G G' k p)
theorem pr_f_a {K P N : Nat → Int} {G G1 : mm_T} {i v : Nat} {o : List Int} (h : pr_F_a K P N G G1 i v o) (hF : fx_R G) : fx_R G1 := fun a k b q => by rw [h.1.1]; exact hF a k b q
theorem pr_t_a {K P N : Nat → Int} {G G1 : mm_T} {i v n : Nat} {o : List Int} (h : pr_F_a K P N G G1 i v o) (hT : tt_T K P N n G) : mm_I G1 36 3 = (n : Int) + 1 ∧ ∀ k, k ≤ n → mm_I G1 37 k = K k ∧ mm_I G1 38 k = P k ∧ mm_I G1 39 k = N k := by
  obtain ⟨-, h2, -⟩ := h
  refine ⟨by rw [h2 _ _ (by omega) (by omega) (by omega)]; exact hT.1, fun k hk => ?_⟩
  rw [h2 _ _ (by omega) (by omega) (by omega), h2 _ _ (by omega) (by omega) (by omega), h2 _ _ (by omega) (by omega) (by omega)]
  exact hT.2.2.1 k hk
theorem pr_s_a {K P N : Nat → Int} {G G1 : mm_T} {i v : Nat} {o : List Int} (h : pr_F_a K P N G G1 i v o) : pr_F_a K P N G (ms_I (ms_I (ms_I (ms_I G1 35 2 (K (i + 1))) 35 3 (P (i + 1))) 35 4 (N (i + 1))) 35 1 ((i : Int) + 1 + 1)) (i + 1) v o := by
  obtain ⟨h1, h2, ⟨a1, a2, a3, a4, a5⟩, h4, h5⟩ := h
  refine ⟨h1, fun b k b1 b2 b3 => ?_, ⟨?_, ?_, ?_, ?_, ?_⟩, ?_, fun k hk => ?_⟩
  · rw [mi_n (by omega), mi_n (by omega), mi_n (by omega), mi_n (by omega)]; exact h2 b k b1 b2 b3
  · rw [mi_s]; omega
  · rw [mi_n (by omega), mi_n (by omega), mi_n (by omega), mi_s]
  · rw [mi_n (by omega), mi_n (by omega), mi_s]
  · rw [mi_n (by omega), mi_s]
  · rw [mi_n (by omega), mi_n (by omega), mi_n (by omega), mi_n (by omega)]; exact a5
  · rw [mi_n (by omega), mi_n (by omega), mi_n (by omega), mi_n (by omega)]; exact h4
  · rw [mi_n (by omega), mi_n (by omega), mi_n (by omega), mi_n (by omega)]; exact h5 k hk
theorem pr_b_a {K P N : Nat → Int} {G G1 : mm_T} {i v : Nat} {o : List Int} (h : pr_F_a K P N G G1 i v o) (k p : Int) : pb_F_a G (ms_I (ms_I G1 35 6 k) 35 7 p) k p := by
  obtain ⟨h1, h2, -⟩ := h
  refine ⟨h1, fun b k b1 b2 b3 => ?_, ?_, mi_s _ _ _ _⟩
  · rw [mi_n (by omega), mi_n (by omega)]; exact h2 b k (by omega) b2 b3
  · rw [mi_n (by omega), mi_s]
theorem pr_a_a {K P N : Nat → Int} {G G1 : mm_T} {i v : Nat} {o : List Int} (h : pr_F_a K P N G G1 i v o) (z : Int) : pr_F_a K P N G (ms_I (ms_I G1 43 o.length z) 42 5 ((o.length : Nat) + 1)) i v (o ++ [z]) := by
  obtain ⟨h1, h2, ⟨a1, a2, a3, a4, a5⟩, h4, h5⟩ := h
  refine ⟨h1, fun b k b1 b2 b3 => ?_, ⟨?_, ?_, ?_, ?_, ?_⟩, ?_, fun k hk => ?_⟩
  · rw [mi_n (by omega), mi_n (by omega)]; exact h2 b k b1 b2 b3
  · rw [mi_n (by omega), mi_n (by omega)]; exact a1
  · rw [mi_n (by omega), mi_n (by omega)]; exact a2
  · rw [mi_n (by omega), mi_n (by omega)]; exact a3
  · rw [mi_n (by omega), mi_n (by omega)]; exact a4
  · rw [mi_n (by omega), mi_n (by omega)]; exact a5
  · rw [mi_s, List.length_append]; simp
  · rw [List.length_append] at hk
    rw [mi_n (by omega)]
    by_cases e : k = o.length
    · subst e; rw [mi_s, gd_l]
    · have hk : k < o.length := by simp at hk; omega
      rw [mi_n (by omega), gd_a hk]; exact h5 k hk
theorem pr_v_a {K P N : Nat → Int} {G G1 : mm_T} {i v : Nat} {o : List Int} (h : pr_F_a K P N G G1 i v o) : pr_F_a K P N G (ms_I G1 35 5 ((v : Int) + 1)) i (v + 1) o := by
  obtain ⟨h1, h2, ⟨a1, a2, a3, a4, a5⟩, h4, h5⟩ := h
  refine ⟨h1, fun b k b1 b2 b3 => ?_, ⟨?_, ?_, ?_, ?_, ?_⟩, ?_, fun k hk => ?_⟩
  · rw [mi_n (by omega)]; exact h2 b k b1 b2 b3
  · rw [mi_n (by omega)]; exact a1
  · rw [mi_n (by omega)]; exact a2
  · rw [mi_n (by omega)]; exact a3
  · rw [mi_n (by omega)]; exact a4
  · rw [mi_s]; omega
  · rw [mi_n (by omega)]; exact h4
  · rw [mi_n (by omega)]; exact h5 k hk
theorem cm_Re_step_a (X : gx_T) (d : Nat) {K P N : Nat → Int} {G G1 : mm_T} {n i v : Nat} {o : List Int} (hT : tt_T K P N n G) (hF : fx_R G) (h : pr_F_a K P N G G1 i v o) (hi : i < n) : aw_M X (d + 1) mt_Re_step [av_r (some 35)] G1 0 0 (fun r G' => r = none ∧ pr_F_a K P N G G' (i + 1) v o) := by
  have fin := pr_s_a h
  obtain ⟨t1, t2⟩ := pr_t_a h hT
  obtain ⟨k1, k2, k3⟩ := t2 (i + 1) (by omega)
  obtain ⟨r1, r2, r3⟩ := hT.2.2.2.1 (i + 1) (by omega)
  have e1 := h.2.2.1.1
  have n5 := hT.2.1
  have hF := pr_f_a h hF
  clear t2 h hT
  refine aw_enter pf_Re_step (Nat.le_of_ble_eq_true rfl) ?_
  refine ar_aload_n (pc := 0) d_Re_step_0 rfl ?_
  refine ar_getIv (pc := 1) gf_Re_29 d_Re_step_1 (by first | rfl | exact sh_wheel (by omega) | exact sh_milk (by omega)) e1 (fun r_1 => ?_)
  refine ar_aload_n (pc := 4) d_Re_step_4 rfl ?_
  refine ar_getR (pc := 5) gf_Re_12 d_Re_step_5 (by first | rfl | exact sh_wheel (by omega) | exact sh_milk (by omega)) (hF _ _ _ rfl) ?_
  refine ar_getIv (pc := 8) gf_Re_54 d_Re_step_8 (by first | rfl | exact sh_wheel (by omega) | exact sh_milk (by omega)) t1 (fun r_8 => ?_)
  refine ar_icmp_ge (pc := 11) 72 d_Re_step_11 (by decide) ⟨by omega, by omega⟩ ⟨by omega, by omega⟩ (fun h_11 => by exfalso; omega) (fun h_11 => ?_)
  refine ar_aload_n (pc := 14) d_Re_step_14 rfl ?_
  refine ar_aload_n (pc := 15) d_Re_step_15 rfl ?_
  refine ar_getR (pc := 16) gf_Re_12 d_Re_step_16 (by first | rfl | exact sh_wheel (by omega) | exact sh_milk (by omega)) (hF _ _ _ rfl) ?_
  refine ar_getR (pc := 19) gf_Re_57 d_Re_step_19 (by first | rfl | exact sh_wheel (by omega) | exact sh_milk (by omega)) (hF _ _ _ rfl) ?_
  refine ar_aload_n (pc := 22) d_Re_step_22 rfl ?_
  refine ar_getIv (pc := 23) gf_Re_29 d_Re_step_23 (by first | rfl | exact sh_wheel (by omega) | exact sh_milk (by omega)) e1 (fun r_23 => ?_)
  refine ar_ialdv (pc := 26) d_Re_step_26 rfl (i+1) (by omega) (by omega) (show _ = K (i + 1) from k1) (fun r_26 => ?_)
  refine ar_putI (pc := 27) gf_Re_43 d_Re_step_27 rfl (by first | rfl | exact sh_wheel (by omega) | exact sh_milk (by omega)) ⟨by omega, by omega⟩ ?_
  refine ar_aload_n (pc := 30) d_Re_step_30 rfl ?_
  refine ar_aload_n (pc := 31) d_Re_step_31 rfl ?_
  refine ar_getR (pc := 32) gf_Re_12 d_Re_step_32 (by first | rfl | exact sh_wheel (by omega) | exact sh_milk (by omega)) (hF _ _ _ rfl) ?_
  refine ar_getR (pc := 35) gf_Re_61 d_Re_step_35 (by first | rfl | exact sh_wheel (by omega) | exact sh_milk (by omega)) (hF _ _ _ rfl) ?_
  refine ar_aload_n (pc := 38) d_Re_step_38 rfl ?_
  refine ar_getIv (pc := 39) gf_Re_29 d_Re_step_39 (by first | rfl | exact sh_wheel (by omega) | exact sh_milk (by omega)) (show _ = (i : Int) + 1 from e1) (fun r_39 => ?_)
  refine ar_ialdv (pc := 42) d_Re_step_42 rfl (i+1) (by omega) (by omega) (show _ = P (i + 1) from k2) (fun r_42 => ?_)
  refine ar_putI (pc := 43) gf_Re_64 d_Re_step_43 rfl (by first | rfl | exact sh_wheel (by omega) | exact sh_milk (by omega)) ⟨by omega, by omega⟩ ?_
  refine ar_aload_n (pc := 46) d_Re_step_46 rfl ?_
  refine ar_aload_n (pc := 47) d_Re_step_47 rfl ?_
  refine ar_getR (pc := 48) gf_Re_12 d_Re_step_48 (by first | rfl | exact sh_wheel (by omega) | exact sh_milk (by omega)) (hF _ _ _ rfl) ?_
  refine ar_getR (pc := 51) gf_Re_67 d_Re_step_51 (by first | rfl | exact sh_wheel (by omega) | exact sh_milk (by omega)) (hF _ _ _ rfl) ?_
  refine ar_aload_n (pc := 54) d_Re_step_54 rfl ?_
  refine ar_getIv (pc := 55) gf_Re_29 d_Re_step_55 (by first | rfl | exact sh_wheel (by omega) | exact sh_milk (by omega)) (show _ = (i : Int) + 1 from e1) (fun r_55 => ?_)
  refine ar_ialdv (pc := 58) d_Re_step_58 rfl (i+1) (by omega) (by omega) (show _ = N (i + 1) from k3) (fun r_58 => ?_)
  refine ar_putI (pc := 59) gf_Re_70 d_Re_step_59 rfl (by first | rfl | exact sh_wheel (by omega) | exact sh_milk (by omega)) ⟨by omega, by omega⟩ ?_
  refine ar_aload_n (pc := 62) d_Re_step_62 rfl ?_
  refine ar_dup (pc := 63) d_Re_step_63 rfl ?_
  refine ar_getIv (pc := 64) gf_Re_29 d_Re_step_64 (by first | rfl | exact sh_wheel (by omega) | exact sh_milk (by omega)) (show _ = (i : Int) + 1 from e1) (fun r_64 => ?_)
  refine ar_iconst (pc := 67) d_Re_step_67 ?_
  refine ar_iadd (pc := 68) d_Re_step_68 ?_
  refine ar_putI (pc := 69) gf_Re_29 d_Re_step_69 rfl (by first | rfl | exact sh_wheel (by omega) | exact sh_milk (by omega)) ⟨by omega, by omega⟩ ?_
  refine ar_ret (pc := 72) d_Re_step_72 rfl ?_
  rotate_left
  -- leaves: ret 72
  · exact ⟨rfl, fin⟩
theorem cm_Re_refuse_a (X : gx_T) (d : Nat) {K P N : Nat → Int} {G G1 : mm_T} {n i v : Nat} {o : List Int} {k : Int} (hT : tt_T K P N n G) (h : pr_F_a K P N G G1 i v o) (hi : i ≤ n) (hk : 0 ≤ k ∧ k ≤ 3) : aw_M X (d + 1) mt_Re_refuse [av_r (some 35), av_i k] G1 0 0 (fun r G' => r = some (av_i 0) ∧ pb_F_a G G' (fq_v K i k) (P i)) := by
  have fin := pr_b_a h (fq_v K i k) (P i)
  obtain ⟨r1, r2, r3⟩ := hT.2.2.2.1 i hi
  obtain ⟨e1, e2, e3, e4, e5⟩ := h.2.2.1
  clear h hT
  unfold fq_v at *
  by_cases hq : K i = 300
  · rw [if_pos hq] at *
    refine aw_enter pf_Re_refuse (Nat.le_of_ble_eq_true rfl) ?_
    refine ar_aload_n (pc := 0) d_Re_refuse_0 rfl ?_
    refine ar_aload_n (pc := 1) d_Re_refuse_1 rfl ?_
    refine ar_getIv (pc := 2) gf_Re_43 d_Re_refuse_2 (by first | rfl | exact sh_wheel (by omega) | exact sh_milk (by omega)) e2 (fun r_2 => ?_)
    refine ar_sipush (pc := 5) d_Re_refuse_5 (by decide) ?_
    refine ar_icmp_ne (pc := 8) 15 d_Re_refuse_8 (by decide) ⟨by omega, by omega⟩ ⟨by omega, by omega⟩ (fun h_8 => by exfalso; omega) (fun h_8 => ?_)
    refine ar_iconst (pc := 11) d_Re_refuse_11 ?_
    refine ar_goto (pc := 12) 16 d_Re_refuse_12 (by decide) ?_
    refine ar_putI (pc := 16) gf_Re_18 d_Re_refuse_16 rfl (by first | rfl | exact sh_wheel (by omega) | exact sh_milk (by omega)) ⟨by omega, by omega⟩ ?_
    refine ar_aload_n (pc := 19) d_Re_refuse_19 rfl ?_
    refine ar_aload_n (pc := 20) d_Re_refuse_20 rfl ?_
    refine ar_getIv (pc := 21) gf_Re_64 d_Re_refuse_21 (by first | rfl | exact sh_wheel (by omega) | exact sh_milk (by omega)) (show _ = P i from e3) (fun r_21 => ?_)
    refine ar_putI (pc := 24) gf_Re_22 d_Re_refuse_24 rfl (by first | rfl | exact sh_wheel (by omega) | exact sh_milk (by omega)) ⟨by omega, by omega⟩ ?_
    refine ar_iconst (pc := 27) d_Re_refuse_27 ?_
    refine ar_zret (pc := 28) d_Re_refuse_28 rfl (by omega) ?_
    rotate_left
    -- leaves: ret 28
    · exact ⟨rfl, fin⟩
  · rw [if_neg hq] at *
    refine aw_enter pf_Re_refuse (Nat.le_of_ble_eq_true rfl) ?_
    refine ar_aload_n (pc := 0) d_Re_refuse_0 rfl ?_
    refine ar_aload_n (pc := 1) d_Re_refuse_1 rfl ?_
    refine ar_getIv (pc := 2) gf_Re_43 d_Re_refuse_2 (by first | rfl | exact sh_wheel (by omega) | exact sh_milk (by omega)) e2 (fun r_2 => ?_)
    refine ar_sipush (pc := 5) d_Re_refuse_5 (by decide) ?_
    refine ar_icmp_ne (pc := 8) 15 d_Re_refuse_8 (by decide) ⟨by omega, by omega⟩ ⟨by omega, by omega⟩ (fun h_8 => ?_) (fun h_8 => by exfalso; omega)
    refine ar_iload_n (pc := 15) d_Re_refuse_15 rfl ?_
    refine ar_putI (pc := 16) gf_Re_18 d_Re_refuse_16 rfl (by first | rfl | exact sh_wheel (by omega) | exact sh_milk (by omega)) ⟨by omega, by omega⟩ ?_
    refine ar_aload_n (pc := 19) d_Re_refuse_19 rfl ?_
    refine ar_aload_n (pc := 20) d_Re_refuse_20 rfl ?_
    refine ar_getIv (pc := 21) gf_Re_64 d_Re_refuse_21 (by first | rfl | exact sh_wheel (by omega) | exact sh_milk (by omega)) (show _ = P i from e3) (fun r_21 => ?_)
    refine ar_putI (pc := 24) gf_Re_22 d_Re_refuse_24 rfl (by first | rfl | exact sh_wheel (by omega) | exact sh_milk (by omega)) ⟨by omega, by omega⟩ ?_
    refine ar_iconst (pc := 27) d_Re_refuse_27 ?_
    refine ar_zret (pc := 28) d_Re_refuse_28 rfl (by omega) ?_
    rotate_left
    -- leaves: ret 28
    · exact ⟨rfl, fin⟩
theorem cm_Re_pass_a (X : gx_T) (d : Nat) {K P N : Nat → Int} {G G1 : mm_T} {n i v : Nat} {o : List Int} {e : Int} (hT : tt_T K P N n G) (hF : fx_R G) (h : pr_F_a K P N G G1 i v o) (hi : i ≤ n) (he : 0 ≤ e ∧ e < 300) : aw_M X (d + 2) mt_Re_pass [av_r (some 35), av_i e] G1 0 0 (fun r G' => (K i = e ∧ i < n) ∧ r = some (av_i 1) ∧ pr_F_a K P N G G' (i + 1) v o ∨ K i ≠ e ∧ r = some (av_i 0) ∧ pb_F_a G G' (fq_v K i 2) (P i)) := by
  obtain ⟨r1, r2, r3⟩ := hT.2.2.2.1 i hi
  have e2 := h.2.2.1.2.1
  by_cases hq : K i = e
  · have hin := tt_n hT hi (by omega)
    have c15 := cm_Re_step_a X d hT hF h hin
    clear h hT
    refine aw_enter pf_Re_pass (Nat.le_of_ble_eq_true rfl) ?_
    refine ar_aload_n (pc := 0) d_Re_pass_0 rfl ?_
    refine ar_getIv (pc := 1) gf_Re_43 d_Re_pass_1 (by first | rfl | exact sh_wheel (by omega) | exact sh_milk (by omega)) e2 (fun r_1 => ?_)
    refine ar_iload_n (pc := 4) d_Re_pass_4 rfl ?_
    refine ar_icmp_eq (pc := 5) 14 d_Re_pass_5 (by decide) ⟨by omega, by omega⟩ ⟨by omega, by omega⟩ (fun h_5 => ?_) (fun h_5 => by exfalso; omega)
    refine ar_aload_n (pc := 14) d_Re_pass_14 rfl ?_
    refine ac_virt (pc := 15) (N := mt_Re_step) _ _ mv_Re_step ml_Re_32 ck_5 d_Re_pass_15 c15 (by first | rfl | exact sh_wheel (by omega) | exact sh_milk (by omega)) rfl rfl (Nat.le_of_ble_eq_true rfl) (Nat.le_of_eq (Nat.zero_add _)) (Nat.le_of_eq (Nat.zero_add _)) (fun r_15 G_15 h_15 => ?_)
    obtain ⟨rfl, q15⟩ := h_15
    refine ar_iconst (pc := 18) d_Re_pass_18 ?_
    refine ar_zret (pc := 19) d_Re_pass_19 rfl (by omega) ?_
    rotate_left
    -- leaves: ret 19
    · exact Or.inl ⟨⟨hq, hin⟩, rfl, q15⟩
  · have c10 := cm_Re_refuse_a X d (k := 2) hT h hi (by omega)
    clear h hT
    refine aw_enter pf_Re_pass (Nat.le_of_ble_eq_true rfl) ?_
    refine ar_aload_n (pc := 0) d_Re_pass_0 rfl ?_
    refine ar_getIv (pc := 1) gf_Re_43 d_Re_pass_1 (by first | rfl | exact sh_wheel (by omega) | exact sh_milk (by omega)) e2 (fun r_1 => ?_)
    refine ar_iload_n (pc := 4) d_Re_pass_4 rfl ?_
    refine ar_icmp_eq (pc := 5) 14 d_Re_pass_5 (by decide) ⟨by omega, by omega⟩ ⟨by omega, by omega⟩ (fun h_5 => by exfalso; omega) (fun h_5 => ?_)
    refine ar_aload_n (pc := 8) d_Re_pass_8 rfl ?_
    refine ar_iconst (pc := 9) d_Re_pass_9 ?_
    refine ac_virt (pc := 10) (N := mt_Re_refuse) _ _ mv_Re_refuse ml_Re_50 ck_5 d_Re_pass_10 c10 (by first | rfl | exact sh_wheel (by omega) | exact sh_milk (by omega)) rfl rfl (Nat.le_of_ble_eq_true rfl) (Nat.le_of_eq (Nat.zero_add _)) (Nat.le_of_eq (Nat.zero_add _)) (fun r_10 G_10 h_10 => ?_)
    obtain ⟨rfl, q10⟩ := h_10
    refine ar_zret (pc := 13) d_Re_pass_13 rfl (by omega) ?_
    rotate_left
    -- leaves: ret 13
    · exact Or.inr ⟨hq, rfl, q10⟩
theorem cm_Re_isJoint_a (X : gx_T) (d : Nat) {K P N : Nat → Int} {G G1 : mm_T} {n i v : Nat} {o : List Int} {l : Int} (hT : tt_T K P N n G) (h : pr_F_a K P N G G1 i v o) (hi : i ≤ n) (hl : l = 0 ∨ l = 1 ∨ l = 2) : aw_M X (d + 1) mt_Re_isJoint [av_r (some 35), av_i l] G1 0 0 (fun r G' => r = some (av_i (if (l = 0 ∧ K i = 5) ∨ (l = 1 ∧ K i = 6) ∨ (l = 2 ∧ (K i = 43 ∨ K i = 45)) then 1 else 0)) ∧ G' = G1) := by
  obtain ⟨r1, r2, r3⟩ := hT.2.2.2.1 i hi
  have e2 := h.2.2.1.2.1
  clear h hT
  refine aw_enter pf_Re_isJoint (Nat.le_of_ble_eq_true rfl) ?_
  refine ar_iload_n (pc := 0) d_Re_isJoint_0 rfl ?_
  refine ar_case (l = 0) (fun hs_1_0 => ?_) (fun hn_1_0 => ?_)
  refine ar_lookup (pc := 1) (off := 27) 28 d_Re_isJoint_1 ⟨by omega, by omega⟩ (by decide) (by rw [hs_1_0]; try rfl) (by decide) ?_
  refine ar_aload_n (pc := 28) d_Re_isJoint_28 rfl ?_
  refine ar_getIv (pc := 29) gf_Re_43 d_Re_isJoint_29 (by first | rfl | exact sh_wheel (by omega) | exact sh_milk (by omega)) e2 (fun r_29 => ?_)
  refine ar_iconst (pc := 32) d_Re_isJoint_32 ?_
  refine ar_icmp_ne (pc := 33) 40 d_Re_isJoint_33 (by decide) ⟨by omega, by omega⟩ ⟨by omega, by omega⟩ (fun h_33 => ?_) (fun h_33 => ?_)
  refine ar_iconst (pc := 40) d_Re_isJoint_40 ?_
  refine ar_zret (pc := 41) d_Re_isJoint_41 rfl (by omega) ?_
  rotate_left
  refine ar_iconst (pc := 36) d_Re_isJoint_36 ?_
  refine ar_goto (pc := 37) 41 d_Re_isJoint_37 (by decide) ?_
  refine ar_zret (pc := 41) d_Re_isJoint_41 rfl (by omega) ?_
  rotate_left
  refine ar_case (l = 1) (fun hs_1_1 => ?_) (fun hn_1_1 => ?_)
  refine ar_lookup (pc := 1) (off := 41) 42 d_Re_isJoint_1 ⟨by omega, by omega⟩ (by decide) (by rw [hs_1_1]; try rfl) (by decide) ?_
  refine ar_aload_n (pc := 42) d_Re_isJoint_42 rfl ?_
  refine ar_getIv (pc := 43) gf_Re_43 d_Re_isJoint_43 (by first | rfl | exact sh_wheel (by omega) | exact sh_milk (by omega)) e2 (fun r_43 => ?_)
  refine ar_bipush (pc := 46) d_Re_isJoint_46 (by decide) ?_
  refine ar_icmp_ne (pc := 48) 55 d_Re_isJoint_48 (by decide) ⟨by omega, by omega⟩ ⟨by omega, by omega⟩ (fun h_48 => ?_) (fun h_48 => ?_)
  refine ar_iconst (pc := 55) d_Re_isJoint_55 ?_
  refine ar_zret (pc := 56) d_Re_isJoint_56 rfl (by omega) ?_
  rotate_left
  refine ar_iconst (pc := 51) d_Re_isJoint_51 ?_
  refine ar_goto (pc := 52) 56 d_Re_isJoint_52 (by decide) ?_
  refine ar_zret (pc := 56) d_Re_isJoint_56 rfl (by omega) ?_
  rotate_left
  refine ar_lookup (pc := 1) (off := 56) 57 d_Re_isJoint_1 ⟨by omega, by omega⟩ (by decide) (by simp only [Op.lookupswitch.offset_cons]; rw [if_neg (by omega), if_neg (by omega)]; try rfl) (by decide) ?_
  refine ar_aload_n (pc := 57) d_Re_isJoint_57 rfl ?_
  refine ar_getIv (pc := 58) gf_Re_43 d_Re_isJoint_58 (by first | rfl | exact sh_wheel (by omega) | exact sh_milk (by omega)) e2 (fun r_58 => ?_)
  refine ar_bipush (pc := 61) d_Re_isJoint_61 (by decide) ?_
  refine ar_icmp_eq (pc := 63) 75 d_Re_isJoint_63 (by decide) ⟨by omega, by omega⟩ ⟨by omega, by omega⟩ (fun h_63 => ?_) (fun h_63 => ?_)
  refine ar_iconst (pc := 75) d_Re_isJoint_75 ?_
  refine ar_goto (pc := 76) 80 d_Re_isJoint_76 (by decide) ?_
  refine ar_zret (pc := 80) d_Re_isJoint_80 rfl (by omega) ?_
  rotate_left
  refine ar_aload_n (pc := 66) d_Re_isJoint_66 rfl ?_
  refine ar_getIv (pc := 67) gf_Re_43 d_Re_isJoint_67 (by first | rfl | exact sh_wheel (by omega) | exact sh_milk (by omega)) e2 (fun r_67 => ?_)
  refine ar_bipush (pc := 70) d_Re_isJoint_70 (by decide) ?_
  refine ar_icmp_ne (pc := 72) 79 d_Re_isJoint_72 (by decide) ⟨by omega, by omega⟩ ⟨by omega, by omega⟩ (fun h_72 => ?_) (fun h_72 => ?_)
  refine ar_iconst (pc := 79) d_Re_isJoint_79 ?_
  refine ar_zret (pc := 80) d_Re_isJoint_80 rfl (by omega) ?_
  rotate_left
  refine ar_iconst (pc := 75) d_Re_isJoint_75 ?_
  refine ar_goto (pc := 76) 80 d_Re_isJoint_76 (by decide) ?_
  refine ar_zret (pc := 80) d_Re_isJoint_80 rfl (by omega) ?_
  rotate_left
  -- leaves: ret 41, ret 41, ret 56, ret 56, ret 80, ret 80, ret 80
  all_goals (refine ⟨?_, rfl⟩)
  all_goals first | rw [if_pos (by omega)] | rw [if_neg (by omega)]
theorem cm_Re_add_a (X : gx_T) (d : Nat) {K P N : Nat → Int} {G G1 : mm_T} {i v : Nat} {o : List Int} {z : Int} (hF : fx_R G) (h : pr_F_a K P N G G1 i v o) (hz : i3_in z) (ho : o.length < 500) : aw_M X (d + 1) mt_Or_addItem [av_r (some 42), av_i z] G1 0 0 (fun r G' => r = none ∧ pr_F_a K P N G G' i v (o ++ [z])) := by
  have fin := pr_a_a h z
  exact am_mono (fun r G' hr => ⟨hr.1, by rw [hr.2]; exact fin⟩) (cm_Or_addItem_a X d G1 (pr_f_a h hF) hz h.2.2.2.1 ho)
/-- contracts of the reader's parts -/
def ct_T_a (X : gx_T) (d : Nat) (K P N : Nat → Int) (n : Nat) (G : mm_T) (dep : Nat) : Prop := ∀ i v o G1, i ≤ n → v ≤ 80 → o.length ≤ i → pr_F_a K P N G G1 i v o → aw_M X d mt_Re_readTerm [av_r (some 35), av_i (dep : Int), av_r (some 42)] G1 0 0 (po_P_a K P N G (fun i' v' o' => dn_B n i v o i' v' o' ∧ s_term K P N dep i v o i' v' o') (b_term K P N dep i v o))
def ct_S_a (X : gx_T) (d : Nat) (K P N : Nat → Int) (n : Nat) (G : mm_T) (dep : Nat) : Prop := ∀ i v o G1, i ≤ n → v ≤ 80 → o.length ≤ i → pr_F_a K P N G G1 i v o → aw_M X d mt_Re_readJoined [av_r (some 35), av_i 2, av_i (dep : Int), av_r (some 42)] G1 0 0 (po_P_a K P N G (fun i' v' o' => dn_B n i v o i' v' o' ∧ s_sum K P N dep i v o i' v' o') (b_sum K P N dep i v o))
def ct_O_a (X : gx_T) (d : Nat) (K P N : Nat → Int) (n : Nat) (G : mm_T) (dep : Nat) : Prop := ∀ i v o G1, i ≤ n → v ≤ 80 → o.length ≤ i → pr_F_a K P N G G1 i v o → aw_M X d mt_Re_readOne [av_r (some 35), av_i (dep : Int), av_r (some 42)] G1 0 0 (po_P_a K P N G (fun i' v' o' => dn_B n i v o i' v' o' ∧ s_one K P N dep i v o i' v' o') (b_one K P N dep i v o))
def ct_A_a (X : gx_T) (d : Nat) (K P N : Nat → Int) (n : Nat) (G : mm_T) (dep : Nat) : Prop := ∀ i v o G1, i ≤ n → v ≤ 80 → o.length ≤ i → pr_F_a K P N G G1 i v o → aw_M X d mt_Re_readJoined [av_r (some 35), av_i 1, av_i (dep : Int), av_r (some 42)] G1 0 0 (po_P_a K P N G (fun i' v' o' => dn_B n i v o i' v' o' ∧ s_and K P N dep i v o i' v' o') (b_and K P N dep i v o))
def ct_E_a (X : gx_T) (d : Nat) (K P N : Nat → Int) (n : Nat) (G : mm_T) (dep : Nat) : Prop := ∀ i v o G1, i ≤ n → v ≤ 80 → o.length ≤ i → pr_F_a K P N G G1 i v o → aw_M X d mt_Re_readJoined [av_r (some 35), av_i 0, av_i (dep : Int), av_r (some 42)] G1 0 0 (po_P_a K P N G (fun i' v' o' => dn_B n i v o i' v' o' ∧ s_or K P N dep i v o i' v' o') (b_or K P N dep i v o))
/-! orders at 48 -/
def pr_F_b (K P N : Nat → Int) (G G1 : mm_T) (i v : Nat) (o : List Int) : Prop := (mm_R G1 = mm_R G ∧ mm_J G1 = mm_J G ∧ mm_A G1 = mm_A G) ∧ (∀ b k, ¬ (b = 35 ∧ 1 ≤ k ∧ k ≤ 5) → ¬ (b = 48 ∧ k = 5) → b ≠ 49 → mm_I G1 b k = mm_I G b k) ∧ (mm_I G1 35 1 = (i : Int) + 1 ∧ mm_I G1 35 2 = K i ∧ mm_I G1 35 3 = P i ∧ mm_I G1 35 4 = N i ∧ mm_I G1 35 5 = v) ∧ mm_I G1 48 5 = (o.length : Nat) ∧ ∀ k, k < o.length → mm_I G1 49 k = o.getD k 0
def pb_F_b (G G1 : mm_T) (k p : Int) : Prop := (mm_R G1 = mm_R G ∧ mm_J G1 = mm_J G ∧ mm_A G1 = mm_A G) ∧ (∀ b k, ¬ (b = 35 ∧ 1 ≤ k ∧ k ≤ 7) → ¬ (b = 48 ∧ k = 5) → b ≠ 49 → mm_I G1 b k = mm_I G b k) ∧ mm_I G1 35 6 = k ∧ mm_I G1 35 7 = p
def po_P_b (K P N : Nat → Int) (G : mm_T) (D : Nat → Nat → List Int → Prop) (Bd : Int → Int → Prop) (r : Option av_T) (G' : mm_T) : Prop := (r = some (av_i 1) ∧ ∃ i v o, D i v o ∧ pr_F_b K P N G G' i v o) ∨ (r = some (av_i 0) ∧ ∃ k p, Bd k p ∧ pb_F_b G G' k p)
theorem pr_f_b {K P N : Nat → Int} {G G1 : mm_T} {i v : Nat} {o : List Int} (h : pr_F_b K P N G G1 i v o) (hF : fx_R G) : fx_R G1 := fun a k b q => by rw [h.1.1]; exact hF a k b q
theorem pr_t_b {K P N : Nat → Int} {G G1 : mm_T} {i v n : Nat} {o : List Int} (h : pr_F_b K P N G G1 i v o) (hT : tt_T K P N n G) : mm_I G1 36 3 = (n : Int) + 1 ∧ ∀ k, k ≤ n → mm_I G1 37 k = K k ∧ mm_I G1 38 k = P k ∧ mm_I G1 39 k = N k := by
  obtain ⟨-, h2, -⟩ := h
  refine ⟨by rw [h2 _ _ (by omega) (by omega) (by omega)]; exact hT.1, fun k hk => ?_⟩
  rw [h2 _ _ (by omega) (by omega) (by omega), h2 _ _ (by omega) (by omega) (by omega), h2 _ _ (by omega) (by omega) (by omega)]
  exact hT.2.2.1 k hk
theorem pr_s_b {K P N : Nat → Int} {G G1 : mm_T} {i v : Nat} {o : List Int} (h : pr_F_b K P N G G1 i v o) : pr_F_b K P N G (ms_I (ms_I (ms_I (ms_I G1 35 2 (K (i + 1))) 35 3 (P (i + 1))) 35 4 (N (i + 1))) 35 1 ((i : Int) + 1 + 1)) (i + 1) v o := by
  obtain ⟨h1, h2, ⟨a1, a2, a3, a4, a5⟩, h4, h5⟩ := h
  refine ⟨h1, fun b k b1 b2 b3 => ?_, ⟨?_, ?_, ?_, ?_, ?_⟩, ?_, fun k hk => ?_⟩
  · rw [mi_n (by omega), mi_n (by omega), mi_n (by omega), mi_n (by omega)]; exact h2 b k b1 b2 b3
  · rw [mi_s]; omega
  · rw [mi_n (by omega), mi_n (by omega), mi_n (by omega), mi_s]
  · rw [mi_n (by omega), mi_n (by omega), mi_s]
  · rw [mi_n (by omega), mi_s]
  · rw [mi_n (by omega), mi_n (by omega), mi_n (by omega), mi_n (by omega)]; exact a5
  · rw [mi_n (by omega), mi_n (by omega), mi_n (by omega), mi_n (by omega)]; exact h4
  · rw [mi_n (by omega), mi_n (by omega), mi_n (by omega), mi_n (by omega)]; exact h5 k hk
theorem pr_b_b {K P N : Nat → Int} {G G1 : mm_T} {i v : Nat} {o : List Int} (h : pr_F_b K P N G G1 i v o) (k p : Int) : pb_F_b G (ms_I (ms_I G1 35 6 k) 35 7 p) k p := by
  obtain ⟨h1, h2, -⟩ := h
  refine ⟨h1, fun b k b1 b2 b3 => ?_, ?_, mi_s _ _ _ _⟩
  · rw [mi_n (by omega), mi_n (by omega)]; exact h2 b k (by omega) b2 b3
  · rw [mi_n (by omega), mi_s]
theorem pr_a_b {K P N : Nat → Int} {G G1 : mm_T} {i v : Nat} {o : List Int} (h : pr_F_b K P N G G1 i v o) (z : Int) : pr_F_b K P N G (ms_I (ms_I G1 49 o.length z) 48 5 ((o.length : Nat) + 1)) i v (o ++ [z]) := by
  obtain ⟨h1, h2, ⟨a1, a2, a3, a4, a5⟩, h4, h5⟩ := h
  refine ⟨h1, fun b k b1 b2 b3 => ?_, ⟨?_, ?_, ?_, ?_, ?_⟩, ?_, fun k hk => ?_⟩
  · rw [mi_n (by omega), mi_n (by omega)]; exact h2 b k b1 b2 b3
  · rw [mi_n (by omega), mi_n (by omega)]; exact a1
  · rw [mi_n (by omega), mi_n (by omega)]; exact a2
  · rw [mi_n (by omega), mi_n (by omega)]; exact a3
  · rw [mi_n (by omega), mi_n (by omega)]; exact a4
  · rw [mi_n (by omega), mi_n (by omega)]; exact a5
  · rw [mi_s, List.length_append]; simp
  · rw [List.length_append] at hk
    rw [mi_n (by omega)]
    by_cases e : k = o.length
    · subst e; rw [mi_s, gd_l]
    · have hk : k < o.length := by simp at hk; omega
      rw [mi_n (by omega), gd_a hk]; exact h5 k hk
theorem pr_v_b {K P N : Nat → Int} {G G1 : mm_T} {i v : Nat} {o : List Int} (h : pr_F_b K P N G G1 i v o) : pr_F_b K P N G (ms_I G1 35 5 ((v : Int) + 1)) i (v + 1) o := by
  obtain ⟨h1, h2, ⟨a1, a2, a3, a4, a5⟩, h4, h5⟩ := h
  refine ⟨h1, fun b k b1 b2 b3 => ?_, ⟨?_, ?_, ?_, ?_, ?_⟩, ?_, fun k hk => ?_⟩
  · rw [mi_n (by omega)]; exact h2 b k b1 b2 b3
  · rw [mi_n (by omega)]; exact a1
  · rw [mi_n (by omega)]; exact a2
  · rw [mi_n (by omega)]; exact a3
  · rw [mi_n (by omega)]; exact a4
  · rw [mi_s]; omega
  · rw [mi_n (by omega)]; exact h4
  · rw [mi_n (by omega)]; exact h5 k hk
theorem cm_Re_step_b (X : gx_T) (d : Nat) {K P N : Nat → Int} {G G1 : mm_T} {n i v : Nat} {o : List Int} (hT : tt_T K P N n G) (hF : fx_R G) (h : pr_F_b K P N G G1 i v o) (hi : i < n) : aw_M X (d + 1) mt_Re_step [av_r (some 35)] G1 0 0 (fun r G' => r = none ∧ pr_F_b K P N G G' (i + 1) v o) := by
  have fin := pr_s_b h
  obtain ⟨t1, t2⟩ := pr_t_b h hT
  obtain ⟨k1, k2, k3⟩ := t2 (i + 1) (by omega)
  obtain ⟨r1, r2, r3⟩ := hT.2.2.2.1 (i + 1) (by omega)
  have e1 := h.2.2.1.1
  have n5 := hT.2.1
  have hF := pr_f_b h hF
  clear t2 h hT
  refine aw_enter pf_Re_step (Nat.le_of_ble_eq_true rfl) ?_
  refine ar_aload_n (pc := 0) d_Re_step_0 rfl ?_
  refine ar_getIv (pc := 1) gf_Re_29 d_Re_step_1 (by first | rfl | exact sh_wheel (by omega) | exact sh_milk (by omega)) e1 (fun r_1 => ?_)
  refine ar_aload_n (pc := 4) d_Re_step_4 rfl ?_
  refine ar_getR (pc := 5) gf_Re_12 d_Re_step_5 (by first | rfl | exact sh_wheel (by omega) | exact sh_milk (by omega)) (hF _ _ _ rfl) ?_
  refine ar_getIv (pc := 8) gf_Re_54 d_Re_step_8 (by first | rfl | exact sh_wheel (by omega) | exact sh_milk (by omega)) t1 (fun r_8 => ?_)
  refine ar_icmp_ge (pc := 11) 72 d_Re_step_11 (by decide) ⟨by omega, by omega⟩ ⟨by omega, by omega⟩ (fun h_11 => by exfalso; omega) (fun h_11 => ?_)
  refine ar_aload_n (pc := 14) d_Re_step_14 rfl ?_
  refine ar_aload_n (pc := 15) d_Re_step_15 rfl ?_
  refine ar_getR (pc := 16) gf_Re_12 d_Re_step_16 (by first | rfl | exact sh_wheel (by omega) | exact sh_milk (by omega)) (hF _ _ _ rfl) ?_
  refine ar_getR (pc := 19) gf_Re_57 d_Re_step_19 (by first | rfl | exact sh_wheel (by omega) | exact sh_milk (by omega)) (hF _ _ _ rfl) ?_
  refine ar_aload_n (pc := 22) d_Re_step_22 rfl ?_
  refine ar_getIv (pc := 23) gf_Re_29 d_Re_step_23 (by first | rfl | exact sh_wheel (by omega) | exact sh_milk (by omega)) e1 (fun r_23 => ?_)
  refine ar_ialdv (pc := 26) d_Re_step_26 rfl (i+1) (by omega) (by omega) (show _ = K (i + 1) from k1) (fun r_26 => ?_)
  refine ar_putI (pc := 27) gf_Re_43 d_Re_step_27 rfl (by first | rfl | exact sh_wheel (by omega) | exact sh_milk (by omega)) ⟨by omega, by omega⟩ ?_
  refine ar_aload_n (pc := 30) d_Re_step_30 rfl ?_
  refine ar_aload_n (pc := 31) d_Re_step_31 rfl ?_
  refine ar_getR (pc := 32) gf_Re_12 d_Re_step_32 (by first | rfl | exact sh_wheel (by omega) | exact sh_milk (by omega)) (hF _ _ _ rfl) ?_
  refine ar_getR (pc := 35) gf_Re_61 d_Re_step_35 (by first | rfl | exact sh_wheel (by omega) | exact sh_milk (by omega)) (hF _ _ _ rfl) ?_
  refine ar_aload_n (pc := 38) d_Re_step_38 rfl ?_
  refine ar_getIv (pc := 39) gf_Re_29 d_Re_step_39 (by first | rfl | exact sh_wheel (by omega) | exact sh_milk (by omega)) (show _ = (i : Int) + 1 from e1) (fun r_39 => ?_)
  refine ar_ialdv (pc := 42) d_Re_step_42 rfl (i+1) (by omega) (by omega) (show _ = P (i + 1) from k2) (fun r_42 => ?_)
  refine ar_putI (pc := 43) gf_Re_64 d_Re_step_43 rfl (by first | rfl | exact sh_wheel (by omega) | exact sh_milk (by omega)) ⟨by omega, by omega⟩ ?_
  refine ar_aload_n (pc := 46) d_Re_step_46 rfl ?_
  refine ar_aload_n (pc := 47) d_Re_step_47 rfl ?_
  refine ar_getR (pc := 48) gf_Re_12 d_Re_step_48 (by first | rfl | exact sh_wheel (by omega) | exact sh_milk (by omega)) (hF _ _ _ rfl) ?_
  refine ar_getR (pc := 51) gf_Re_67 d_Re_step_51 (by first | rfl | exact sh_wheel (by omega) | exact sh_milk (by omega)) (hF _ _ _ rfl) ?_
  refine ar_aload_n (pc := 54) d_Re_step_54 rfl ?_
  refine ar_getIv (pc := 55) gf_Re_29 d_Re_step_55 (by first | rfl | exact sh_wheel (by omega) | exact sh_milk (by omega)) (show _ = (i : Int) + 1 from e1) (fun r_55 => ?_)
  refine ar_ialdv (pc := 58) d_Re_step_58 rfl (i+1) (by omega) (by omega) (show _ = N (i + 1) from k3) (fun r_58 => ?_)
  refine ar_putI (pc := 59) gf_Re_70 d_Re_step_59 rfl (by first | rfl | exact sh_wheel (by omega) | exact sh_milk (by omega)) ⟨by omega, by omega⟩ ?_
  refine ar_aload_n (pc := 62) d_Re_step_62 rfl ?_
  refine ar_dup (pc := 63) d_Re_step_63 rfl ?_
  refine ar_getIv (pc := 64) gf_Re_29 d_Re_step_64 (by first | rfl | exact sh_wheel (by omega) | exact sh_milk (by omega)) (show _ = (i : Int) + 1 from e1) (fun r_64 => ?_)
  refine ar_iconst (pc := 67) d_Re_step_67 ?_
  refine ar_iadd (pc := 68) d_Re_step_68 ?_
  refine ar_putI (pc := 69) gf_Re_29 d_Re_step_69 rfl (by first | rfl | exact sh_wheel (by omega) | exact sh_milk (by omega)) ⟨by omega, by omega⟩ ?_
  refine ar_ret (pc := 72) d_Re_step_72 rfl ?_
  rotate_left
  -- leaves: ret 72
  · exact ⟨rfl, fin⟩
theorem cm_Re_refuse_b (X : gx_T) (d : Nat) {K P N : Nat → Int} {G G1 : mm_T} {n i v : Nat} {o : List Int} {k : Int} (hT : tt_T K P N n G) (h : pr_F_b K P N G G1 i v o) (hi : i ≤ n) (hk : 0 ≤ k ∧ k ≤ 3) : aw_M X (d + 1) mt_Re_refuse [av_r (some 35), av_i k] G1 0 0 (fun r G' => r = some (av_i 0) ∧ pb_F_b G G' (fq_v K i k) (P i)) := by
  have fin := pr_b_b h (fq_v K i k) (P i)
  obtain ⟨r1, r2, r3⟩ := hT.2.2.2.1 i hi
  obtain ⟨e1, e2, e3, e4, e5⟩ := h.2.2.1
  clear h hT
  unfold fq_v at *
  by_cases hq : K i = 300
  · rw [if_pos hq] at *
    refine aw_enter pf_Re_refuse (Nat.le_of_ble_eq_true rfl) ?_
    refine ar_aload_n (pc := 0) d_Re_refuse_0 rfl ?_
    refine ar_aload_n (pc := 1) d_Re_refuse_1 rfl ?_
    refine ar_getIv (pc := 2) gf_Re_43 d_Re_refuse_2 (by first | rfl | exact sh_wheel (by omega) | exact sh_milk (by omega)) e2 (fun r_2 => ?_)
    refine ar_sipush (pc := 5) d_Re_refuse_5 (by decide) ?_
    refine ar_icmp_ne (pc := 8) 15 d_Re_refuse_8 (by decide) ⟨by omega, by omega⟩ ⟨by omega, by omega⟩ (fun h_8 => by exfalso; omega) (fun h_8 => ?_)
    refine ar_iconst (pc := 11) d_Re_refuse_11 ?_
    refine ar_goto (pc := 12) 16 d_Re_refuse_12 (by decide) ?_
    refine ar_putI (pc := 16) gf_Re_18 d_Re_refuse_16 rfl (by first | rfl | exact sh_wheel (by omega) | exact sh_milk (by omega)) ⟨by omega, by omega⟩ ?_
    refine ar_aload_n (pc := 19) d_Re_refuse_19 rfl ?_
    refine ar_aload_n (pc := 20) d_Re_refuse_20 rfl ?_
    refine ar_getIv (pc := 21) gf_Re_64 d_Re_refuse_21 (by first | rfl | exact sh_wheel (by omega) | exact sh_milk (by omega)) (show _ = P i from e3) (fun r_21 => ?_)
    refine ar_putI (pc := 24) gf_Re_22 d_Re_refuse_24 rfl (by first | rfl | exact sh_wheel (by omega) | exact sh_milk (by omega)) ⟨by omega, by omega⟩ ?_
    refine ar_iconst (pc := 27) d_Re_refuse_27 ?_
    refine ar_zret (pc := 28) d_Re_refuse_28 rfl (by omega) ?_
    rotate_left
    -- leaves: ret 28
    · exact ⟨rfl, fin⟩
  · rw [if_neg hq] at *
    refine aw_enter pf_Re_refuse (Nat.le_of_ble_eq_true rfl) ?_
    refine ar_aload_n (pc := 0) d_Re_refuse_0 rfl ?_
    refine ar_aload_n (pc := 1) d_Re_refuse_1 rfl ?_
    refine ar_getIv (pc := 2) gf_Re_43 d_Re_refuse_2 (by first | rfl | exact sh_wheel (by omega) | exact sh_milk (by omega)) e2 (fun r_2 => ?_)
    refine ar_sipush (pc := 5) d_Re_refuse_5 (by decide) ?_
    refine ar_icmp_ne (pc := 8) 15 d_Re_refuse_8 (by decide) ⟨by omega, by omega⟩ ⟨by omega, by omega⟩ (fun h_8 => ?_) (fun h_8 => by exfalso; omega)
    refine ar_iload_n (pc := 15) d_Re_refuse_15 rfl ?_
    refine ar_putI (pc := 16) gf_Re_18 d_Re_refuse_16 rfl (by first | rfl | exact sh_wheel (by omega) | exact sh_milk (by omega)) ⟨by omega, by omega⟩ ?_
    refine ar_aload_n (pc := 19) d_Re_refuse_19 rfl ?_
    refine ar_aload_n (pc := 20) d_Re_refuse_20 rfl ?_
    refine ar_getIv (pc := 21) gf_Re_64 d_Re_refuse_21 (by first | rfl | exact sh_wheel (by omega) | exact sh_milk (by omega)) (show _ = P i from e3) (fun r_21 => ?_)
    refine ar_putI (pc := 24) gf_Re_22 d_Re_refuse_24 rfl (by first | rfl | exact sh_wheel (by omega) | exact sh_milk (by omega)) ⟨by omega, by omega⟩ ?_
    refine ar_iconst (pc := 27) d_Re_refuse_27 ?_
    refine ar_zret (pc := 28) d_Re_refuse_28 rfl (by omega) ?_
    rotate_left
    -- leaves: ret 28
    · exact ⟨rfl, fin⟩
theorem cm_Re_pass_b (X : gx_T) (d : Nat) {K P N : Nat → Int} {G G1 : mm_T} {n i v : Nat} {o : List Int} {e : Int} (hT : tt_T K P N n G) (hF : fx_R G) (h : pr_F_b K P N G G1 i v o) (hi : i ≤ n) (he : 0 ≤ e ∧ e < 300) : aw_M X (d + 2) mt_Re_pass [av_r (some 35), av_i e] G1 0 0 (fun r G' => (K i = e ∧ i < n) ∧ r = some (av_i 1) ∧ pr_F_b K P N G G' (i + 1) v o ∨ K i ≠ e ∧ r = some (av_i 0) ∧ pb_F_b G G' (fq_v K i 2) (P i)) := by
  obtain ⟨r1, r2, r3⟩ := hT.2.2.2.1 i hi
  have e2 := h.2.2.1.2.1
  by_cases hq : K i = e
  · have hin := tt_n hT hi (by omega)
    have c15 := cm_Re_step_b X d hT hF h hin
    clear h hT
    refine aw_enter pf_Re_pass (Nat.le_of_ble_eq_true rfl) ?_
    refine ar_aload_n (pc := 0) d_Re_pass_0 rfl ?_
    refine ar_getIv (pc := 1) gf_Re_43 d_Re_pass_1 (by first | rfl | exact sh_wheel (by omega) | exact sh_milk (by omega)) e2 (fun r_1 => ?_)
    refine ar_iload_n (pc := 4) d_Re_pass_4 rfl ?_
    refine ar_icmp_eq (pc := 5) 14 d_Re_pass_5 (by decide) ⟨by omega, by omega⟩ ⟨by omega, by omega⟩ (fun h_5 => ?_) (fun h_5 => by exfalso; omega)
    refine ar_aload_n (pc := 14) d_Re_pass_14 rfl ?_
    refine ac_virt (pc := 15) (N := mt_Re_step) _ _ mv_Re_step ml_Re_32 ck_5 d_Re_pass_15 c15 (by first | rfl | exact sh_wheel (by omega) | exact sh_milk (by omega)) rfl rfl (Nat.le_of_ble_eq_true rfl) (Nat.le_of_eq (Nat.zero_add _)) (Nat.le_of_eq (Nat.zero_add _)) (fun r_15 G_15 h_15 => ?_)
    obtain ⟨rfl, q15⟩ := h_15
    refine ar_iconst (pc := 18) d_Re_pass_18 ?_
    refine ar_zret (pc := 19) d_Re_pass_19 rfl (by omega) ?_
    rotate_left
    -- leaves: ret 19
    · exact Or.inl ⟨⟨hq, hin⟩, rfl, q15⟩
  · have c10 := cm_Re_refuse_b X d (k := 2) hT h hi (by omega)
    clear h hT
    refine aw_enter pf_Re_pass (Nat.le_of_ble_eq_true rfl) ?_
    refine ar_aload_n (pc := 0) d_Re_pass_0 rfl ?_
    refine ar_getIv (pc := 1) gf_Re_43 d_Re_pass_1 (by first | rfl | exact sh_wheel (by omega) | exact sh_milk (by omega)) e2 (fun r_1 => ?_)
    refine ar_iload_n (pc := 4) d_Re_pass_4 rfl ?_
    refine ar_icmp_eq (pc := 5) 14 d_Re_pass_5 (by decide) ⟨by omega, by omega⟩ ⟨by omega, by omega⟩ (fun h_5 => by exfalso; omega) (fun h_5 => ?_)
    refine ar_aload_n (pc := 8) d_Re_pass_8 rfl ?_
    refine ar_iconst (pc := 9) d_Re_pass_9 ?_
    refine ac_virt (pc := 10) (N := mt_Re_refuse) _ _ mv_Re_refuse ml_Re_50 ck_5 d_Re_pass_10 c10 (by first | rfl | exact sh_wheel (by omega) | exact sh_milk (by omega)) rfl rfl (Nat.le_of_ble_eq_true rfl) (Nat.le_of_eq (Nat.zero_add _)) (Nat.le_of_eq (Nat.zero_add _)) (fun r_10 G_10 h_10 => ?_)
    obtain ⟨rfl, q10⟩ := h_10
    refine ar_zret (pc := 13) d_Re_pass_13 rfl (by omega) ?_
    rotate_left
    -- leaves: ret 13
    · exact Or.inr ⟨hq, rfl, q10⟩
theorem cm_Re_isJoint_b (X : gx_T) (d : Nat) {K P N : Nat → Int} {G G1 : mm_T} {n i v : Nat} {o : List Int} {l : Int} (hT : tt_T K P N n G) (h : pr_F_b K P N G G1 i v o) (hi : i ≤ n) (hl : l = 0 ∨ l = 1 ∨ l = 2) : aw_M X (d + 1) mt_Re_isJoint [av_r (some 35), av_i l] G1 0 0 (fun r G' => r = some (av_i (if (l = 0 ∧ K i = 5) ∨ (l = 1 ∧ K i = 6) ∨ (l = 2 ∧ (K i = 43 ∨ K i = 45)) then 1 else 0)) ∧ G' = G1) := by
  obtain ⟨r1, r2, r3⟩ := hT.2.2.2.1 i hi
  have e2 := h.2.2.1.2.1
  clear h hT
  refine aw_enter pf_Re_isJoint (Nat.le_of_ble_eq_true rfl) ?_
  refine ar_iload_n (pc := 0) d_Re_isJoint_0 rfl ?_
  refine ar_case (l = 0) (fun hs_1_0 => ?_) (fun hn_1_0 => ?_)
  refine ar_lookup (pc := 1) (off := 27) 28 d_Re_isJoint_1 ⟨by omega, by omega⟩ (by decide) (by rw [hs_1_0]; try rfl) (by decide) ?_
  refine ar_aload_n (pc := 28) d_Re_isJoint_28 rfl ?_
  refine ar_getIv (pc := 29) gf_Re_43 d_Re_isJoint_29 (by first | rfl | exact sh_wheel (by omega) | exact sh_milk (by omega)) e2 (fun r_29 => ?_)
  refine ar_iconst (pc := 32) d_Re_isJoint_32 ?_
  refine ar_icmp_ne (pc := 33) 40 d_Re_isJoint_33 (by decide) ⟨by omega, by omega⟩ ⟨by omega, by omega⟩ (fun h_33 => ?_) (fun h_33 => ?_)
  refine ar_iconst (pc := 40) d_Re_isJoint_40 ?_
  refine ar_zret (pc := 41) d_Re_isJoint_41 rfl (by omega) ?_
  rotate_left
  refine ar_iconst (pc := 36) d_Re_isJoint_36 ?_
  refine ar_goto (pc := 37) 41 d_Re_isJoint_37 (by decide) ?_
  refine ar_zret (pc := 41) d_Re_isJoint_41 rfl (by omega) ?_
  rotate_left
  refine ar_case (l = 1) (fun hs_1_1 => ?_) (fun hn_1_1 => ?_)
  refine ar_lookup (pc := 1) (off := 41) 42 d_Re_isJoint_1 ⟨by omega, by omega⟩ (by decide) (by rw [hs_1_1]; try rfl) (by decide) ?_
  refine ar_aload_n (pc := 42) d_Re_isJoint_42 rfl ?_
  refine ar_getIv (pc := 43) gf_Re_43 d_Re_isJoint_43 (by first | rfl | exact sh_wheel (by omega) | exact sh_milk (by omega)) e2 (fun r_43 => ?_)
  refine ar_bipush (pc := 46) d_Re_isJoint_46 (by decide) ?_
  refine ar_icmp_ne (pc := 48) 55 d_Re_isJoint_48 (by decide) ⟨by omega, by omega⟩ ⟨by omega, by omega⟩ (fun h_48 => ?_) (fun h_48 => ?_)
  refine ar_iconst (pc := 55) d_Re_isJoint_55 ?_
  refine ar_zret (pc := 56) d_Re_isJoint_56 rfl (by omega) ?_
  rotate_left
  refine ar_iconst (pc := 51) d_Re_isJoint_51 ?_
  refine ar_goto (pc := 52) 56 d_Re_isJoint_52 (by decide) ?_
  refine ar_zret (pc := 56) d_Re_isJoint_56 rfl (by omega) ?_
  rotate_left
  refine ar_lookup (pc := 1) (off := 56) 57 d_Re_isJoint_1 ⟨by omega, by omega⟩ (by decide) (by simp only [Op.lookupswitch.offset_cons]; rw [if_neg (by omega), if_neg (by omega)]; try rfl) (by decide) ?_
  refine ar_aload_n (pc := 57) d_Re_isJoint_57 rfl ?_
  refine ar_getIv (pc := 58) gf_Re_43 d_Re_isJoint_58 (by first | rfl | exact sh_wheel (by omega) | exact sh_milk (by omega)) e2 (fun r_58 => ?_)
  refine ar_bipush (pc := 61) d_Re_isJoint_61 (by decide) ?_
  refine ar_icmp_eq (pc := 63) 75 d_Re_isJoint_63 (by decide) ⟨by omega, by omega⟩ ⟨by omega, by omega⟩ (fun h_63 => ?_) (fun h_63 => ?_)
  refine ar_iconst (pc := 75) d_Re_isJoint_75 ?_
  refine ar_goto (pc := 76) 80 d_Re_isJoint_76 (by decide) ?_
  refine ar_zret (pc := 80) d_Re_isJoint_80 rfl (by omega) ?_
  rotate_left
  refine ar_aload_n (pc := 66) d_Re_isJoint_66 rfl ?_
  refine ar_getIv (pc := 67) gf_Re_43 d_Re_isJoint_67 (by first | rfl | exact sh_wheel (by omega) | exact sh_milk (by omega)) e2 (fun r_67 => ?_)
  refine ar_bipush (pc := 70) d_Re_isJoint_70 (by decide) ?_
  refine ar_icmp_ne (pc := 72) 79 d_Re_isJoint_72 (by decide) ⟨by omega, by omega⟩ ⟨by omega, by omega⟩ (fun h_72 => ?_) (fun h_72 => ?_)
  refine ar_iconst (pc := 79) d_Re_isJoint_79 ?_
  refine ar_zret (pc := 80) d_Re_isJoint_80 rfl (by omega) ?_
  rotate_left
  refine ar_iconst (pc := 75) d_Re_isJoint_75 ?_
  refine ar_goto (pc := 76) 80 d_Re_isJoint_76 (by decide) ?_
  refine ar_zret (pc := 80) d_Re_isJoint_80 rfl (by omega) ?_
  rotate_left
  -- leaves: ret 41, ret 41, ret 56, ret 56, ret 80, ret 80, ret 80
  all_goals (refine ⟨?_, rfl⟩)
  all_goals first | rw [if_pos (by omega)] | rw [if_neg (by omega)]
theorem cm_Re_add_b (X : gx_T) (d : Nat) {K P N : Nat → Int} {G G1 : mm_T} {i v : Nat} {o : List Int} {z : Int} (hF : fx_R G) (h : pr_F_b K P N G G1 i v o) (hz : i3_in z) (ho : o.length < 500) : aw_M X (d + 1) mt_Or_addItem [av_r (some 48), av_i z] G1 0 0 (fun r G' => r = none ∧ pr_F_b K P N G G' i v (o ++ [z])) := by
  have fin := pr_a_b h z
  exact am_mono (fun r G' hr => ⟨hr.1, by rw [hr.2]; exact fin⟩) (cm_Or_addItem_b X d G1 (pr_f_b h hF) hz h.2.2.2.1 ho)
/-- contracts of the reader's parts -/
def ct_T_b (X : gx_T) (d : Nat) (K P N : Nat → Int) (n : Nat) (G : mm_T) (dep : Nat) : Prop := ∀ i v o G1, i ≤ n → v ≤ 80 → o.length ≤ i → pr_F_b K P N G G1 i v o → aw_M X d mt_Re_readTerm [av_r (some 35), av_i (dep : Int), av_r (some 48)] G1 0 0 (po_P_b K P N G (fun i' v' o' => dn_B n i v o i' v' o' ∧ s_term K P N dep i v o i' v' o') (b_term K P N dep i v o))
def ct_S_b (X : gx_T) (d : Nat) (K P N : Nat → Int) (n : Nat) (G : mm_T) (dep : Nat) : Prop := ∀ i v o G1, i ≤ n → v ≤ 80 → o.length ≤ i → pr_F_b K P N G G1 i v o → aw_M X d mt_Re_readJoined [av_r (some 35), av_i 2, av_i (dep : Int), av_r (some 48)] G1 0 0 (po_P_b K P N G (fun i' v' o' => dn_B n i v o i' v' o' ∧ s_sum K P N dep i v o i' v' o') (b_sum K P N dep i v o))
def ct_O_b (X : gx_T) (d : Nat) (K P N : Nat → Int) (n : Nat) (G : mm_T) (dep : Nat) : Prop := ∀ i v o G1, i ≤ n → v ≤ 80 → o.length ≤ i → pr_F_b K P N G G1 i v o → aw_M X d mt_Re_readOne [av_r (some 35), av_i (dep : Int), av_r (some 48)] G1 0 0 (po_P_b K P N G (fun i' v' o' => dn_B n i v o i' v' o' ∧ s_one K P N dep i v o i' v' o') (b_one K P N dep i v o))
def ct_A_b (X : gx_T) (d : Nat) (K P N : Nat → Int) (n : Nat) (G : mm_T) (dep : Nat) : Prop := ∀ i v o G1, i ≤ n → v ≤ 80 → o.length ≤ i → pr_F_b K P N G G1 i v o → aw_M X d mt_Re_readJoined [av_r (some 35), av_i 1, av_i (dep : Int), av_r (some 48)] G1 0 0 (po_P_b K P N G (fun i' v' o' => dn_B n i v o i' v' o' ∧ s_and K P N dep i v o i' v' o') (b_and K P N dep i v o))
def ct_E_b (X : gx_T) (d : Nat) (K P N : Nat → Int) (n : Nat) (G : mm_T) (dep : Nat) : Prop := ∀ i v o G1, i ≤ n → v ≤ 80 → o.length ≤ i → pr_F_b K P N G G1 i v o → aw_M X d mt_Re_readJoined [av_r (some 35), av_i 0, av_i (dep : Int), av_r (some 48)] G1 0 0 (po_P_b K P N G (fun i' v' o' => dn_B n i v o i' v' o' ∧ s_or K P N dep i v o i' v' o') (b_or K P N dep i v o))
