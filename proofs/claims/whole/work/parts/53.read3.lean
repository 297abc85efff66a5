/-! ===== lines and programs ===== -/
def upn (f : Nat → Nat) (j v : Nat) : Nat → Nat := fun i => if i = j then v else f i
def ln_ok (K P N : Nat → Int) (i v : Nat) (o : List Int) (i' v' : Nat) (o' : List Int) (q : Int) : Prop := K i = 0 ∧ ∃ i1, s_or K P N 0 (i + 1) v o i1 v' o' ∧ K i1 = 1 ∧ q = K (i1 + 1) ∧ (q = 2 ∨ q = 3 ∨ q = 4) ∧ K (i1 + 2) = 59 ∧ i' = i1 + 3
def ln_bad (K P N : Nat → Int) (i v : Nat) (o : List Int) (k p : Int) : Prop := (K i ≠ 0 ∧ k = fq_v K i 2 ∧ p = P i) ∨ (K i = 0 ∧ b_or K P N 0 (i + 1) v o k p) ∨ (K i = 0 ∧ ∃ i1 v1 o1, s_or K P N 0 (i + 1) v o i1 v1 o1 ∧ ((K i1 ≠ 1 ∧ k = fq_v K i1 2 ∧ p = P i1) ∨ (K i1 = 1 ∧ ¬ (K (i1 + 1) = 2 ∨ K (i1 + 1) = 3 ∨ K (i1 + 1) = 4) ∧ k = fq_v K (i1 + 1) 2 ∧ p = P (i1 + 1)) ∨ (K i1 = 1 ∧ (K (i1 + 1) = 2 ∨ K (i1 + 1) = 3 ∨ K (i1 + 1) = 4) ∧ K (i1 + 2) ≠ 59 ∧ k = fq_v K (i1 + 2) 2 ∧ p = P (i1 + 2))))
/-- m lines more, and all is well -/
def dr_ok (K P N : Nat → Int) (o' : List Int) (l' : Nat) (le' : Nat → Nat) (dd' : Nat → Int) : Nat → Nat → Nat → List Int → Nat → (Nat → Nat) → (Nat → Int) → Prop
  | 0, i, _, o, l, le, dd => K i = 301 ∧ o' = o ∧ l' = l ∧ le' = le ∧ dd' = dd
  | m + 1, i, v, o, l, le, dd => l < 8 ∧ K i ≠ 301 ∧ ∃ i1 v1 o1 q, ln_ok K P N i v o i1 v1 o1 q ∧ dr_ok K P N o' l' le' dd' m i1 v1 o1 (l + 1) (upn le (l + 1) o1.length) (upp dd l q)
/-- m lines more, and a fault -/
def dr_bad (K P N : Nat → Int) (k p : Int) : Nat → Nat → Nat → List Int → Nat → Prop
  | 0, i, v, o, l => K i ≠ 301 ∧ ((l = 8 ∧ k = fq_v K i 2 ∧ p = P i) ∨ (l < 8 ∧ ln_bad K P N i v o k p))
  | m + 1, i, v, o, l => l < 8 ∧ K i ≠ 301 ∧ ∃ i1 v1 o1 q, ln_ok K P N i v o i1 v1 o1 q ∧ dr_bad K P N k p m i1 v1 o1 (l + 1)
/-! orders at 42 -/
theorem rt_all_a (X : gx_T) {K P N : Nat → Int} {G : mm_T} {n : Nat} (hT : tt_T K P N n G) (hF : fx_R G) : ∀ m, m ≤ 8 → ∀ d, ct_O_a X (d + 6 * m + 2) K P N n G (8 - m) := by
  intro m
  induction m with
  | zero => intro _ d; exact rt_8_a X d hT (by omega) (by omega)
  | succ m ih =>
    intro hm d
    have ih := ih (by omega)
    have hA : ∀ d, ct_A_a X (d + 6 * m + 3) K P N n G (8 - m) := fun d => rt_A_a X (d + 6 * m + 1) hT hF (ih d)
    have hE : ∀ d, ct_E_a X (d + 6 * m + 4) K P N n G (8 - m) := fun d => rt_E_a X (d + 6 * m + 2) hT hF (hA d)
    rw [show 8 - m = (8 - (m + 1)) + 1 by omega] at hE ih
    have hTm : ∀ d, ct_T_a X (d + 6 * m + 5) K P N n G (8 - (m + 1)) := fun d => rt_T_a X (d + 6 * m + 2) hT hF (by omega) (hE d)
    have hS : ∀ d, ct_S_a X (d + 6 * m + 6) K P N n G (8 - (m + 1)) := fun d => rt_S_a X (d + 6 * m + 4) hT hF (hTm d)
    have h2 := hS (d + 1)
    have h3 := ih (d + 5)
    rw [show d + 1 + 6 * m + 6 = d + 6 * m + 4 + 3 by omega] at h2
    rw [show d + 5 + 6 * m + 2 = d + 6 * m + 4 + 3 by omega] at h3
    rw [show d + 6 * (m + 1) + 2 = d + 6 * m + 4 + 4 by omega]
    exact rt_O_a X (d + 6 * m + 4) hT hF (by omega) (hS d) h2 h3
theorem rt_e0_a (X : gx_T) (d : Nat) {K P N : Nat → Int} {G : mm_T} {n : Nat} (hT : tt_T K P N n G) (hF : fx_R G) : ct_E_a X (d + 52) K P N n G 0 := rt_E_a X (d + 50) hT hF (rt_A_a X (d + 49) hT hF (rt_all_a X hT hF 8 (Nat.le_refl _) d))
def ls_F_a (K P N : Nat → Int) (G G1 : mm_T) (i v : Nat) (o : List Int) (l : Nat) (le : Nat → Nat) (dd : Nat → Int) : Prop := (mm_R G1 = mm_R G ∧ mm_J G1 = mm_J G ∧ mm_A G1 = mm_A G) ∧ (∀ b k, ¬ (b = 35 ∧ 1 ≤ k ∧ k ≤ 5) → ¬ (b = 42 ∧ (k = 5 ∨ k = 6)) → b ≠ 43 → b ≠ 44 → b ≠ 45 → mm_I G1 b k = mm_I G b k) ∧ (mm_I G1 35 1 = (i : Int) + 1 ∧ mm_I G1 35 2 = K i ∧ mm_I G1 35 3 = P i ∧ mm_I G1 35 4 = N i ∧ mm_I G1 35 5 = v) ∧ mm_I G1 42 5 = (o.length : Nat) ∧ (∀ k, k < o.length → mm_I G1 43 k = o.getD k 0) ∧ mm_I G1 42 6 = l ∧ (∀ j, j < l → mm_I G1 44 j = le (j + 1)) ∧ ∀ j, j < l → mm_I G1 45 j = dd j
def lb_F_a (G G1 : mm_T) (k p : Int) : Prop := (mm_R G1 = mm_R G ∧ mm_J G1 = mm_J G ∧ mm_A G1 = mm_A G) ∧ (∀ b k, ¬ (b = 35 ∧ 1 ≤ k ∧ k ≤ 7) → ¬ (b = 42 ∧ (k = 5 ∨ k = 6)) → b ≠ 43 → b ≠ 44 → b ≠ 45 → mm_I G1 b k = mm_I G b k) ∧ mm_I G1 35 6 = k ∧ mm_I G1 35 7 = p
section
variable {K P N : Nat → Int} {G G1 G2 : mm_T} {i v n l : Nat} {o : List Int} {le : Nat → Nat} {dd : Nat → Int}
theorem ls_w_a (h : ls_F_a K P N G G1 i v o l le dd) (hT : tt_T K P N n G) (hF : fx_R G) : tt_T K P N n G1 ∧ fx_R G1 ∧ pr_F_a K P N G1 G1 i v o := by
  obtain ⟨h1, h2, h3, h4, h5, -⟩ := h
  refine ⟨⟨?_, hT.2.1, fun k hk => ?_, hT.2.2.2⟩, fun a k b q => by rw [h1.1]; exact hF a k b q, ⟨rfl, rfl, rfl⟩, fun _ _ _ _ _ => rfl, h3, h4, h5⟩
  · rw [h2 _ _ (by omega) (by omega) (by omega) (by omega) (by omega)]; exact hT.1
  · rw [h2 _ _ (by omega) (by omega) (by omega) (by omega) (by omega), h2 _ _ (by omega) (by omega) (by omega) (by omega) (by omega), h2 _ _ (by omega) (by omega) (by omega) (by omega) (by omega)]
    exact hT.2.2.1 k hk
theorem ls_c_a {i1 v1 : Nat} {o1 : List Int} (h : ls_F_a K P N G G1 i v o l le dd) (h' : pr_F_a K P N G1 G2 i1 v1 o1) : ls_F_a K P N G G2 i1 v1 o1 l le dd := by
  obtain ⟨h1, h2, h3, h4, h5, h6, h7, h8⟩ := h
  obtain ⟨g1, g2, g3, g4, g5⟩ := h'
  refine ⟨⟨g1.1.trans h1.1, g1.2.1.trans h1.2.1, g1.2.2.trans h1.2.2⟩, fun b k b1 b2 b3 b4 b5 => ?_, g3, g4, g5, ?_, fun j hj => ?_, fun j hj => ?_⟩
  · rw [g2 b k b1 (by omega) b3]; exact h2 b k b1 b2 b3 b4 b5
  · rw [g2 _ _ (by omega) (by omega) (by omega)]; exact h6
  · rw [g2 _ _ (by omega) (by omega) (by omega)]; exact h7 j hj
  · rw [g2 _ _ (by omega) (by omega) (by omega)]; exact h8 j hj
theorem ls_b_a {k p : Int} (h : ls_F_a K P N G G1 i v o l le dd) (h' : pb_F_a G1 G2 k p) : lb_F_a G G2 k p := by
  obtain ⟨h1, h2, -⟩ := h
  obtain ⟨g1, g2, g3, g4⟩ := h'
  exact ⟨⟨g1.1.trans h1.1, g1.2.1.trans h1.2.1, g1.2.2.trans h1.2.2⟩, fun b k b1 b2 b3 b4 b5 => by rw [g2 b k b1 (by omega) b3]; exact h2 b k (by omega) b2 b3 b4 b5, g3, g4⟩
theorem ls_l_a (h : ls_F_a K P N G G1 i v o l le dd) (q : Int) : ls_F_a K P N G (ms_I (ms_I (ms_I G1 44 l (o.length : Nat)) 45 l q) 42 6 ((l : Int) + 1)) i v o (l + 1) (upn le (l + 1) o.length) (upp dd l q) := by
  obtain ⟨h1, h2, ⟨a1, a2, a3, a4, a5⟩, h4, h5, h6, h7, h8⟩ := h
  refine ⟨h1, fun b k b1 b2 b3 b4 b5 => ?_, ⟨?_, ?_, ?_, ?_, ?_⟩, ?_, fun k hk => ?_, ?_, fun j hj => ?_, fun j hj => ?_⟩
  · rw [mi_n (by omega), mi_n (by omega), mi_n (by omega)]; exact h2 b k b1 b2 b3 b4 b5
  · rw [mi_n (by omega), mi_n (by omega), mi_n (by omega)]; exact a1
  · rw [mi_n (by omega), mi_n (by omega), mi_n (by omega)]; exact a2
  · rw [mi_n (by omega), mi_n (by omega), mi_n (by omega)]; exact a3
  · rw [mi_n (by omega), mi_n (by omega), mi_n (by omega)]; exact a4
  · rw [mi_n (by omega), mi_n (by omega), mi_n (by omega)]; exact a5
  · rw [mi_n (by omega), mi_n (by omega), mi_n (by omega)]; exact h4
  · rw [mi_n (by omega), mi_n (by omega), mi_n (by omega)]; exact h5 k hk
  · rw [mi_s]; omega
  · rw [mi_n (by omega), mi_n (by omega)]
    unfold upn
    by_cases e : j = l
    · subst e; rw [mi_s, if_pos rfl]
    · rw [mi_n (by omega), if_neg (by omega)]; exact h7 j (by omega)
  · rw [mi_n (by omega)]
    unfold upp
    by_cases e : j = l
    · subst e; rw [mi_s, if_pos rfl]
    · rw [mi_n (by omega), mi_n (by omega), if_neg (by omega)]; exact h8 j (by omega)
end
theorem cm_Re_readLine_a (X : gx_T) (d : Nat) {K P N : Nat → Int} {G G1 : mm_T} {i v n l : Nat} {o : List Int} {le : Nat → Nat} {dd : Nat → Int} (hT : tt_T K P N n G) (hF : fx_R G) (h : ls_F_a K P N G G1 i v o l le dd) (hi : i ≤ n) (hv : v ≤ 80) (ho : o.length ≤ i) (hl : l < 8) : aw_M X (d + 53) mt_Re_readLine [av_r (some 35), av_r (some 42)] G1 0 0 (fun r G' => (r = some (av_i 1) ∧ ∃ i' v' o' q, (ln_ok K P N i v o i' v' o' q ∧ i < i' ∧ i' ≤ n ∧ v' ≤ 80 ∧ o'.length ≤ i') ∧ ls_F_a K P N G G' i' v' o' (l + 1) (upn le (l + 1) o'.length) (upp dd l q)) ∨ (r = some (av_i 0) ∧ ∃ k p, ln_bad K P N i v o k p ∧ lb_F_a G G' k p)) := by
  obtain ⟨hT1, hF1, hp⟩ := ls_w_a h hT hF
  have n5 := hT.2.1
  have c2 := cm_Re_pass_a X (d + 50) (e := 0) hT1 hF1 hp hi (by omega)
  have hE := rt_e0_a X d hT1 hF1
  refine aw_enter pf_Re_readLine (Nat.le_of_ble_eq_true rfl) ?_
  refine ar_aload_n (pc := 0) d_Re_readLine_0 rfl ?_
  refine ar_iconst (pc := 1) d_Re_readLine_1 ?_
  refine ac_virt (pc := 2) (N := mt_Re_pass) _ _ mv_Re_pass ml_Re_73 ck_5 d_Re_readLine_2 c2 (by first | rfl | exact sh_wheel (by omega) | exact sh_milk (by omega)) rfl rfl (Nat.le_of_ble_eq_true rfl) (Nat.le_of_eq (Nat.zero_add _)) (Nat.le_of_eq (Nat.zero_add _)) (fun r_2 G_2 h_2 => ?_)
  obtain ⟨⟨k0, hin⟩, rfl, q2⟩ | ⟨k0, rfl, q2⟩ := h_2
  rotate_left
  rotate_left
  -- leaves: stop 5, stop 5
  · have c12 := hE (i + 1) v o G_2 (by omega) hv (by omega) q2
    clear hE
    refine ar_if_eq (pc := 5) 26 d_Re_readLine_5 (by decide) ⟨by omega, by omega⟩ (fun h_5 => by exfalso; omega) (fun h_5 => ?_)
    refine ar_aload_n (pc := 8) d_Re_readLine_8 rfl ?_
    refine ar_iconst (pc := 9) d_Re_readLine_9 ?_
    refine ar_iconst (pc := 10) d_Re_readLine_10 ?_
    refine ar_aload_n (pc := 11) d_Re_readLine_11 rfl ?_
    refine ac_virt (pc := 12) (N := mt_Re_readJoined) _ _ mv_Re_readJoined ml_Re_76 ck_5 d_Re_readLine_12 c12 (by first | rfl | exact sh_wheel (by omega) | exact sh_milk (by omega)) rfl rfl (Nat.le_of_ble_eq_true rfl) (Nat.le_of_eq (Nat.zero_add _)) (Nat.le_of_eq (Nat.zero_add _)) (fun r_12 G_12 h_12 => ?_)
    obtain ⟨rfl, i1, v1, o1, ⟨⟨a1, a2, a3, a4⟩, hs1⟩, q12⟩ | ⟨rfl, k1, p1, hb1, q12⟩ := h_12
    rotate_left
    rotate_left
    -- leaves: stop 15, stop 15
    · have c20 := cm_Re_pass_a X (d + 50) (e := 1) hT1 hF1 q12 a2 (by omega)
      refine ar_if_eq (pc := 15) 26 d_Re_readLine_15 (by decide) ⟨by omega, by omega⟩ (fun h_15 => by exfalso; omega) (fun h_15 => ?_)
      refine ar_aload_n (pc := 18) d_Re_readLine_18 rfl ?_
      refine ar_iconst (pc := 19) d_Re_readLine_19 ?_
      refine ac_virt (pc := 20) (N := mt_Re_pass) _ _ mv_Re_pass ml_Re_73 ck_5 d_Re_readLine_20 c20 (by first | rfl | exact sh_wheel (by omega) | exact sh_milk (by omega)) rfl rfl (Nat.le_of_ble_eq_true rfl) (Nat.le_of_eq (Nat.zero_add _)) (Nat.le_of_eq (Nat.zero_add _)) (fun r_20 G_20 h_20 => ?_)
      obtain ⟨⟨k1, hin1⟩, rfl, q20⟩ | ⟨k1, rfl, q20⟩ := h_20
      rotate_left
      rotate_left
      -- leaves: stop 23, stop 23
      · have e2 := q20.2.2.1.2.1
        obtain ⟨r1, r2, r3⟩ := hT1.2.2.2.1 (i1 + 1) (by omega)
        have hl2 := ls_c_a h q20
        obtain ⟨hT2, hF2, hp2⟩ := ls_w_a hl2 hT hF
        have c63 := cm_Or_closeLine_a X (d + 51) G_20 (v := K (i1 + 1)) hF2 ⟨by omega, by omega⟩ hl2.2.2.2.1 (by omega) hl2.2.2.2.2.2.1 hl
        have hl3 := ls_l_a hl2 (K (i1 + 1))
        obtain ⟨hT3, hF3, hp3⟩ := ls_w_a hl3 hT hF
        by_cases hq : K (i1 + 1) = 2 ∨ K (i1 + 1) = 3 ∨ K (i1 + 1) = 4
        · have hin2 := tt_n hT1 (show i1 + 1 ≤ n by omega) (by omega)
          have c67 := cm_Re_step_a X (d + 51) hT3 hF3 hp3 hin2
          have go : aw_W X mt_Re_readLine (d + 53) 58 [(0, some (av_r (some 35))), (1, some (av_r (some 42)))] [] G_20 0 0 (fun r G' => (r = some (av_i 1) ∧ ∃ i' v' o' q, (ln_ok K P N i v o i' v' o' q ∧ i < i' ∧ i' ≤ n ∧ v' ≤ 80 ∧ o'.length ≤ i') ∧ ls_F_a K P N G G' i' v' o' (l + 1) (upn le (l + 1) o'.length) (upp dd l q)) ∨ (r = some (av_i 0) ∧ ∃ k p, ln_bad K P N i v o k p ∧ lb_F_a G G' k p)) := by
            generalize ms_I (ms_I (ms_I G_20 44 l (o1.length : Nat)) 45 l (K (i1 + 1))) 42 6 ((l : Int) + 1) = G3 at *
            refine ar_aload_n (pc := 58) d_Re_readLine_58 rfl ?_
            refine ar_aload_n (pc := 59) d_Re_readLine_59 rfl ?_
            refine ar_getIv (pc := 60) gf_Re_43 d_Re_readLine_60 (by first | rfl | exact sh_wheel (by omega) | exact sh_milk (by omega)) e2 (fun r_60 => ?_)
            refine ac_virt (pc := 63) (N := mt_Or_closeLine) _ _ mv_Or_closeLine ml_Re_80 ck_3 d_Re_readLine_63 c63 (by first | rfl | exact sh_wheel (by omega) | exact sh_milk (by omega)) rfl rfl (Nat.le_of_ble_eq_true rfl) (Nat.le_of_eq (Nat.zero_add _)) (Nat.le_of_eq (Nat.zero_add _)) (fun r_63 G_63 h_63 => ?_)
            obtain ⟨rfl, e_63⟩ := h_63
            subst G_63
            refine ar_aload_n (pc := 66) d_Re_readLine_66 rfl ?_
            refine ac_virt (pc := 67) (N := mt_Re_step) _ _ mv_Re_step ml_Re_32 ck_5 d_Re_readLine_67 c67 (by first | rfl | exact sh_wheel (by omega) | exact sh_milk (by omega)) rfl rfl (Nat.le_of_ble_eq_true rfl) (Nat.le_of_eq (Nat.zero_add _)) (Nat.le_of_eq (Nat.zero_add _)) (fun r_67 G_67 h_67 => ?_)
            obtain ⟨rfl, q67⟩ := h_67
            rotate_left
            -- leaves: stop 70
            · have c73 := cm_Re_pass_a X (d + 50) (e := 59) hT3 hF3 q67 (by omega) (by omega)
              refine ar_aload_n (pc := 70) d_Re_readLine_70 rfl ?_
              refine ar_bipush (pc := 71) d_Re_readLine_71 (by decide) ?_
              refine ac_virt (pc := 73) (N := mt_Re_pass) _ _ mv_Re_pass ml_Re_73 ck_5 d_Re_readLine_73 c73 (by first | rfl | exact sh_wheel (by omega) | exact sh_milk (by omega)) rfl rfl (Nat.le_of_ble_eq_true rfl) (Nat.le_of_eq (Nat.zero_add _)) (Nat.le_of_eq (Nat.zero_add _)) (fun r_73 G_73 h_73 => ?_)
              obtain ⟨⟨k59, hin3⟩, rfl, q73⟩ | ⟨k59, rfl, q73⟩ := h_73
              refine ar_zret (pc := 76) d_Re_readLine_76 rfl (by omega) ?_
              rotate_left
              refine ar_zret (pc := 76) d_Re_readLine_76 rfl (by omega) ?_
              rotate_left
              -- leaves: ret 76, ret 76
              · exact Or.inl ⟨rfl, i1 + 3, v1, o1, K (i1 + 1), ⟨⟨k0, i1, hs1, k1, rfl, hq, k59, rfl⟩, by omega, by omega, a3, by omega⟩, ls_c_a hl3 q73⟩
              · exact Or.inr ⟨rfl, _, _, Or.inr (Or.inr ⟨k0, i1, v1, o1, hs1, Or.inr (Or.inr ⟨k1, hq, k59, rfl, rfl⟩)⟩), ls_b_a hl3 q73⟩
          refine ar_if_ne (pc := 23) 28 d_Re_readLine_23 (by decide) ⟨by omega, by omega⟩ (fun h_23 => ?_) (fun h_23 => by exfalso; omega)
          refine ar_aload_n (pc := 28) d_Re_readLine_28 rfl ?_
          refine ar_getIv (pc := 29) gf_Re_43 d_Re_readLine_29 (by first | rfl | exact sh_wheel (by omega) | exact sh_milk (by omega)) e2 (fun r_29 => ?_)
          refine ar_iconst (pc := 32) d_Re_readLine_32 ?_
          refine ar_icmp_eq (pc := 33) 58 d_Re_readLine_33 (by decide) ⟨by omega, by omega⟩ ⟨by omega, by omega⟩ (fun h_33 => ?_) (fun h_33 => ?_)
          rotate_left
          refine ar_aload_n (pc := 36) d_Re_readLine_36 rfl ?_
          refine ar_getIv (pc := 37) gf_Re_43 d_Re_readLine_37 (by first | rfl | exact sh_wheel (by omega) | exact sh_milk (by omega)) e2 (fun r_37 => ?_)
          refine ar_iconst (pc := 40) d_Re_readLine_40 ?_
          refine ar_icmp_eq (pc := 41) 58 d_Re_readLine_41 (by decide) ⟨by omega, by omega⟩ ⟨by omega, by omega⟩ (fun h_41 => ?_) (fun h_41 => ?_)
          rotate_left
          refine ar_aload_n (pc := 44) d_Re_readLine_44 rfl ?_
          refine ar_getIv (pc := 45) gf_Re_43 d_Re_readLine_45 (by first | rfl | exact sh_wheel (by omega) | exact sh_milk (by omega)) e2 (fun r_45 => ?_)
          refine ar_iconst (pc := 48) d_Re_readLine_48 ?_
          refine ar_icmp_eq (pc := 49) 58 d_Re_readLine_49 (by decide) ⟨by omega, by omega⟩ ⟨by omega, by omega⟩ (fun h_49 => ?_) (fun h_49 => ?_)
          rotate_left
          rotate_left
          -- leaves: stop 58, stop 58, stop 58, stop 52
          all_goals first | (exfalso; omega) | exact ar_loc go ⟨rfl, rfl, trivial⟩
        · have c54 := cm_Re_refuse_a X (d + 51) (k := 2) hT2 hp2 (by omega) (by omega)
          refine ar_if_ne (pc := 23) 28 d_Re_readLine_23 (by decide) ⟨by omega, by omega⟩ (fun h_23 => ?_) (fun h_23 => by exfalso; omega)
          refine ar_aload_n (pc := 28) d_Re_readLine_28 rfl ?_
          refine ar_getIv (pc := 29) gf_Re_43 d_Re_readLine_29 (by first | rfl | exact sh_wheel (by omega) | exact sh_milk (by omega)) e2 (fun r_29 => ?_)
          refine ar_iconst (pc := 32) d_Re_readLine_32 ?_
          refine ar_icmp_eq (pc := 33) 58 d_Re_readLine_33 (by decide) ⟨by omega, by omega⟩ ⟨by omega, by omega⟩ (fun h_33 => by exfalso; omega) (fun h_33 => ?_)
          refine ar_aload_n (pc := 36) d_Re_readLine_36 rfl ?_
          refine ar_getIv (pc := 37) gf_Re_43 d_Re_readLine_37 (by first | rfl | exact sh_wheel (by omega) | exact sh_milk (by omega)) e2 (fun r_37 => ?_)
          refine ar_iconst (pc := 40) d_Re_readLine_40 ?_
          refine ar_icmp_eq (pc := 41) 58 d_Re_readLine_41 (by decide) ⟨by omega, by omega⟩ ⟨by omega, by omega⟩ (fun h_41 => by exfalso; omega) (fun h_41 => ?_)
          refine ar_aload_n (pc := 44) d_Re_readLine_44 rfl ?_
          refine ar_getIv (pc := 45) gf_Re_43 d_Re_readLine_45 (by first | rfl | exact sh_wheel (by omega) | exact sh_milk (by omega)) e2 (fun r_45 => ?_)
          refine ar_iconst (pc := 48) d_Re_readLine_48 ?_
          refine ar_icmp_eq (pc := 49) 58 d_Re_readLine_49 (by decide) ⟨by omega, by omega⟩ ⟨by omega, by omega⟩ (fun h_49 => by exfalso; omega) (fun h_49 => ?_)
          refine ar_aload_n (pc := 52) d_Re_readLine_52 rfl ?_
          refine ar_iconst (pc := 53) d_Re_readLine_53 ?_
          refine ac_virt (pc := 54) (N := mt_Re_refuse) _ _ mv_Re_refuse ml_Re_50 ck_5 d_Re_readLine_54 c54 (by first | rfl | exact sh_wheel (by omega) | exact sh_milk (by omega)) rfl rfl (Nat.le_of_ble_eq_true rfl) (Nat.le_of_eq (Nat.zero_add _)) (Nat.le_of_eq (Nat.zero_add _)) (fun r_54 G_54 h_54 => ?_)
          obtain ⟨rfl, q54⟩ := h_54
          refine ar_zret (pc := 57) d_Re_readLine_57 rfl (by omega) ?_
          rotate_left
          -- leaves: ret 57
          · exact Or.inr ⟨rfl, _, _, Or.inr (Or.inr ⟨k0, i1, v1, o1, hs1, Or.inr (Or.inl ⟨k1, hq, rfl, rfl⟩)⟩), ls_b_a hl2 q54⟩
      · skip
        refine ar_if_ne (pc := 23) 28 d_Re_readLine_23 (by decide) ⟨by omega, by omega⟩ (fun h_23 => by exfalso; omega) (fun h_23 => ?_)
        refine ar_iconst (pc := 26) d_Re_readLine_26 ?_
        refine ar_zret (pc := 27) d_Re_readLine_27 rfl (by omega) ?_
        rotate_left
        -- leaves: ret 27
        · exact Or.inr ⟨rfl, _, _, Or.inr (Or.inr ⟨k0, i1, v1, o1, hs1, Or.inl ⟨k1, rfl, rfl⟩⟩), ls_b_a h q20⟩
    · skip
      refine ar_if_eq (pc := 15) 26 d_Re_readLine_15 (by decide) ⟨by omega, by omega⟩ (fun h_15 => ?_) (fun h_15 => by exfalso; omega)
      refine ar_iconst (pc := 26) d_Re_readLine_26 ?_
      refine ar_zret (pc := 27) d_Re_readLine_27 rfl (by omega) ?_
      rotate_left
      -- leaves: ret 27
      · exact Or.inr ⟨rfl, _, _, Or.inr (Or.inl ⟨k0, hb1⟩), ls_b_a h q12⟩
  · skip
    refine ar_if_eq (pc := 5) 26 d_Re_readLine_5 (by decide) ⟨by omega, by omega⟩ (fun h_5 => ?_) (fun h_5 => by exfalso; omega)
    refine ar_iconst (pc := 26) d_Re_readLine_26 ?_
    refine ar_zret (pc := 27) d_Re_readLine_27 rfl (by omega) ?_
    rotate_left
    -- leaves: ret 27
    · exact Or.inr ⟨rfl, _, _, Or.inl ⟨k0, rfl, rfl⟩, ls_b_a h q2⟩
theorem lp_Re_read_a (X : gx_T) (d : Nat) {K P N : Nat → Int} {G : mm_T} {n : Nat} (hT : tt_T K P N n G) (hF : fx_R G) : ∀ c l i v o le dd G1, l + c = 8 → i ≤ n → v ≤ 80 → o.length ≤ i → ls_F_a K P N G G1 i v o l le dd → aw_W X mt_Re_read (d + 54) 38 [(0, some (av_r (some 35))), (2, some (av_r (some 42))), (3, some (av_i (l : Int)))] [] G1 0 0 (fun r G' => (r = some (av_i 1) ∧ ∃ m i' v' o' l' le' dd', dr_ok K P N o' l' le' dd' m i v o l le dd ∧ (l' ≤ 8 ∧ o'.length ≤ 500 ∧ i' ≤ n) ∧ ls_F_a K P N G G' i' v' o' l' le' dd') ∨ (r = some (av_i 0) ∧ ∃ m k p, dr_bad K P N k p m i v o l ∧ lb_F_a G G' k p)) := by
  have n5 := hT.2.1
  intro c
  induction c with
  | zero =>
    intro l i v o le dd G1 hc hi hv ho h
    have hl : l = 8 := by omega
    subst hl
    obtain ⟨hT1, hF1, hp⟩ := ls_w_a h hT hF
    have e2 := h.2.2.1.2.1
    obtain ⟨r1, r2, r3⟩ := hT.2.2.2.1 i hi
    have c82 := cm_Re_refuse_a X (d + 52) (k := 2) hT1 hp hi (by omega)
    by_cases hk : K i = 301
    · skip
      refine ar_iload_n (pc := 38) d_Re_read_38 rfl ?_
      refine ar_bipush (pc := 39) d_Re_read_39 (by decide) ?_
      refine ar_icmp_ge (pc := 41) 70 d_Re_read_41 (by decide) ⟨by omega, by omega⟩ ⟨by omega, by omega⟩ (fun h_41 => ?_) (fun h_41 => by exfalso; omega)
      refine ar_aload_n (pc := 70) d_Re_read_70 rfl ?_
      refine ar_getIv (pc := 71) gf_Re_43 d_Re_read_71 (by first | rfl | exact sh_wheel (by omega) | exact sh_milk (by omega)) e2 (fun r_71 => ?_)
      refine ar_sipush (pc := 74) d_Re_read_74 (by decide) ?_
      refine ar_icmp_eq (pc := 77) 88 d_Re_read_77 (by decide) ⟨by omega, by omega⟩ ⟨by omega, by omega⟩ (fun h_77 => ?_) (fun h_77 => by exfalso; omega)
      refine ar_iconst (pc := 88) d_Re_read_88 ?_
      refine ar_goto (pc := 89) 93 d_Re_read_89 (by decide) ?_
      refine ar_zret (pc := 93) d_Re_read_93 rfl (by omega) ?_
      rotate_left
      -- leaves: ret 93
      · exact Or.inl ⟨rfl, 0, i, v, o, 8, le, dd, ⟨hk, rfl, rfl, rfl, rfl⟩, ⟨by omega, by omega, hi⟩, h⟩
    · skip
      refine ar_iload_n (pc := 38) d_Re_read_38 rfl ?_
      refine ar_bipush (pc := 39) d_Re_read_39 (by decide) ?_
      refine ar_icmp_ge (pc := 41) 70 d_Re_read_41 (by decide) ⟨by omega, by omega⟩ ⟨by omega, by omega⟩ (fun h_41 => ?_) (fun h_41 => by exfalso; omega)
      refine ar_aload_n (pc := 70) d_Re_read_70 rfl ?_
      refine ar_getIv (pc := 71) gf_Re_43 d_Re_read_71 (by first | rfl | exact sh_wheel (by omega) | exact sh_milk (by omega)) e2 (fun r_71 => ?_)
      refine ar_sipush (pc := 74) d_Re_read_74 (by decide) ?_
      refine ar_icmp_eq (pc := 77) 88 d_Re_read_77 (by decide) ⟨by omega, by omega⟩ ⟨by omega, by omega⟩ (fun h_77 => by exfalso; omega) (fun h_77 => ?_)
      refine ar_aload_n (pc := 80) d_Re_read_80 rfl ?_
      refine ar_iconst (pc := 81) d_Re_read_81 ?_
      refine ac_virt (pc := 82) (N := mt_Re_refuse) _ _ mv_Re_refuse ml_Re_50 ck_5 d_Re_read_82 c82 (by first | rfl | exact sh_wheel (by omega) | exact sh_milk (by omega)) rfl rfl (Nat.le_of_ble_eq_true rfl) (Nat.le_of_eq (Nat.zero_add _)) (Nat.le_of_eq (Nat.zero_add _)) (fun r_82 G_82 h_82 => ?_)
      obtain ⟨rfl, q82⟩ := h_82
      refine ar_if_eq (pc := 85) 92 d_Re_read_85 (by decide) ⟨by omega, by omega⟩ (fun h_85 => ?_) (fun h_85 => by exfalso; omega)
      refine ar_iconst (pc := 92) d_Re_read_92 ?_
      refine ar_zret (pc := 93) d_Re_read_93 rfl (by omega) ?_
      rotate_left
      -- leaves: ret 93
      · exact Or.inr ⟨rfl, 0, _, _, ⟨hk, Or.inl ⟨rfl, rfl, rfl⟩⟩, ls_b_a h q82⟩
  | succ c ih =>
    intro l i v o le dd G1 hc hi hv ho h
    have e2 := h.2.2.1.2.1
    obtain ⟨r1, r2, r3⟩ := hT.2.2.2.1 i hi
    by_cases hk : K i = 301
    · clear ih
      refine ar_iload_n (pc := 38) d_Re_read_38 rfl ?_
      refine ar_bipush (pc := 39) d_Re_read_39 (by decide) ?_
      refine ar_icmp_ge (pc := 41) 70 d_Re_read_41 (by decide) ⟨by omega, by omega⟩ ⟨by omega, by omega⟩ (fun h_41 => by exfalso; omega) (fun h_41 => ?_)
      refine ar_aload_n (pc := 44) d_Re_read_44 rfl ?_
      refine ar_getIv (pc := 45) gf_Re_43 d_Re_read_45 (by first | rfl | exact sh_wheel (by omega) | exact sh_milk (by omega)) e2 (fun r_45 => ?_)
      refine ar_sipush (pc := 48) d_Re_read_48 (by decide) ?_
      refine ar_icmp_eq (pc := 51) 70 d_Re_read_51 (by decide) ⟨by omega, by omega⟩ ⟨by omega, by omega⟩ (fun h_51 => ?_) (fun h_51 => by exfalso; omega)
      refine ar_aload_n (pc := 70) d_Re_read_70 rfl ?_
      refine ar_getIv (pc := 71) gf_Re_43 d_Re_read_71 (by first | rfl | exact sh_wheel (by omega) | exact sh_milk (by omega)) e2 (fun r_71 => ?_)
      refine ar_sipush (pc := 74) d_Re_read_74 (by decide) ?_
      refine ar_icmp_eq (pc := 77) 88 d_Re_read_77 (by decide) ⟨by omega, by omega⟩ ⟨by omega, by omega⟩ (fun h_77 => ?_) (fun h_77 => by exfalso; omega)
      refine ar_iconst (pc := 88) d_Re_read_88 ?_
      refine ar_goto (pc := 89) 93 d_Re_read_89 (by decide) ?_
      refine ar_zret (pc := 93) d_Re_read_93 rfl (by omega) ?_
      rotate_left
      -- leaves: ret 93
      · exact Or.inl ⟨rfl, 0, i, v, o, l, le, dd, ⟨hk, rfl, rfl, rfl, rfl⟩, ⟨by omega, by omega, hi⟩, h⟩
    · have c56 := cm_Re_readLine_a X d hT hF h hi hv ho (by omega)
      refine ar_iload_n (pc := 38) d_Re_read_38 rfl ?_
      refine ar_bipush (pc := 39) d_Re_read_39 (by decide) ?_
      refine ar_icmp_ge (pc := 41) 70 d_Re_read_41 (by decide) ⟨by omega, by omega⟩ ⟨by omega, by omega⟩ (fun h_41 => by exfalso; omega) (fun h_41 => ?_)
      refine ar_aload_n (pc := 44) d_Re_read_44 rfl ?_
      refine ar_getIv (pc := 45) gf_Re_43 d_Re_read_45 (by first | rfl | exact sh_wheel (by omega) | exact sh_milk (by omega)) e2 (fun r_45 => ?_)
      refine ar_sipush (pc := 48) d_Re_read_48 (by decide) ?_
      refine ar_icmp_eq (pc := 51) 70 d_Re_read_51 (by decide) ⟨by omega, by omega⟩ ⟨by omega, by omega⟩ (fun h_51 => by exfalso; omega) (fun h_51 => ?_)
      refine ar_aload_n (pc := 54) d_Re_read_54 rfl ?_
      refine ar_aload_n (pc := 55) d_Re_read_55 rfl ?_
      refine ac_virt (pc := 56) (N := mt_Re_readLine) _ _ mv_Re_readLine ml_Re_46 ck_5 d_Re_read_56 c56 (by first | rfl | exact sh_wheel (by omega) | exact sh_milk (by omega)) rfl rfl (Nat.le_of_ble_eq_true rfl) (Nat.le_of_eq (Nat.zero_add _)) (Nat.le_of_eq (Nat.zero_add _)) (fun r_56 G_56 h_56 => ?_)
      obtain ⟨rfl, i1, v1, o1, q, ⟨b1, b2, b3, b4, b5⟩, q56⟩ | ⟨rfl, k1, p1, hb1, q56⟩ := h_56
      rotate_left
      rotate_left
      -- leaves: stop 59, stop 59
      · have i1' := ih (l + 1) i1 v1 o1 _ _ G_56 (by omega) b3 b4 b5 q56
        clear ih
        refine ar_if_ne (pc := 59) 64 d_Re_read_59 (by decide) ⟨by omega, by omega⟩ (fun h_59 => ?_) (fun h_59 => by exfalso; omega)
        refine ar_iinc (pc := 64) d_Re_read_64 rfl rfl (by decide) ?_
        refine ar_goto (pc := 67) 38 d_Re_read_67 (by decide) ?_
        rotate_left
        -- leaves: stop 38
        · refine ar_mono (fun r G' hr => ?_) (ar_loc i1' ⟨rfl, rfl, li_i rfl (by omega), trivial⟩)
          rcases hr with ⟨rfl, m, i2, v2, o2, l2, le2, dd2, w1, w2, w3⟩ | ⟨rfl, m, k, p, w1, w2⟩
          · exact Or.inl ⟨rfl, m + 1, i2, v2, o2, l2, le2, dd2, ⟨by omega, hk, i1, v1, o1, q, b1, w1⟩, w2, w3⟩
          · exact Or.inr ⟨rfl, m + 1, k, p, ⟨by omega, hk, i1, v1, o1, q, b1, w1⟩, w2⟩
      · clear ih
        refine ar_if_ne (pc := 59) 64 d_Re_read_59 (by decide) ⟨by omega, by omega⟩ (fun h_59 => by exfalso; omega) (fun h_59 => ?_)
        refine ar_iconst (pc := 62) d_Re_read_62 ?_
        refine ar_zret (pc := 63) d_Re_read_63 rfl (by omega) ?_
        rotate_left
        -- leaves: ret 63
        · exact Or.inr ⟨rfl, 0, k1, p1, ⟨hk, Or.inr ⟨by omega, hb1⟩⟩, q56⟩
/-! orders at 48 -/
theorem rt_all_b (X : gx_T) {K P N : Nat → Int} {G : mm_T} {n : Nat} (hT : tt_T K P N n G) (hF : fx_R G) : ∀ m, m ≤ 8 → ∀ d, ct_O_b X (d + 6 * m + 2) K P N n G (8 - m) := by
  intro m
  induction m with
  | zero => intro _ d; exact rt_8_b X d hT (by omega) (by omega)
  | succ m ih =>
    intro hm d
    have ih := ih (by omega)
    have hA : ∀ d, ct_A_b X (d + 6 * m + 3) K P N n G (8 - m) := fun d => rt_A_b X (d + 6 * m + 1) hT hF (ih d)
    have hE : ∀ d, ct_E_b X (d + 6 * m + 4) K P N n G (8 - m) := fun d => rt_E_b X (d + 6 * m + 2) hT hF (hA d)
    rw [show 8 - m = (8 - (m + 1)) + 1 by omega] at hE ih
    have hTm : ∀ d, ct_T_b X (d + 6 * m + 5) K P N n G (8 - (m + 1)) := fun d => rt_T_b X (d + 6 * m + 2) hT hF (by omega) (hE d)
    have hS : ∀ d, ct_S_b X (d + 6 * m + 6) K P N n G (8 - (m + 1)) := fun d => rt_S_b X (d + 6 * m + 4) hT hF (hTm d)
    have h2 := hS (d + 1)
    have h3 := ih (d + 5)
    rw [show d + 1 + 6 * m + 6 = d + 6 * m + 4 + 3 by omega] at h2
    rw [show d + 5 + 6 * m + 2 = d + 6 * m + 4 + 3 by omega] at h3
    rw [show d + 6 * (m + 1) + 2 = d + 6 * m + 4 + 4 by omega]
    exact rt_O_b X (d + 6 * m + 4) hT hF (by omega) (hS d) h2 h3
theorem rt_e0_b (X : gx_T) (d : Nat) {K P N : Nat → Int} {G : mm_T} {n : Nat} (hT : tt_T K P N n G) (hF : fx_R G) : ct_E_b X (d + 52) K P N n G 0 := rt_E_b X (d + 50) hT hF (rt_A_b X (d + 49) hT hF (rt_all_b X hT hF 8 (Nat.le_refl _) d))
def ls_F_b (K P N : Nat → Int) (G G1 : mm_T) (i v : Nat) (o : List Int) (l : Nat) (le : Nat → Nat) (dd : Nat → Int) : Prop := (mm_R G1 = mm_R G ∧ mm_J G1 = mm_J G ∧ mm_A G1 = mm_A G) ∧ (∀ b k, ¬ (b = 35 ∧ 1 ≤ k ∧ k ≤ 5) → ¬ (b = 48 ∧ (k = 5 ∨ k = 6)) → b ≠ 49 → b ≠ 50 → b ≠ 51 → mm_I G1 b k = mm_I G b k) ∧ (mm_I G1 35 1 = (i : Int) + 1 ∧ mm_I G1 35 2 = K i ∧ mm_I G1 35 3 = P i ∧ mm_I G1 35 4 = N i ∧ mm_I G1 35 5 = v) ∧ mm_I G1 48 5 = (o.length : Nat) ∧ (∀ k, k < o.length → mm_I G1 49 k = o.getD k 0) ∧ mm_I G1 48 6 = l ∧ (∀ j, j < l → mm_I G1 50 j = le (j + 1)) ∧ ∀ j, j < l → mm_I G1 51 j = dd j
def lb_F_b (G G1 : mm_T) (k p : Int) : Prop := (mm_R G1 = mm_R G ∧ mm_J G1 = mm_J G ∧ mm_A G1 = mm_A G) ∧ (∀ b k, ¬ (b = 35 ∧ 1 ≤ k ∧ k ≤ 7) → ¬ (b = 48 ∧ (k = 5 ∨ k = 6)) → b ≠ 49 → b ≠ 50 → b ≠ 51 → mm_I G1 b k = mm_I G b k) ∧ mm_I G1 35 6 = k ∧ mm_I G1 35 7 = p
section
variable {K P N : Nat → Int} {G G1 G2 : mm_T} {i v n l : Nat} {o : List Int} {le : Nat → Nat} {dd : Nat → Int}
theorem ls_w_b (h : ls_F_b K P N G G1 i v o l le dd) (hT : tt_T K P N n G) (hF : fx_R G) : tt_T K P N n G1 ∧ fx_R G1 ∧ pr_F_b K P N G1 G1 i v o := by
  obtain ⟨h1, h2, h3, h4, h5, -⟩ := h
  refine ⟨⟨?_, hT.2.1, fun k hk => ?_, hT.2.2.2⟩, fun a k b q => by rw [h1.1]; exact hF a k b q, ⟨rfl, rfl, rfl⟩, fun _ _ _ _ _ => rfl, h3, h4, h5⟩
  · rw [h2 _ _ (by omega) (by omega) (by omega) (by omega) (by omega)]; exact hT.1
  · rw [h2 _ _ (by omega) (by omega) (by omega) (by omega) (by omega), h2 _ _ (by omega) (by omega) (by omega) (by omega) (by omega), h2 _ _ (by omega) (by omega) (by omega) (by omega) (by omega)]
    exact hT.2.2.1 k hk
theorem ls_c_b {i1 v1 : Nat} {o1 : List Int} (h : ls_F_b K P N G G1 i v o l le dd) (h' : pr_F_b K P N G1 G2 i1 v1 o1) : ls_F_b K P N G G2 i1 v1 o1 l le dd := by
  obtain ⟨h1, h2, h3, h4, h5, h6, h7, h8⟩ := h
  obtain ⟨g1, g2, g3, g4, g5⟩ := h'
  refine ⟨⟨g1.1.trans h1.1, g1.2.1.trans h1.2.1, g1.2.2.trans h1.2.2⟩, fun b k b1 b2 b3 b4 b5 => ?_, g3, g4, g5, ?_, fun j hj => ?_, fun j hj => ?_⟩
  · rw [g2 b k b1 (by omega) b3]; exact h2 b k b1 b2 b3 b4 b5
  · rw [g2 _ _ (by omega) (by omega) (by omega)]; exact h6
  · rw [g2 _ _ (by omega) (by omega) (by omega)]; exact h7 j hj
  · rw [g2 _ _ (by omega) (by omega) (by omega)]; exact h8 j hj
theorem ls_b_b {k p : Int} (h : ls_F_b K P N G G1 i v o l le dd) (h' : pb_F_b G1 G2 k p) : lb_F_b G G2 k p := by
  obtain ⟨h1, h2, -⟩ := h
  obtain ⟨g1, g2, g3, g4⟩ := h'
  exact ⟨⟨g1.1.trans h1.1, g1.2.1.trans h1.2.1, g1.2.2.trans h1.2.2⟩, fun b k b1 b2 b3 b4 b5 => by rw [g2 b k b1 (by omega) b3]; exact h2 b k (by omega) b2 b3 b4 b5, g3, g4⟩
theorem ls_l_b (h : ls_F_b K P N G G1 i v o l le dd) (q : Int) : ls_F_b K P N G (ms_I (ms_I (ms_I G1 50 l (o.length : Nat)) 51 l q) 48 6 ((l : Int) + 1)) i v o (l + 1) (upn le (l + 1) o.length) (upp dd l q) := by
  obtain ⟨h1, h2, ⟨a1, a2, a3, a4, a5⟩, h4, h5, h6, h7, h8⟩ := h
  refine ⟨h1, fun b k b1 b2 b3 b4 b5 => ?_, ⟨?_, ?_, ?_, ?_, ?_⟩, ?_, fun k hk => ?_, ?_, fun j hj => ?_, fun j hj => ?_⟩
  · rw [mi_n (by omega), mi_n (by omega), mi_n (by omega)]; exact h2 b k b1 b2 b3 b4 b5
  · rw [mi_n (by omega), mi_n (by omega), mi_n (by omega)]; exact a1
  · rw [mi_n (by omega), mi_n (by omega), mi_n (by omega)]; exact a2
  · rw [mi_n (by omega), mi_n (by omega), mi_n (by omega)]; exact a3
  · rw [mi_n (by omega), mi_n (by omega), mi_n (by omega)]; exact a4
  · rw [mi_n (by omega), mi_n (by omega), mi_n (by omega)]; exact a5
  · rw [mi_n (by omega), mi_n (by omega), mi_n (by omega)]; exact h4
  · rw [mi_n (by omega), mi_n (by omega), mi_n (by omega)]; exact h5 k hk
  · rw [mi_s]; omega
  · rw [mi_n (by omega), mi_n (by omega)]
    unfold upn
    by_cases e : j = l
    · subst e; rw [mi_s, if_pos rfl]
    · rw [mi_n (by omega), if_neg (by omega)]; exact h7 j (by omega)
  · rw [mi_n (by omega)]
    unfold upp
    by_cases e : j = l
    · subst e; rw [mi_s, if_pos rfl]
    · rw [mi_n (by omega), mi_n (by omega), if_neg (by omega)]; exact h8 j (by omega)
end
theorem cm_Re_readLine_b (X : gx_T) (d : Nat) {K P N : Nat → Int} {G G1 : mm_T} {i v n l : Nat} {o : List Int} {le : Nat → Nat} {dd : Nat → Int} (hT : tt_T K P N n G) (hF : fx_R G) (h : ls_F_b K P N G G1 i v o l le dd) (hi : i ≤ n) (hv : v ≤ 80) (ho : o.length ≤ i) (hl : l < 8) : aw_M X (d + 53) mt_Re_readLine [av_r (some 35), av_r (some 48)] G1 0 0 (fun r G' => (r = some (av_i 1) ∧ ∃ i' v' o' q, (ln_ok K P N i v o i' v' o' q ∧ i < i' ∧ i' ≤ n ∧ v' ≤ 80 ∧ o'.length ≤ i') ∧ ls_F_b K P N G G' i' v' o' (l + 1) (upn le (l + 1) o'.length) (upp dd l q)) ∨ (r = some (av_i 0) ∧ ∃ k p, ln_bad K P N i v o k p ∧ lb_F_b G G' k p)) := by
  obtain ⟨hT1, hF1, hp⟩ := ls_w_b h hT hF
  have n5 := hT.2.1
  have c2 := cm_Re_pass_b X (d + 50) (e := 0) hT1 hF1 hp hi (by omega)
  have hE := rt_e0_b X d hT1 hF1
  refine aw_enter pf_Re_readLine (Nat.le_of_ble_eq_true rfl) ?_
  refine ar_aload_n (pc := 0) d_Re_readLine_0 rfl ?_
  refine ar_iconst (pc := 1) d_Re_readLine_1 ?_
  refine ac_virt (pc := 2) (N := mt_Re_pass) _ _ mv_Re_pass ml_Re_73 ck_5 d_Re_readLine_2 c2 (by first | rfl | exact sh_wheel (by omega) | exact sh_milk (by omega)) rfl rfl (Nat.le_of_ble_eq_true rfl) (Nat.le_of_eq (Nat.zero_add _)) (Nat.le_of_eq (Nat.zero_add _)) (fun r_2 G_2 h_2 => ?_)
  obtain ⟨⟨k0, hin⟩, rfl, q2⟩ | ⟨k0, rfl, q2⟩ := h_2
  rotate_left
  rotate_left
  -- leaves: stop 5, stop 5
  · have c12 := hE (i + 1) v o G_2 (by omega) hv (by omega) q2
    clear hE
    refine ar_if_eq (pc := 5) 26 d_Re_readLine_5 (by decide) ⟨by omega, by omega⟩ (fun h_5 => by exfalso; omega) (fun h_5 => ?_)
    refine ar_aload_n (pc := 8) d_Re_readLine_8 rfl ?_
    refine ar_iconst (pc := 9) d_Re_readLine_9 ?_
    refine ar_iconst (pc := 10) d_Re_readLine_10 ?_
    refine ar_aload_n (pc := 11) d_Re_readLine_11 rfl ?_
    refine ac_virt (pc := 12) (N := mt_Re_readJoined) _ _ mv_Re_readJoined ml_Re_76 ck_5 d_Re_readLine_12 c12 (by first | rfl | exact sh_wheel (by omega) | exact sh_milk (by omega)) rfl rfl (Nat.le_of_ble_eq_true rfl) (Nat.le_of_eq (Nat.zero_add _)) (Nat.le_of_eq (Nat.zero_add _)) (fun r_12 G_12 h_12 => ?_)
    obtain ⟨rfl, i1, v1, o1, ⟨⟨a1, a2, a3, a4⟩, hs1⟩, q12⟩ | ⟨rfl, k1, p1, hb1, q12⟩ := h_12
    rotate_left
    rotate_left
    -- leaves: stop 15, stop 15
    · have c20 := cm_Re_pass_b X (d + 50) (e := 1) hT1 hF1 q12 a2 (by omega)
      refine ar_if_eq (pc := 15) 26 d_Re_readLine_15 (by decide) ⟨by omega, by omega⟩ (fun h_15 => by exfalso; omega) (fun h_15 => ?_)
      refine ar_aload_n (pc := 18) d_Re_readLine_18 rfl ?_
      refine ar_iconst (pc := 19) d_Re_readLine_19 ?_
      refine ac_virt (pc := 20) (N := mt_Re_pass) _ _ mv_Re_pass ml_Re_73 ck_5 d_Re_readLine_20 c20 (by first | rfl | exact sh_wheel (by omega) | exact sh_milk (by omega)) rfl rfl (Nat.le_of_ble_eq_true rfl) (Nat.le_of_eq (Nat.zero_add _)) (Nat.le_of_eq (Nat.zero_add _)) (fun r_20 G_20 h_20 => ?_)
      obtain ⟨⟨k1, hin1⟩, rfl, q20⟩ | ⟨k1, rfl, q20⟩ := h_20
      rotate_left
      rotate_left
      -- leaves: stop 23, stop 23
      · have e2 := q20.2.2.1.2.1
        obtain ⟨r1, r2, r3⟩ := hT1.2.2.2.1 (i1 + 1) (by omega)
        have hl2 := ls_c_b h q20
        obtain ⟨hT2, hF2, hp2⟩ := ls_w_b hl2 hT hF
        have c63 := cm_Or_closeLine_b X (d + 51) G_20 (v := K (i1 + 1)) hF2 ⟨by omega, by omega⟩ hl2.2.2.2.1 (by omega) hl2.2.2.2.2.2.1 hl
        have hl3 := ls_l_b hl2 (K (i1 + 1))
        obtain ⟨hT3, hF3, hp3⟩ := ls_w_b hl3 hT hF
        by_cases hq : K (i1 + 1) = 2 ∨ K (i1 + 1) = 3 ∨ K (i1 + 1) = 4
        · have hin2 := tt_n hT1 (show i1 + 1 ≤ n by omega) (by omega)
          have c67 := cm_Re_step_b X (d + 51) hT3 hF3 hp3 hin2
          have go : aw_W X mt_Re_readLine (d + 53) 58 [(0, some (av_r (some 35))), (1, some (av_r (some 48)))] [] G_20 0 0 (fun r G' => (r = some (av_i 1) ∧ ∃ i' v' o' q, (ln_ok K P N i v o i' v' o' q ∧ i < i' ∧ i' ≤ n ∧ v' ≤ 80 ∧ o'.length ≤ i') ∧ ls_F_b K P N G G' i' v' o' (l + 1) (upn le (l + 1) o'.length) (upp dd l q)) ∨ (r = some (av_i 0) ∧ ∃ k p, ln_bad K P N i v o k p ∧ lb_F_b G G' k p)) := by
            generalize ms_I (ms_I (ms_I G_20 50 l (o1.length : Nat)) 51 l (K (i1 + 1))) 48 6 ((l : Int) + 1) = G3 at *
            refine ar_aload_n (pc := 58) d_Re_readLine_58 rfl ?_
            refine ar_aload_n (pc := 59) d_Re_readLine_59 rfl ?_
            refine ar_getIv (pc := 60) gf_Re_43 d_Re_readLine_60 (by first | rfl | exact sh_wheel (by omega) | exact sh_milk (by omega)) e2 (fun r_60 => ?_)
            refine ac_virt (pc := 63) (N := mt_Or_closeLine) _ _ mv_Or_closeLine ml_Re_80 ck_3 d_Re_readLine_63 c63 (by first | rfl | exact sh_wheel (by omega) | exact sh_milk (by omega)) rfl rfl (Nat.le_of_ble_eq_true rfl) (Nat.le_of_eq (Nat.zero_add _)) (Nat.le_of_eq (Nat.zero_add _)) (fun r_63 G_63 h_63 => ?_)
            obtain ⟨rfl, e_63⟩ := h_63
            subst G_63
            refine ar_aload_n (pc := 66) d_Re_readLine_66 rfl ?_
            refine ac_virt (pc := 67) (N := mt_Re_step) _ _ mv_Re_step ml_Re_32 ck_5 d_Re_readLine_67 c67 (by first | rfl | exact sh_wheel (by omega) | exact sh_milk (by omega)) rfl rfl (Nat.le_of_ble_eq_true rfl) (Nat.le_of_eq (Nat.zero_add _)) (Nat.le_of_eq (Nat.zero_add _)) (fun r_67 G_67 h_67 => ?_)
            obtain ⟨rfl, q67⟩ := h_67
            rotate_left
            -- leaves: stop 70
            · have c73 := cm_Re_pass_b X (d + 50) (e := 59) hT3 hF3 q67 (by omega) (by omega)
              refine ar_aload_n (pc := 70) d_Re_readLine_70 rfl ?_
              refine ar_bipush (pc := 71) d_Re_readLine_71 (by decide) ?_
              refine ac_virt (pc := 73) (N := mt_Re_pass) _ _ mv_Re_pass ml_Re_73 ck_5 d_Re_readLine_73 c73 (by first | rfl | exact sh_wheel (by omega) | exact sh_milk (by omega)) rfl rfl (Nat.le_of_ble_eq_true rfl) (Nat.le_of_eq (Nat.zero_add _)) (Nat.le_of_eq (Nat.zero_add _)) (fun r_73 G_73 h_73 => ?_)
              obtain ⟨⟨k59, hin3⟩, rfl, q73⟩ | ⟨k59, rfl, q73⟩ := h_73
              refine ar_zret (pc := 76) d_Re_readLine_76 rfl (by omega) ?_
              rotate_left
              refine ar_zret (pc := 76) d_Re_readLine_76 rfl (by omega) ?_
              rotate_left
              -- leaves: ret 76, ret 76
              · exact Or.inl ⟨rfl, i1 + 3, v1, o1, K (i1 + 1), ⟨⟨k0, i1, hs1, k1, rfl, hq, k59, rfl⟩, by omega, by omega, a3, by omega⟩, ls_c_b hl3 q73⟩
              · exact Or.inr ⟨rfl, _, _, Or.inr (Or.inr ⟨k0, i1, v1, o1, hs1, Or.inr (Or.inr ⟨k1, hq, k59, rfl, rfl⟩)⟩), ls_b_b hl3 q73⟩
          refine ar_if_ne (pc := 23) 28 d_Re_readLine_23 (by decide) ⟨by omega, by omega⟩ (fun h_23 => ?_) (fun h_23 => by exfalso; omega)
          refine ar_aload_n (pc := 28) d_Re_readLine_28 rfl ?_
          refine ar_getIv (pc := 29) gf_Re_43 d_Re_readLine_29 (by first | rfl | exact sh_wheel (by omega) | exact sh_milk (by omega)) e2 (fun r_29 => ?_)
          refine ar_iconst (pc := 32) d_Re_readLine_32 ?_
          refine ar_icmp_eq (pc := 33) 58 d_Re_readLine_33 (by decide) ⟨by omega, by omega⟩ ⟨by omega, by omega⟩ (fun h_33 => ?_) (fun h_33 => ?_)
          rotate_left
          refine ar_aload_n (pc := 36) d_Re_readLine_36 rfl ?_
          refine ar_getIv (pc := 37) gf_Re_43 d_Re_readLine_37 (by first | rfl | exact sh_wheel (by omega) | exact sh_milk (by omega)) e2 (fun r_37 => ?_)
          refine ar_iconst (pc := 40) d_Re_readLine_40 ?_
          refine ar_icmp_eq (pc := 41) 58 d_Re_readLine_41 (by decide) ⟨by omega, by omega⟩ ⟨by omega, by omega⟩ (fun h_41 => ?_) (fun h_41 => ?_)
          rotate_left
          refine ar_aload_n (pc := 44) d_Re_readLine_44 rfl ?_
          refine ar_getIv (pc := 45) gf_Re_43 d_Re_readLine_45 (by first | rfl | exact sh_wheel (by omega) | exact sh_milk (by omega)) e2 (fun r_45 => ?_)
          refine ar_iconst (pc := 48) d_Re_readLine_48 ?_
          refine ar_icmp_eq (pc := 49) 58 d_Re_readLine_49 (by decide) ⟨by omega, by omega⟩ ⟨by omega, by omega⟩ (fun h_49 => ?_) (fun h_49 => ?_)
          rotate_left
          rotate_left
          -- leaves: stop 58, stop 58, stop 58, stop 52
          all_goals first | (exfalso; omega) | exact ar_loc go ⟨rfl, rfl, trivial⟩
        · have c54 := cm_Re_refuse_b X (d + 51) (k := 2) hT2 hp2 (by omega) (by omega)
          refine ar_if_ne (pc := 23) 28 d_Re_readLine_23 (by decide) ⟨by omega, by omega⟩ (fun h_23 => ?_) (fun h_23 => by exfalso; omega)
          refine ar_aload_n (pc := 28) d_Re_readLine_28 rfl ?_
          refine ar_getIv (pc := 29) gf_Re_43 d_Re_readLine_29 (by first | rfl | exact sh_wheel (by omega) | exact sh_milk (by omega)) e2 (fun r_29 => ?_)
          refine ar_iconst (pc := 32) d_Re_readLine_32 ?_
          refine ar_icmp_eq (pc := 33) 58 d_Re_readLine_33 (by decide) ⟨by omega, by omega⟩ ⟨by omega, by omega⟩ (fun h_33 => by exfalso; omega) (fun h_33 => ?_)
          refine ar_aload_n (pc := 36) d_Re_readLine_36 rfl ?_
          refine ar_getIv (pc := 37) gf_Re_43 d_Re_readLine_37 (by first | rfl | exact sh_wheel (by omega) | exact sh_milk (by omega)) e2 (fun r_37 => ?_)
          refine ar_iconst (pc := 40) d_Re_readLine_40 ?_
          refine ar_icmp_eq (pc := 41) 58 d_Re_readLine_41 (by decide) ⟨by omega, by omega⟩ ⟨by omega, by omega⟩ (fun h_41 => by exfalso; omega) (fun h_41 => ?_)
          refine ar_aload_n (pc := 44) d_Re_readLine_44 rfl ?_
          refine ar_getIv (pc := 45) gf_Re_43 d_Re_readLine_45 (by first | rfl | exact sh_wheel (by omega) | exact sh_milk (by omega)) e2 (fun r_45 => ?_)
          refine ar_iconst (pc := 48) d_Re_readLine_48 ?_
          refine ar_icmp_eq (pc := 49) 58 d_Re_readLine_49 (by decide) ⟨by omega, by omega⟩ ⟨by omega, by omega⟩ (fun h_49 => by exfalso; omega) (fun h_49 => ?_)
          refine ar_aload_n (pc := 52) d_Re_readLine_52 rfl ?_
          refine ar_iconst (pc := 53) d_Re_readLine_53 ?_
          refine ac_virt (pc := 54) (N := mt_Re_refuse) _ _ mv_Re_refuse ml_Re_50 ck_5 d_Re_readLine_54 c54 (by first | rfl | exact sh_wheel (by omega) | exact sh_milk (by omega)) rfl rfl (Nat.le_of_ble_eq_true rfl) (Nat.le_of_eq (Nat.zero_add _)) (Nat.le_of_eq (Nat.zero_add _)) (fun r_54 G_54 h_54 => ?_)
          obtain ⟨rfl, q54⟩ := h_54
          refine ar_zret (pc := 57) d_Re_readLine_57 rfl (by omega) ?_
          rotate_left
          -- leaves: ret 57
          · exact Or.inr ⟨rfl, _, _, Or.inr (Or.inr ⟨k0, i1, v1, o1, hs1, Or.inr (Or.inl ⟨k1, hq, rfl, rfl⟩)⟩), ls_b_b hl2 q54⟩
      · skip
        refine ar_if_ne (pc := 23) 28 d_Re_readLine_23 (by decide) ⟨by omega, by omega⟩ (fun h_23 => by exfalso; omega) (fun h_23 => ?_)
        refine ar_iconst (pc := 26) d_Re_readLine_26 ?_
        refine ar_zret (pc := 27) d_Re_readLine_27 rfl (by omega) ?_
        rotate_left
        -- leaves: ret 27
        · exact Or.inr ⟨rfl, _, _, Or.inr (Or.inr ⟨k0, i1, v1, o1, hs1, Or.inl ⟨k1, rfl, rfl⟩⟩), ls_b_b h q20⟩
    · skip
      refine ar_if_eq (pc := 15) 26 d_Re_readLine_15 (by decide) ⟨by omega, by omega⟩ (fun h_15 => ?_) (fun h_15 => by exfalso; omega)
      refine ar_iconst (pc := 26) d_Re_readLine_26 ?_
      refine ar_zret (pc := 27) d_Re_readLine_27 rfl (by omega) ?_
      rotate_left
      -- leaves: ret 27
      · exact Or.inr ⟨rfl, _, _, Or.inr (Or.inl ⟨k0, hb1⟩), ls_b_b h q12⟩
  · skip
    refine ar_if_eq (pc := 5) 26 d_Re_readLine_5 (by decide) ⟨by omega, by omega⟩ (fun h_5 => ?_) (fun h_5 => by exfalso; omega)
    refine ar_iconst (pc := 26) d_Re_readLine_26 ?_
    refine ar_zret (pc := 27) d_Re_readLine_27 rfl (by omega) ?_
    rotate_left
    -- leaves: ret 27
    · exact Or.inr ⟨rfl, _, _, Or.inl ⟨k0, rfl, rfl⟩, ls_b_b h q2⟩
theorem lp_Re_read_b (X : gx_T) (d : Nat) {K P N : Nat → Int} {G : mm_T} {n : Nat} (hT : tt_T K P N n G) (hF : fx_R G) : ∀ c l i v o le dd G1, l + c = 8 → i ≤ n → v ≤ 80 → o.length ≤ i → ls_F_b K P N G G1 i v o l le dd → aw_W X mt_Re_read (d + 54) 38 [(0, some (av_r (some 35))), (2, some (av_r (some 48))), (3, some (av_i (l : Int)))] [] G1 0 0 (fun r G' => (r = some (av_i 1) ∧ ∃ m i' v' o' l' le' dd', dr_ok K P N o' l' le' dd' m i v o l le dd ∧ (l' ≤ 8 ∧ o'.length ≤ 500 ∧ i' ≤ n) ∧ ls_F_b K P N G G' i' v' o' l' le' dd') ∨ (r = some (av_i 0) ∧ ∃ m k p, dr_bad K P N k p m i v o l ∧ lb_F_b G G' k p)) := by
  have n5 := hT.2.1
  intro c
  induction c with
  | zero =>
    intro l i v o le dd G1 hc hi hv ho h
    have hl : l = 8 := by omega
    subst hl
    obtain ⟨hT1, hF1, hp⟩ := ls_w_b h hT hF
    have e2 := h.2.2.1.2.1
    obtain ⟨r1, r2, r3⟩ := hT.2.2.2.1 i hi
    have c82 := cm_Re_refuse_b X (d + 52) (k := 2) hT1 hp hi (by omega)
    by_cases hk : K i = 301
    · skip
      refine ar_iload_n (pc := 38) d_Re_read_38 rfl ?_
      refine ar_bipush (pc := 39) d_Re_read_39 (by decide) ?_
      refine ar_icmp_ge (pc := 41) 70 d_Re_read_41 (by decide) ⟨by omega, by omega⟩ ⟨by omega, by omega⟩ (fun h_41 => ?_) (fun h_41 => by exfalso; omega)
      refine ar_aload_n (pc := 70) d_Re_read_70 rfl ?_
      refine ar_getIv (pc := 71) gf_Re_43 d_Re_read_71 (by first | rfl | exact sh_wheel (by omega) | exact sh_milk (by omega)) e2 (fun r_71 => ?_)
      refine ar_sipush (pc := 74) d_Re_read_74 (by decide) ?_
      refine ar_icmp_eq (pc := 77) 88 d_Re_read_77 (by decide) ⟨by omega, by omega⟩ ⟨by omega, by omega⟩ (fun h_77 => ?_) (fun h_77 => by exfalso; omega)
      refine ar_iconst (pc := 88) d_Re_read_88 ?_
      refine ar_goto (pc := 89) 93 d_Re_read_89 (by decide) ?_
      refine ar_zret (pc := 93) d_Re_read_93 rfl (by omega) ?_
      rotate_left
      -- leaves: ret 93
      · exact Or.inl ⟨rfl, 0, i, v, o, 8, le, dd, ⟨hk, rfl, rfl, rfl, rfl⟩, ⟨by omega, by omega, hi⟩, h⟩
    · skip
      refine ar_iload_n (pc := 38) d_Re_read_38 rfl ?_
      refine ar_bipush (pc := 39) d_Re_read_39 (by decide) ?_
      refine ar_icmp_ge (pc := 41) 70 d_Re_read_41 (by decide) ⟨by omega, by omega⟩ ⟨by omega, by omega⟩ (fun h_41 => ?_) (fun h_41 => by exfalso; omega)
      refine ar_aload_n (pc := 70) d_Re_read_70 rfl ?_
      refine ar_getIv (pc := 71) gf_Re_43 d_Re_read_71 (by first | rfl | exact sh_wheel (by omega) | exact sh_milk (by omega)) e2 (fun r_71 => ?_)
      refine ar_sipush (pc := 74) d_Re_read_74 (by decide) ?_
      refine ar_icmp_eq (pc := 77) 88 d_Re_read_77 (by decide) ⟨by omega, by omega⟩ ⟨by omega, by omega⟩ (fun h_77 => by exfalso; omega) (fun h_77 => ?_)
      refine ar_aload_n (pc := 80) d_Re_read_80 rfl ?_
      refine ar_iconst (pc := 81) d_Re_read_81 ?_
      refine ac_virt (pc := 82) (N := mt_Re_refuse) _ _ mv_Re_refuse ml_Re_50 ck_5 d_Re_read_82 c82 (by first | rfl | exact sh_wheel (by omega) | exact sh_milk (by omega)) rfl rfl (Nat.le_of_ble_eq_true rfl) (Nat.le_of_eq (Nat.zero_add _)) (Nat.le_of_eq (Nat.zero_add _)) (fun r_82 G_82 h_82 => ?_)
      obtain ⟨rfl, q82⟩ := h_82
      refine ar_if_eq (pc := 85) 92 d_Re_read_85 (by decide) ⟨by omega, by omega⟩ (fun h_85 => ?_) (fun h_85 => by exfalso; omega)
      refine ar_iconst (pc := 92) d_Re_read_92 ?_
      refine ar_zret (pc := 93) d_Re_read_93 rfl (by omega) ?_
      rotate_left
      -- leaves: ret 93
      · exact Or.inr ⟨rfl, 0, _, _, ⟨hk, Or.inl ⟨rfl, rfl, rfl⟩⟩, ls_b_b h q82⟩
  | succ c ih =>
    intro l i v o le dd G1 hc hi hv ho h
    have e2 := h.2.2.1.2.1
    obtain ⟨r1, r2, r3⟩ := hT.2.2.2.1 i hi
    by_cases hk : K i = 301
    · clear ih
      refine ar_iload_n (pc := 38) d_Re_read_38 rfl ?_
      refine ar_bipush (pc := 39) d_Re_read_39 (by decide) ?_
      refine ar_icmp_ge (pc := 41) 70 d_Re_read_41 (by decide) ⟨by omega, by omega⟩ ⟨by omega, by omega⟩ (fun h_41 => by exfalso; omega) (fun h_41 => ?_)
      refine ar_aload_n (pc := 44) d_Re_read_44 rfl ?_
      refine ar_getIv (pc := 45) gf_Re_43 d_Re_read_45 (by first | rfl | exact sh_wheel (by omega) | exact sh_milk (by omega)) e2 (fun r_45 => ?_)
      refine ar_sipush (pc := 48) d_Re_read_48 (by decide) ?_
      refine ar_icmp_eq (pc := 51) 70 d_Re_read_51 (by decide) ⟨by omega, by omega⟩ ⟨by omega, by omega⟩ (fun h_51 => ?_) (fun h_51 => by exfalso; omega)
      refine ar_aload_n (pc := 70) d_Re_read_70 rfl ?_
      refine ar_getIv (pc := 71) gf_Re_43 d_Re_read_71 (by first | rfl | exact sh_wheel (by omega) | exact sh_milk (by omega)) e2 (fun r_71 => ?_)
      refine ar_sipush (pc := 74) d_Re_read_74 (by decide) ?_
      refine ar_icmp_eq (pc := 77) 88 d_Re_read_77 (by decide) ⟨by omega, by omega⟩ ⟨by omega, by omega⟩ (fun h_77 => ?_) (fun h_77 => by exfalso; omega)
      refine ar_iconst (pc := 88) d_Re_read_88 ?_
      refine ar_goto (pc := 89) 93 d_Re_read_89 (by decide) ?_
      refine ar_zret (pc := 93) d_Re_read_93 rfl (by omega) ?_
      rotate_left
      -- leaves: ret 93
      · exact Or.inl ⟨rfl, 0, i, v, o, l, le, dd, ⟨hk, rfl, rfl, rfl, rfl⟩, ⟨by omega, by omega, hi⟩, h⟩
    · have c56 := cm_Re_readLine_b X d hT hF h hi hv ho (by omega)
      refine ar_iload_n (pc := 38) d_Re_read_38 rfl ?_
      refine ar_bipush (pc := 39) d_Re_read_39 (by decide) ?_
      refine ar_icmp_ge (pc := 41) 70 d_Re_read_41 (by decide) ⟨by omega, by omega⟩ ⟨by omega, by omega⟩ (fun h_41 => by exfalso; omega) (fun h_41 => ?_)
      refine ar_aload_n (pc := 44) d_Re_read_44 rfl ?_
      refine ar_getIv (pc := 45) gf_Re_43 d_Re_read_45 (by first | rfl | exact sh_wheel (by omega) | exact sh_milk (by omega)) e2 (fun r_45 => ?_)
      refine ar_sipush (pc := 48) d_Re_read_48 (by decide) ?_
      refine ar_icmp_eq (pc := 51) 70 d_Re_read_51 (by decide) ⟨by omega, by omega⟩ ⟨by omega, by omega⟩ (fun h_51 => by exfalso; omega) (fun h_51 => ?_)
      refine ar_aload_n (pc := 54) d_Re_read_54 rfl ?_
      refine ar_aload_n (pc := 55) d_Re_read_55 rfl ?_
      refine ac_virt (pc := 56) (N := mt_Re_readLine) _ _ mv_Re_readLine ml_Re_46 ck_5 d_Re_read_56 c56 (by first | rfl | exact sh_wheel (by omega) | exact sh_milk (by omega)) rfl rfl (Nat.le_of_ble_eq_true rfl) (Nat.le_of_eq (Nat.zero_add _)) (Nat.le_of_eq (Nat.zero_add _)) (fun r_56 G_56 h_56 => ?_)
      obtain ⟨rfl, i1, v1, o1, q, ⟨b1, b2, b3, b4, b5⟩, q56⟩ | ⟨rfl, k1, p1, hb1, q56⟩ := h_56
      rotate_left
      rotate_left
      -- leaves: stop 59, stop 59
      · have i1' := ih (l + 1) i1 v1 o1 _ _ G_56 (by omega) b3 b4 b5 q56
        clear ih
        refine ar_if_ne (pc := 59) 64 d_Re_read_59 (by decide) ⟨by omega, by omega⟩ (fun h_59 => ?_) (fun h_59 => by exfalso; omega)
        refine ar_iinc (pc := 64) d_Re_read_64 rfl rfl (by decide) ?_
        refine ar_goto (pc := 67) 38 d_Re_read_67 (by decide) ?_
        rotate_left
        -- leaves: stop 38
        · refine ar_mono (fun r G' hr => ?_) (ar_loc i1' ⟨rfl, rfl, li_i rfl (by omega), trivial⟩)
          rcases hr with ⟨rfl, m, i2, v2, o2, l2, le2, dd2, w1, w2, w3⟩ | ⟨rfl, m, k, p, w1, w2⟩
          · exact Or.inl ⟨rfl, m + 1, i2, v2, o2, l2, le2, dd2, ⟨by omega, hk, i1, v1, o1, q, b1, w1⟩, w2, w3⟩
          · exact Or.inr ⟨rfl, m + 1, k, p, ⟨by omega, hk, i1, v1, o1, q, b1, w1⟩, w2⟩
      · clear ih
        refine ar_if_ne (pc := 59) 64 d_Re_read_59 (by decide) ⟨by omega, by omega⟩ (fun h_59 => by exfalso; omega) (fun h_59 => ?_)
        refine ar_iconst (pc := 62) d_Re_read_62 ?_
        refine ar_zret (pc := 63) d_Re_read_63 rfl (by omega) ?_
        rotate_left
        -- leaves: ret 63
        · exact Or.inr ⟨rfl, 0, k1, p1, ⟨hk, Or.inr ⟨by omega, hb1⟩⟩, q56⟩
