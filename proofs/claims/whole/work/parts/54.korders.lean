/-! ===== orders of the class ===== -/
def pl_i (B : Nat → Int) (z : Nat) : Nat → Int := fun k => (ps_k B z k : Nat)
theorem tt_of {B : Nat → Int} {z n : Nat} {G G1 : mm_T} (bb : bb_B B z) (hE : te_E B z n) (h : tf_F B z G G1 (n + 1)) : tt_T (tn_K B z) (pl_i B z) (tn_M B z) n G1 := by
  obtain ⟨h1, h2, h3, h4⟩ := h
  obtain ⟨e1, e2, e3⟩ := hE
  refine ⟨by rw [h3]; omega, e1, fun k hk => h4 k (by omega), fun k hk => ⟨tk_r bb, ?_, tm_r bb⟩, e2, e3⟩
  have := ps_z bb k (fun j hj => (e3 j (by omega)).2)
  have := bb.1
  unfold pl_i
  omega
theorem tt_up {K P N : Nat → Int} {n : Nat} {G G1 : mm_T} (h : tt_T K P N n G) (e : ∀ b k, (b = 36 ∨ b = 37 ∨ b = 38 ∨ b = 39) → mm_I G1 b k = mm_I G b k) : tt_T K P N n G1 := by
  obtain ⟨h1, h2, h3, h4⟩ := h
  exact ⟨by rw [e _ _ (by omega)]; exact h1, h2, fun k hk => by rw [e _ _ (by omega), e _ _ (by omega), e _ _ (by omega)]; exact h3 k hk, h4⟩
theorem cm_Re_step0 (X : gx_T) (d : Nat) {K P N : Nat → Int} {G1 : mm_T} {n : Nat} (hT : tt_T K P N n G1) (hF : fx_R G1) (e1 : mm_I G1 35 1 = 0) : aw_M X (d + 1) mt_Re_step [av_r (some 35)] G1 0 0 (fun r G' => r = none ∧ G' = ms_I (ms_I (ms_I (ms_I G1 35 2 (K 0)) 35 3 (P 0)) 35 4 (N 0)) 35 1 (0 + 1)) := by
  obtain ⟨t1, n5, t2, t3, -⟩ := hT
  obtain ⟨k1, k2, k3⟩ := t2 0 (by omega)
  obtain ⟨r1, r2, r3⟩ := t3 0 (by omega)
  clear t2 t3
  refine aw_enter pf_Re_step (Nat.le_of_ble_eq_true rfl) ?_
  refine ar_aload_n (pc := 0) d_Re_step_0 rfl ?_
  refine ar_getIv (pc := 1) gf_Re_29 d_Re_step_1 (by first | rfl | exact sh_wheel (by omega) | exact sh_milk (by omega)) e1 (fun r_1 => ?_)
  refine ar_aload_n (pc := 4) d_Re_step_4 rfl ?_
  refine ar_getR (pc := 5) gf_Re_12 d_Re_step_5 (by first | rfl | exact sh_wheel (by omega) | exact sh_milk (by omega)) (hF _ _ _ rfl) ?_
  refine ar_getIv (pc := 8) gf_Re_54 d_Re_step_8 (by first | rfl | exact sh_wheel (by omega) | exact sh_milk (by omega)) t1 (fun r_8 => ?_)
  refine ar_icmp_ge (pc := 11) 72 d_Re_step_11 (by decide) ⟨by omega, by omega⟩ ⟨by omega, by omega⟩ (fun h_11 => by exfalso; omega) (fun h_11 => ?_)
  refine ar_aload_n (pc := 14) d_Re_step_14 rfl ?_
  refine ar_aload_n (pc := 15) d_Re_step_15 rfl ?_
  refine ar_getR (pc := 16) gf_Re_12 d_Re_step_16 (by first | rfl | exact sh_wheel (by omega) | exact sh_milk (by omega)) (hF _ _ _ rfl) ?_
  refine ar_getR (pc := 19) gf_Re_57 d_Re_step_19 (by first | rfl | exact sh_wheel (by omega) | exact sh_milk (by omega)) (hF _ _ _ rfl) ?_
  refine ar_aload_n (pc := 22) d_Re_step_22 rfl ?_
  refine ar_getIv (pc := 23) gf_Re_29 d_Re_step_23 (by first | rfl | exact sh_wheel (by omega) | exact sh_milk (by omega)) e1 (fun r_23 => ?_)
  refine ar_ialdv (pc := 26) d_Re_step_26 rfl (0) (by omega) (by omega) (show _ = K 0 from k1) (fun r_26 => ?_)
  refine ar_putI (pc := 27) gf_Re_43 d_Re_step_27 rfl (by first | rfl | exact sh_wheel (by omega) | exact sh_milk (by omega)) ⟨by omega, by omega⟩ ?_
  refine ar_aload_n (pc := 30) d_Re_step_30 rfl ?_
  refine ar_aload_n (pc := 31) d_Re_step_31 rfl ?_
  refine ar_getR (pc := 32) gf_Re_12 d_Re_step_32 (by first | rfl | exact sh_wheel (by omega) | exact sh_milk (by omega)) (hF _ _ _ rfl) ?_
  refine ar_getR (pc := 35) gf_Re_61 d_Re_step_35 (by first | rfl | exact sh_wheel (by omega) | exact sh_milk (by omega)) (hF _ _ _ rfl) ?_
  refine ar_aload_n (pc := 38) d_Re_step_38 rfl ?_
  refine ar_getIv (pc := 39) gf_Re_29 d_Re_step_39 (by first | rfl | exact sh_wheel (by omega) | exact sh_milk (by omega)) (show _ = (0 : Int) from e1) (fun r_39 => ?_)
  refine ar_ialdv (pc := 42) d_Re_step_42 rfl (0) (by omega) (by omega) (show _ = P 0 from k2) (fun r_42 => ?_)
  refine ar_putI (pc := 43) gf_Re_64 d_Re_step_43 rfl (by first | rfl | exact sh_wheel (by omega) | exact sh_milk (by omega)) ⟨by omega, by omega⟩ ?_
  refine ar_aload_n (pc := 46) d_Re_step_46 rfl ?_
  refine ar_aload_n (pc := 47) d_Re_step_47 rfl ?_
  refine ar_getR (pc := 48) gf_Re_12 d_Re_step_48 (by first | rfl | exact sh_wheel (by omega) | exact sh_milk (by omega)) (hF _ _ _ rfl) ?_
  refine ar_getR (pc := 51) gf_Re_67 d_Re_step_51 (by first | rfl | exact sh_wheel (by omega) | exact sh_milk (by omega)) (hF _ _ _ rfl) ?_
  refine ar_aload_n (pc := 54) d_Re_step_54 rfl ?_
  refine ar_getIv (pc := 55) gf_Re_29 d_Re_step_55 (by first | rfl | exact sh_wheel (by omega) | exact sh_milk (by omega)) (show _ = (0 : Int) from e1) (fun r_55 => ?_)
  refine ar_ialdv (pc := 58) d_Re_step_58 rfl (0) (by omega) (by omega) (show _ = N 0 from k3) (fun r_58 => ?_)
  refine ar_putI (pc := 59) gf_Re_70 d_Re_step_59 rfl (by first | rfl | exact sh_wheel (by omega) | exact sh_milk (by omega)) ⟨by omega, by omega⟩ ?_
  refine ar_aload_n (pc := 62) d_Re_step_62 rfl ?_
  refine ar_dup (pc := 63) d_Re_step_63 rfl ?_
  refine ar_getIv (pc := 64) gf_Re_29 d_Re_step_64 (by first | rfl | exact sh_wheel (by omega) | exact sh_milk (by omega)) (show _ = (0 : Int) from e1) (fun r_64 => ?_)
  refine ar_iconst (pc := 67) d_Re_step_67 ?_
  refine ar_iadd (pc := 68) d_Re_step_68 ?_
  refine ar_putI (pc := 69) gf_Re_29 d_Re_step_69 rfl (by first | rfl | exact sh_wheel (by omega) | exact sh_milk (by omega)) ⟨by omega, by omega⟩ ?_
  refine ar_ret (pc := 72) d_Re_step_72 rfl ?_
  rotate_left
  -- leaves: ret 72
  · exact ⟨rfl, rfl⟩
def z0_n : Nat → Nat := fun _ => 0
def z0_i : Nat → Int := fun _ => 0
/-! orders at 42 -/
/-- what stays while the orders at 42 are read -/
def rd_F_a (G G' : mm_T) : Prop := (mm_R G' = mm_R G ∧ mm_J G' = mm_J G ∧ mm_A G' = mm_A G) ∧ ∀ b k, ¬ (b = 35 ∧ 1 ≤ k ∧ k ≤ 7) → ¬ (b = 36 ∧ k = 3) → b ≠ 37 → b ≠ 38 → b ≠ 39 → ¬ (b = 42 ∧ (k = 5 ∨ k = 6)) → b ≠ 43 → b ≠ 44 → b ≠ 45 → mm_I G' b k = mm_I G b k
/-- the program that was read -/
def rp_F_a (G' : mm_T) (o : List Int) (l : Nat) (le : Nat → Nat) (dd : Nat → Int) : Prop := (l ≤ 8 ∧ o.length ≤ 500) ∧ (∀ k, k < o.length → mm_I G' 43 k = o.getD k 0) ∧ mm_I G' 42 6 = l ∧ (∀ j, j < l → mm_I G' 44 j = le (j + 1)) ∧ ∀ j, j < l → mm_I G' 45 j = dd j
theorem cm_Re_read_a (X : gx_T) (d : Nat) (G : mm_T) {B : Nat → Int} {z : Nat} (hF : fx_R G) (hz : mm_I G 33 1 = z) (bb : bb_B B z) (hB : tb_v G = B) : aw_M X (d + 54) mt_Re_read [av_r (some 35), av_r (some 33), av_r (some 42)] G 0 0 (fun r G' => ∃ n, te_E B z n ∧ ((r = some (av_i 1) ∧ ∃ m o l le dd, dr_ok (tn_K B z) (pl_i B z) (tn_M B z) o l le dd m 0 0 [] 0 z0_n z0_i ∧ rp_F_a G' o l le dd ∧ rd_F_a G G' ∧ mm_I G' 35 6 = 0 ∧ mm_I G' 35 7 = -1) ∨ (r = some (av_i 0) ∧ ∃ m k p, dr_bad (tn_K B z) (pl_i B z) (tn_M B z) k p m 0 0 [] 0 ∧ rd_F_a G G' ∧ mm_I G' 35 6 = k ∧ mm_I G' 35 7 = p))) := by
  have c5 := cm_To_cut X (d + 44) G hF hz bb hB
  refine aw_enter pf_Re_read (Nat.le_of_ble_eq_true rfl) ?_
  refine ar_aload_n (pc := 0) d_Re_read_0 rfl ?_
  refine ar_getR (pc := 1) gf_Re_12 d_Re_read_1 (by first | rfl | exact sh_wheel (by omega) | exact sh_milk (by omega)) (hF _ _ _ rfl) ?_
  refine ar_aload_n (pc := 4) d_Re_read_4 rfl ?_
  refine ac_virt (pc := 5) (N := mt_To_cut) _ _ mv_To_cut ml_Re_25 ck_9 d_Re_read_5 c5 (by first | rfl | exact sh_wheel (by omega) | exact sh_milk (by omega)) rfl rfl (Nat.le_of_ble_eq_true rfl) (Nat.le_of_eq (Nat.zero_add _)) (Nat.le_of_eq (Nat.zero_add _)) (fun r_5 G_5 h_5 => ?_)
  obtain ⟨rfl, n, hE, hf⟩ := h_5
  rotate_left
  -- leaves: stop 8
  · have hT0 := tt_of bb hE hf
    obtain ⟨⟨f1, f2, f3⟩, f4, -⟩ := hf
    have hF1 : fx_R G_5 := fun a k b q => by rw [f1]; exact hF a k b q
    have hT1 := tt_up (G1 := ms_I G_5 35 1 0) hT0 (fun b k hb => mi_n (by omega))
    have c14 := cm_Re_step0 X (d + 52) hT1 (by exact hF1) (by exact mi_s _ _ _ _)
    have c33 := cm_Or_clear_a X (d + 52) (ms_I (ms_I (ms_I (ms_I (ms_I (ms_I (ms_I (ms_I G_5 35 1 0) 35 2 (tn_K B z 0)) 35 3 (pl_i B z 0)) 35 4 (tn_M B z 0)) 35 1 (0 + 1)) 35 5 0) 35 6 0) 35 7 (-1))
    suffices hh : ∀ G3, G3 = ms_I (ms_I (ms_I (ms_I (ms_I (ms_I (ms_I (ms_I (ms_I (ms_I G_5 35 1 0) 35 2 (tn_K B z 0)) 35 3 (pl_i B z 0)) 35 4 (tn_M B z 0)) 35 1 (0 + 1)) 35 5 0) 35 6 0) 35 7 (-1)) 42 5 0) 42 6 0 → aw_W X mt_Re_read (d + 54) 38 [(0, some (av_r (some 35))), (2, some (av_r (some 42))), (3, some (av_i 0))] [] G3 0 0 (fun r G' => ∃ n, te_E B z n ∧ ((r = some (av_i 1) ∧ ∃ m o l le dd, dr_ok (tn_K B z) (pl_i B z) (tn_M B z) o l le dd m 0 0 [] 0 z0_n z0_i ∧ rp_F_a G' o l le dd ∧ rd_F_a G G' ∧ mm_I G' 35 6 = 0 ∧ mm_I G' 35 7 = -1) ∨ (r = some (av_i 0) ∧ ∃ m k p, dr_bad (tn_K B z) (pl_i B z) (tn_M B z) k p m 0 0 [] 0 ∧ rd_F_a G G' ∧ mm_I G' 35 6 = k ∧ mm_I G' 35 7 = p))) by
      have hF := hF1
      refine ar_aload_n (pc := 8) d_Re_read_8 rfl ?_
      refine ar_iconst (pc := 9) d_Re_read_9 ?_
      refine ar_putI (pc := 10) gf_Re_29 d_Re_read_10 rfl (by first | rfl | exact sh_wheel (by omega) | exact sh_milk (by omega)) ⟨by omega, by omega⟩ ?_
      refine ar_aload_n (pc := 13) d_Re_read_13 rfl ?_
      refine ac_virt (pc := 14) (N := mt_Re_step) _ _ mv_Re_step ml_Re_32 ck_5 d_Re_read_14 c14 (by first | rfl | exact sh_wheel (by omega) | exact sh_milk (by omega)) rfl rfl (Nat.le_of_ble_eq_true rfl) (Nat.le_of_eq (Nat.zero_add _)) (Nat.le_of_eq (Nat.zero_add _)) (fun r_14 G_14 h_14 => ?_)
      obtain ⟨rfl, e_14⟩ := h_14
      subst G_14
      refine ar_aload_n (pc := 17) d_Re_read_17 rfl ?_
      refine ar_iconst (pc := 18) d_Re_read_18 ?_
      refine ar_putI (pc := 19) gf_Re_35 d_Re_read_19 rfl (by first | rfl | exact sh_wheel (by omega) | exact sh_milk (by omega)) ⟨by omega, by omega⟩ ?_
      refine ar_aload_n (pc := 22) d_Re_read_22 rfl ?_
      refine ar_iconst (pc := 23) d_Re_read_23 ?_
      refine ar_putI (pc := 24) gf_Re_18 d_Re_read_24 rfl (by first | rfl | exact sh_wheel (by omega) | exact sh_milk (by omega)) ⟨by omega, by omega⟩ ?_
      refine ar_aload_n (pc := 27) d_Re_read_27 rfl ?_
      refine ar_iconst (pc := 28) d_Re_read_28 ?_
      refine ar_putI (pc := 29) gf_Re_22 d_Re_read_29 rfl (by first | rfl | exact sh_wheel (by omega) | exact sh_milk (by omega)) ⟨by omega, by omega⟩ ?_
      refine ar_aload_n (pc := 32) d_Re_read_32 rfl ?_
      refine ac_virt (pc := 33) (N := mt_Or_clear) _ _ mv_Or_clear ml_Re_38 ck_3 d_Re_read_33 c33 (by first | rfl | exact sh_wheel (by omega) | exact sh_milk (by omega)) rfl rfl (Nat.le_of_ble_eq_true rfl) (Nat.le_of_eq (Nat.zero_add _)) (Nat.le_of_eq (Nat.zero_add _)) (fun r_33 G_33 h_33 => ?_)
      obtain ⟨rfl, e_33⟩ := h_33
      subst G_33
      refine ar_iconst (pc := 36) d_Re_read_36 ?_
      refine ar_istore_n (pc := 37) d_Re_read_37 rfl (by decide) ?_
      rotate_left
      -- leaves: stop 38
      · exact ar_loc (hh _ rfl) ⟨rfl, rfl, rfl, trivial⟩
    clear c14 c33 hT1
    intro G3 e3
    have i3 : ∀ b k, ¬ (b = 35 ∧ 1 ≤ k ∧ k ≤ 7) → ¬ (b = 42 ∧ (k = 5 ∨ k = 6)) → mm_I G3 b k = mm_I G_5 b k := fun b k b1 b2 => by
      rw [e3, mi_n (by omega), mi_n (by omega), mi_n (by omega), mi_n (by omega), mi_n (by omega), mi_n (by omega), mi_n (by omega), mi_n (by omega), mi_n (by omega), mi_n (by omega)]
    have r3 : mm_R G3 = mm_R G_5 ∧ mm_J G3 = mm_J G_5 ∧ mm_A G3 = mm_A G_5 := by rw [e3]; exact ⟨rfl, rfl, rfl⟩
    have hT3 := tt_up (G1 := G3) hT0 (fun b k hb => i3 b k (by omega) (by omega))
    have hF3 : fx_R G3 := fun a k b q => by rw [r3.1]; exact hF1 a k b q
    have a6 : mm_I G3 35 6 = 0 := by rw [e3]; rfl
    have a7 : mm_I G3 35 7 = -1 := by rw [e3]; rfl
    have hl : ls_F_a (tn_K B z) (pl_i B z) (tn_M B z) G3 G3 0 0 [] 0 z0_n z0_i := by
      refine ⟨⟨rfl, rfl, rfl⟩, fun _ _ _ _ _ _ _ => rfl, ⟨?_, ?_, ?_, ?_, ?_⟩, ?_, fun k hk => absurd hk (by simp), ?_, fun j hj => absurd hj (by omega), fun j hj => absurd hj (by omega)⟩
      all_goals (rw [e3]; rfl)
    have lp := lp_Re_read_a X d hT3 hF3 8 0 0 0 [] z0_n z0_i G3 (by omega) (by omega) (by omega) (by simp) hl
    have fr : ∀ G', (mm_R G' = mm_R G3 ∧ mm_J G' = mm_J G3 ∧ mm_A G' = mm_A G3) → (∀ b k, ¬ (b = 35 ∧ 1 ≤ k ∧ k ≤ 7) → ¬ (b = 42 ∧ (k = 5 ∨ k = 6)) → b ≠ 43 → b ≠ 44 → b ≠ 45 → mm_I G' b k = mm_I G3 b k) → rd_F_a G G' := fun G' q1 q2 => ⟨⟨q1.1.trans (r3.1.trans f1), q1.2.1.trans (r3.2.1.trans f2), q1.2.2.trans (r3.2.2.trans f3)⟩, fun b k b1 b2 b3 b4 b5 b6 b7 b8 b9 => by rw [q2 b k b1 b6 b7 b8 b9, i3 b k b1 b6]; exact f4 b k b2 b3 b4 b5⟩
    refine ar_mono (fun r G' hr => ⟨n, hE, ?_⟩) lp
    rcases hr with ⟨rfl, m, i', v', o, l, le, dd, w1, w2, w3⟩ | ⟨rfl, m, k, p, w1, w2⟩
    · obtain ⟨g1, g2, g3, g4, g5, g6, g7, g8⟩ := w3
      refine Or.inl ⟨rfl, m, o, l, le, dd, w1, ⟨⟨w2.1, w2.2.1⟩, g5, g6, g7, g8⟩, fr G' g1 (fun b k b1 b2 b3 b4 b5 => g2 b k (by omega) b2 b3 b4 b5), ?_, ?_⟩
      · rw [g2 35 6 (by omega) (by omega) (by omega) (by omega) (by omega)]; exact a6
      · rw [g2 35 7 (by omega) (by omega) (by omega) (by omega) (by omega)]; exact a7
    · obtain ⟨g1, g2, g3, g4⟩ := w2
      exact Or.inr ⟨rfl, m, k, p, w1, fr G' g1 g2, g3, g4⟩
theorem cm_K_orders_a (X : gx_T) (d : Nat) (G : mm_T) {B : Nat → Int} {z : Nat} (hF : fx_R G) (hz : mm_I G 33 1 = z) (bb : bb_B B z) (hB : tb_v G = B) (hn : mm_R G 0 12 = some 42) (hw : mm_R G 0 11 = some 48) : aw_M X (d + 55) mt_K_orders [av_r (some 0)] G 0 0 (fun r G' => ∃ n, te_E B z n ∧ ((∃ m o l le dd G1, r = some (av_i (l : Nat)) ∧ dr_ok (tn_K B z) (pl_i B z) (tn_M B z) o l le dd m 0 0 [] 0 z0_n z0_i ∧ rp_F_a G1 o l le dd ∧ rd_F_a G G1 ∧ (mm_I G1 35 6 = 0 ∧ mm_I G1 35 7 = -1) ∧ G' = ms_R (ms_R (ms_I G1 33 1 0) 0 11 (some 42)) 0 12 (some 48)) ∨ (∃ m k p G1, r = some (av_i (-1)) ∧ dr_bad (tn_K B z) (pl_i B z) (tn_M B z) k p m 0 0 [] 0 ∧ rd_F_a G G1 ∧ (mm_I G1 35 6 = k ∧ mm_I G1 35 7 = p) ∧ G' = ms_I G1 33 1 0))) := by
  have c12 := cm_Re_read_a X d G hF hz bb hB
  refine aw_enter pf_K_orders (Nat.le_of_ble_eq_true rfl) ?_
  refine ar_aload_n (pc := 0) d_K_orders_0 rfl ?_
  refine ar_getR (pc := 1) gf_K_66 d_K_orders_1 (by first | rfl | exact sh_wheel (by omega) | exact sh_milk (by omega)) (hF _ _ _ rfl) ?_
  refine ar_aload_n (pc := 4) d_K_orders_4 rfl ?_
  refine ar_getR (pc := 5) gf_K_59 d_K_orders_5 (by first | rfl | exact sh_wheel (by omega) | exact sh_milk (by omega)) (hF _ _ _ rfl) ?_
  refine ar_aload_n (pc := 8) d_K_orders_8 rfl ?_
  refine ar_getR (pc := 9) gf_K_84 d_K_orders_9 (by first | rfl | exact sh_wheel (by omega) | exact sh_milk (by omega)) hn ?_
  refine ac_virt (pc := 12) (N := mt_Re_read) _ _ mv_Re_read ml_K_151 ck_5 d_K_orders_12 c12 (by first | rfl | exact sh_wheel (by omega) | exact sh_milk (by omega)) rfl rfl (Nat.le_of_ble_eq_true rfl) (Nat.le_of_eq (Nat.zero_add _)) (Nat.le_of_eq (Nat.zero_add _)) (fun r_12 G_12 h_12 => ?_)
  obtain ⟨n, hE, hr⟩ := h_12
  rotate_left
  -- leaves: stop 15
  · rcases hr with ⟨rfl, m, o, l, le, dd, w1, w2, w3, w4, w5⟩ | ⟨rfl, m, k, p, w1, w3, w4, w5⟩
    · have hF1 : fx_R G_12 := fun a k b q => by rw [w3.1.1]; exact hF a k b q
      have h11 : mm_R G_12 0 11 = some 48 := by rw [w3.1.1]; exact hw
      have h12 : mm_R G_12 0 12 = some 42 := by rw [w3.1.1]; exact hn
      have e6 := w2.2.2.1
      clear c12 hF
      have hF := hF1
      refine ar_istore_n (pc := 15) d_K_orders_15 rfl (by decide) ?_
      refine ar_aload_n (pc := 16) d_K_orders_16 rfl ?_
      refine ar_getR (pc := 17) gf_K_59 d_K_orders_17 (by first | rfl | exact sh_wheel (by omega) | exact sh_milk (by omega)) (hF _ _ _ rfl) ?_
      refine ar_iconst (pc := 20) d_K_orders_20 ?_
      refine ar_putI (pc := 21) gf_K_145 d_K_orders_21 rfl (by first | rfl | exact sh_wheel (by omega) | exact sh_milk (by omega)) ⟨by omega, by omega⟩ ?_
      refine ar_iload_n (pc := 24) d_K_orders_24 rfl ?_
      refine ar_if_ne (pc := 25) 30 d_K_orders_25 (by decide) ⟨by omega, by omega⟩ (fun h_25 => ?_) (fun h_25 => by exfalso; omega)
      refine ar_aload_n (pc := 30) d_K_orders_30 rfl ?_
      refine ar_getR (pc := 31) gf_K_80 d_K_orders_31 (by first | rfl | exact sh_wheel (by omega) | exact sh_milk (by omega)) (by exact h11) ?_
      refine ar_astore_n (pc := 34) d_K_orders_34 rfl (by decide) ?_
      refine ar_aload_n (pc := 35) d_K_orders_35 rfl ?_
      refine ar_aload_n (pc := 36) d_K_orders_36 rfl ?_
      refine ar_getR (pc := 37) gf_K_84 d_K_orders_37 (by first | rfl | exact sh_wheel (by omega) | exact sh_milk (by omega)) (by exact h12) ?_
      refine ar_putR (pc := 40) gf_K_80 d_K_orders_40 rfl (by first | rfl | exact sh_wheel (by omega) | exact sh_milk (by omega)) (fun b h => by cases h; omega) ?_
      refine ar_aload_n (pc := 43) d_K_orders_43 rfl ?_
      refine ar_aload_n (pc := 44) d_K_orders_44 rfl ?_
      refine ar_putR (pc := 45) gf_K_84 d_K_orders_45 rfl (by first | rfl | exact sh_wheel (by omega) | exact sh_milk (by omega)) (fun b h => by cases h; omega) ?_
      refine ar_aload_n (pc := 48) d_K_orders_48 rfl ?_
      refine ar_getR (pc := 49) gf_K_80 d_K_orders_49 (by first | rfl | exact sh_wheel (by omega) | exact sh_milk (by omega)) rfl ?_
      refine ar_getIv (pc := 52) gf_K_155 d_K_orders_52 (by first | rfl | exact sh_wheel (by omega) | exact sh_milk (by omega)) (show _ = (l : Int) from e6) (fun r_52 => ?_)
      refine ar_iret (pc := 55) d_K_orders_55 rfl ?_
      rotate_left
      -- leaves: ret 55
      · exact ⟨n, hE, Or.inl ⟨m, o, l, le, dd, G_12, rfl, w1, w2, w3, ⟨w4, w5⟩, rfl⟩⟩
    · have hF1 : fx_R G_12 := fun a k b q => by rw [w3.1.1]; exact hF a k b q
      clear c12 hF
      have hF := hF1
      refine ar_istore_n (pc := 15) d_K_orders_15 rfl (by decide) ?_
      refine ar_aload_n (pc := 16) d_K_orders_16 rfl ?_
      refine ar_getR (pc := 17) gf_K_59 d_K_orders_17 (by first | rfl | exact sh_wheel (by omega) | exact sh_milk (by omega)) (hF _ _ _ rfl) ?_
      refine ar_iconst (pc := 20) d_K_orders_20 ?_
      refine ar_putI (pc := 21) gf_K_145 d_K_orders_21 rfl (by first | rfl | exact sh_wheel (by omega) | exact sh_milk (by omega)) ⟨by omega, by omega⟩ ?_
      refine ar_iload_n (pc := 24) d_K_orders_24 rfl ?_
      refine ar_if_ne (pc := 25) 30 d_K_orders_25 (by decide) ⟨by omega, by omega⟩ (fun h_25 => by exfalso; omega) (fun h_25 => ?_)
      refine ar_iconst (pc := 28) d_K_orders_28 ?_
      refine ar_iret (pc := 29) d_K_orders_29 rfl ?_
      rotate_left
      -- leaves: ret 29
      · exact ⟨n, hE, Or.inr ⟨m, k, p, G_12, rfl, w1, w3, ⟨w4, w5⟩, rfl⟩⟩
/-! orders at 48 -/
/-- what stays while the orders at 48 are read -/
def rd_F_b (G G' : mm_T) : Prop := (mm_R G' = mm_R G ∧ mm_J G' = mm_J G ∧ mm_A G' = mm_A G) ∧ ∀ b k, ¬ (b = 35 ∧ 1 ≤ k ∧ k ≤ 7) → ¬ (b = 36 ∧ k = 3) → b ≠ 37 → b ≠ 38 → b ≠ 39 → ¬ (b = 48 ∧ (k = 5 ∨ k = 6)) → b ≠ 49 → b ≠ 50 → b ≠ 51 → mm_I G' b k = mm_I G b k
/-- the program that was read -/
def rp_F_b (G' : mm_T) (o : List Int) (l : Nat) (le : Nat → Nat) (dd : Nat → Int) : Prop := (l ≤ 8 ∧ o.length ≤ 500) ∧ (∀ k, k < o.length → mm_I G' 49 k = o.getD k 0) ∧ mm_I G' 48 6 = l ∧ (∀ j, j < l → mm_I G' 50 j = le (j + 1)) ∧ ∀ j, j < l → mm_I G' 51 j = dd j
theorem cm_Re_read_b (X : gx_T) (d : Nat) (G : mm_T) {B : Nat → Int} {z : Nat} (hF : fx_R G) (hz : mm_I G 33 1 = z) (bb : bb_B B z) (hB : tb_v G = B) : aw_M X (d + 54) mt_Re_read [av_r (some 35), av_r (some 33), av_r (some 48)] G 0 0 (fun r G' => ∃ n, te_E B z n ∧ ((r = some (av_i 1) ∧ ∃ m o l le dd, dr_ok (tn_K B z) (pl_i B z) (tn_M B z) o l le dd m 0 0 [] 0 z0_n z0_i ∧ rp_F_b G' o l le dd ∧ rd_F_b G G' ∧ mm_I G' 35 6 = 0 ∧ mm_I G' 35 7 = -1) ∨ (r = some (av_i 0) ∧ ∃ m k p, dr_bad (tn_K B z) (pl_i B z) (tn_M B z) k p m 0 0 [] 0 ∧ rd_F_b G G' ∧ mm_I G' 35 6 = k ∧ mm_I G' 35 7 = p))) := by
  have c5 := cm_To_cut X (d + 44) G hF hz bb hB
  refine aw_enter pf_Re_read (Nat.le_of_ble_eq_true rfl) ?_
  refine ar_aload_n (pc := 0) d_Re_read_0 rfl ?_
  refine ar_getR (pc := 1) gf_Re_12 d_Re_read_1 (by first | rfl | exact sh_wheel (by omega) | exact sh_milk (by omega)) (hF _ _ _ rfl) ?_
  refine ar_aload_n (pc := 4) d_Re_read_4 rfl ?_
  refine ac_virt (pc := 5) (N := mt_To_cut) _ _ mv_To_cut ml_Re_25 ck_9 d_Re_read_5 c5 (by first | rfl | exact sh_wheel (by omega) | exact sh_milk (by omega)) rfl rfl (Nat.le_of_ble_eq_true rfl) (Nat.le_of_eq (Nat.zero_add _)) (Nat.le_of_eq (Nat.zero_add _)) (fun r_5 G_5 h_5 => ?_)
  obtain ⟨rfl, n, hE, hf⟩ := h_5
  rotate_left
  -- leaves: stop 8
  · have hT0 := tt_of bb hE hf
    obtain ⟨⟨f1, f2, f3⟩, f4, -⟩ := hf
    have hF1 : fx_R G_5 := fun a k b q => by rw [f1]; exact hF a k b q
    have hT1 := tt_up (G1 := ms_I G_5 35 1 0) hT0 (fun b k hb => mi_n (by omega))
    have c14 := cm_Re_step0 X (d + 52) hT1 (by exact hF1) (by exact mi_s _ _ _ _)
    have c33 := cm_Or_clear_b X (d + 52) (ms_I (ms_I (ms_I (ms_I (ms_I (ms_I (ms_I (ms_I G_5 35 1 0) 35 2 (tn_K B z 0)) 35 3 (pl_i B z 0)) 35 4 (tn_M B z 0)) 35 1 (0 + 1)) 35 5 0) 35 6 0) 35 7 (-1))
    suffices hh : ∀ G3, G3 = ms_I (ms_I (ms_I (ms_I (ms_I (ms_I (ms_I (ms_I (ms_I (ms_I G_5 35 1 0) 35 2 (tn_K B z 0)) 35 3 (pl_i B z 0)) 35 4 (tn_M B z 0)) 35 1 (0 + 1)) 35 5 0) 35 6 0) 35 7 (-1)) 48 5 0) 48 6 0 → aw_W X mt_Re_read (d + 54) 38 [(0, some (av_r (some 35))), (2, some (av_r (some 48))), (3, some (av_i 0))] [] G3 0 0 (fun r G' => ∃ n, te_E B z n ∧ ((r = some (av_i 1) ∧ ∃ m o l le dd, dr_ok (tn_K B z) (pl_i B z) (tn_M B z) o l le dd m 0 0 [] 0 z0_n z0_i ∧ rp_F_b G' o l le dd ∧ rd_F_b G G' ∧ mm_I G' 35 6 = 0 ∧ mm_I G' 35 7 = -1) ∨ (r = some (av_i 0) ∧ ∃ m k p, dr_bad (tn_K B z) (pl_i B z) (tn_M B z) k p m 0 0 [] 0 ∧ rd_F_b G G' ∧ mm_I G' 35 6 = k ∧ mm_I G' 35 7 = p))) by
      have hF := hF1
      refine ar_aload_n (pc := 8) d_Re_read_8 rfl ?_
      refine ar_iconst (pc := 9) d_Re_read_9 ?_
      refine ar_putI (pc := 10) gf_Re_29 d_Re_read_10 rfl (by first | rfl | exact sh_wheel (by omega) | exact sh_milk (by omega)) ⟨by omega, by omega⟩ ?_
      refine ar_aload_n (pc := 13) d_Re_read_13 rfl ?_
      refine ac_virt (pc := 14) (N := mt_Re_step) _ _ mv_Re_step ml_Re_32 ck_5 d_Re_read_14 c14 (by first | rfl | exact sh_wheel (by omega) | exact sh_milk (by omega)) rfl rfl (Nat.le_of_ble_eq_true rfl) (Nat.le_of_eq (Nat.zero_add _)) (Nat.le_of_eq (Nat.zero_add _)) (fun r_14 G_14 h_14 => ?_)
      obtain ⟨rfl, e_14⟩ := h_14
      subst G_14
      refine ar_aload_n (pc := 17) d_Re_read_17 rfl ?_
      refine ar_iconst (pc := 18) d_Re_read_18 ?_
      refine ar_putI (pc := 19) gf_Re_35 d_Re_read_19 rfl (by first | rfl | exact sh_wheel (by omega) | exact sh_milk (by omega)) ⟨by omega, by omega⟩ ?_
      refine ar_aload_n (pc := 22) d_Re_read_22 rfl ?_
      refine ar_iconst (pc := 23) d_Re_read_23 ?_
      refine ar_putI (pc := 24) gf_Re_18 d_Re_read_24 rfl (by first | rfl | exact sh_wheel (by omega) | exact sh_milk (by omega)) ⟨by omega, by omega⟩ ?_
      refine ar_aload_n (pc := 27) d_Re_read_27 rfl ?_
      refine ar_iconst (pc := 28) d_Re_read_28 ?_
      refine ar_putI (pc := 29) gf_Re_22 d_Re_read_29 rfl (by first | rfl | exact sh_wheel (by omega) | exact sh_milk (by omega)) ⟨by omega, by omega⟩ ?_
      refine ar_aload_n (pc := 32) d_Re_read_32 rfl ?_
      refine ac_virt (pc := 33) (N := mt_Or_clear) _ _ mv_Or_clear ml_Re_38 ck_3 d_Re_read_33 c33 (by first | rfl | exact sh_wheel (by omega) | exact sh_milk (by omega)) rfl rfl (Nat.le_of_ble_eq_true rfl) (Nat.le_of_eq (Nat.zero_add _)) (Nat.le_of_eq (Nat.zero_add _)) (fun r_33 G_33 h_33 => ?_)
      obtain ⟨rfl, e_33⟩ := h_33
      subst G_33
      refine ar_iconst (pc := 36) d_Re_read_36 ?_
      refine ar_istore_n (pc := 37) d_Re_read_37 rfl (by decide) ?_
      rotate_left
      -- leaves: stop 38
      · exact ar_loc (hh _ rfl) ⟨rfl, rfl, rfl, trivial⟩
    clear c14 c33 hT1
    intro G3 e3
    have i3 : ∀ b k, ¬ (b = 35 ∧ 1 ≤ k ∧ k ≤ 7) → ¬ (b = 48 ∧ (k = 5 ∨ k = 6)) → mm_I G3 b k = mm_I G_5 b k := fun b k b1 b2 => by
      rw [e3, mi_n (by omega), mi_n (by omega), mi_n (by omega), mi_n (by omega), mi_n (by omega), mi_n (by omega), mi_n (by omega), mi_n (by omega), mi_n (by omega), mi_n (by omega)]
    have r3 : mm_R G3 = mm_R G_5 ∧ mm_J G3 = mm_J G_5 ∧ mm_A G3 = mm_A G_5 := by rw [e3]; exact ⟨rfl, rfl, rfl⟩
    have hT3 := tt_up (G1 := G3) hT0 (fun b k hb => i3 b k (by omega) (by omega))
    have hF3 : fx_R G3 := fun a k b q => by rw [r3.1]; exact hF1 a k b q
    have a6 : mm_I G3 35 6 = 0 := by rw [e3]; rfl
    have a7 : mm_I G3 35 7 = -1 := by rw [e3]; rfl
    have hl : ls_F_b (tn_K B z) (pl_i B z) (tn_M B z) G3 G3 0 0 [] 0 z0_n z0_i := by
      refine ⟨⟨rfl, rfl, rfl⟩, fun _ _ _ _ _ _ _ => rfl, ⟨?_, ?_, ?_, ?_, ?_⟩, ?_, fun k hk => absurd hk (by simp), ?_, fun j hj => absurd hj (by omega), fun j hj => absurd hj (by omega)⟩
      all_goals (rw [e3]; rfl)
    have lp := lp_Re_read_b X d hT3 hF3 8 0 0 0 [] z0_n z0_i G3 (by omega) (by omega) (by omega) (by simp) hl
    have fr : ∀ G', (mm_R G' = mm_R G3 ∧ mm_J G' = mm_J G3 ∧ mm_A G' = mm_A G3) → (∀ b k, ¬ (b = 35 ∧ 1 ≤ k ∧ k ≤ 7) → ¬ (b = 48 ∧ (k = 5 ∨ k = 6)) → b ≠ 49 → b ≠ 50 → b ≠ 51 → mm_I G' b k = mm_I G3 b k) → rd_F_b G G' := fun G' q1 q2 => ⟨⟨q1.1.trans (r3.1.trans f1), q1.2.1.trans (r3.2.1.trans f2), q1.2.2.trans (r3.2.2.trans f3)⟩, fun b k b1 b2 b3 b4 b5 b6 b7 b8 b9 => by rw [q2 b k b1 b6 b7 b8 b9, i3 b k b1 b6]; exact f4 b k b2 b3 b4 b5⟩
    refine ar_mono (fun r G' hr => ⟨n, hE, ?_⟩) lp
    rcases hr with ⟨rfl, m, i', v', o, l, le, dd, w1, w2, w3⟩ | ⟨rfl, m, k, p, w1, w2⟩
    · obtain ⟨g1, g2, g3, g4, g5, g6, g7, g8⟩ := w3
      refine Or.inl ⟨rfl, m, o, l, le, dd, w1, ⟨⟨w2.1, w2.2.1⟩, g5, g6, g7, g8⟩, fr G' g1 (fun b k b1 b2 b3 b4 b5 => g2 b k (by omega) b2 b3 b4 b5), ?_, ?_⟩
      · rw [g2 35 6 (by omega) (by omega) (by omega) (by omega) (by omega)]; exact a6
      · rw [g2 35 7 (by omega) (by omega) (by omega) (by omega) (by omega)]; exact a7
    · obtain ⟨g1, g2, g3, g4⟩ := w2
      exact Or.inr ⟨rfl, m, k, p, w1, fr G' g1 g2, g3, g4⟩
theorem cm_K_orders_b (X : gx_T) (d : Nat) (G : mm_T) {B : Nat → Int} {z : Nat} (hF : fx_R G) (hz : mm_I G 33 1 = z) (bb : bb_B B z) (hB : tb_v G = B) (hn : mm_R G 0 12 = some 48) (hw : mm_R G 0 11 = some 42) : aw_M X (d + 55) mt_K_orders [av_r (some 0)] G 0 0 (fun r G' => ∃ n, te_E B z n ∧ ((∃ m o l le dd G1, r = some (av_i (l : Nat)) ∧ dr_ok (tn_K B z) (pl_i B z) (tn_M B z) o l le dd m 0 0 [] 0 z0_n z0_i ∧ rp_F_b G1 o l le dd ∧ rd_F_b G G1 ∧ (mm_I G1 35 6 = 0 ∧ mm_I G1 35 7 = -1) ∧ G' = ms_R (ms_R (ms_I G1 33 1 0) 0 11 (some 48)) 0 12 (some 42)) ∨ (∃ m k p G1, r = some (av_i (-1)) ∧ dr_bad (tn_K B z) (pl_i B z) (tn_M B z) k p m 0 0 [] 0 ∧ rd_F_b G G1 ∧ (mm_I G1 35 6 = k ∧ mm_I G1 35 7 = p) ∧ G' = ms_I G1 33 1 0))) := by
  have c12 := cm_Re_read_b X d G hF hz bb hB
  refine aw_enter pf_K_orders (Nat.le_of_ble_eq_true rfl) ?_
  refine ar_aload_n (pc := 0) d_K_orders_0 rfl ?_
  refine ar_getR (pc := 1) gf_K_66 d_K_orders_1 (by first | rfl | exact sh_wheel (by omega) | exact sh_milk (by omega)) (hF _ _ _ rfl) ?_
  refine ar_aload_n (pc := 4) d_K_orders_4 rfl ?_
  refine ar_getR (pc := 5) gf_K_59 d_K_orders_5 (by first | rfl | exact sh_wheel (by omega) | exact sh_milk (by omega)) (hF _ _ _ rfl) ?_
  refine ar_aload_n (pc := 8) d_K_orders_8 rfl ?_
  refine ar_getR (pc := 9) gf_K_84 d_K_orders_9 (by first | rfl | exact sh_wheel (by omega) | exact sh_milk (by omega)) hn ?_
  refine ac_virt (pc := 12) (N := mt_Re_read) _ _ mv_Re_read ml_K_151 ck_5 d_K_orders_12 c12 (by first | rfl | exact sh_wheel (by omega) | exact sh_milk (by omega)) rfl rfl (Nat.le_of_ble_eq_true rfl) (Nat.le_of_eq (Nat.zero_add _)) (Nat.le_of_eq (Nat.zero_add _)) (fun r_12 G_12 h_12 => ?_)
  obtain ⟨n, hE, hr⟩ := h_12
  rotate_left
  -- leaves: stop 15
  · rcases hr with ⟨rfl, m, o, l, le, dd, w1, w2, w3, w4, w5⟩ | ⟨rfl, m, k, p, w1, w3, w4, w5⟩
    · have hF1 : fx_R G_12 := fun a k b q => by rw [w3.1.1]; exact hF a k b q
      have h11 : mm_R G_12 0 11 = some 42 := by rw [w3.1.1]; exact hw
      have h12 : mm_R G_12 0 12 = some 48 := by rw [w3.1.1]; exact hn
      have e6 := w2.2.2.1
      clear c12 hF
      have hF := hF1
      refine ar_istore_n (pc := 15) d_K_orders_15 rfl (by decide) ?_
      refine ar_aload_n (pc := 16) d_K_orders_16 rfl ?_
      refine ar_getR (pc := 17) gf_K_59 d_K_orders_17 (by first | rfl | exact sh_wheel (by omega) | exact sh_milk (by omega)) (hF _ _ _ rfl) ?_
      refine ar_iconst (pc := 20) d_K_orders_20 ?_
      refine ar_putI (pc := 21) gf_K_145 d_K_orders_21 rfl (by first | rfl | exact sh_wheel (by omega) | exact sh_milk (by omega)) ⟨by omega, by omega⟩ ?_
      refine ar_iload_n (pc := 24) d_K_orders_24 rfl ?_
      refine ar_if_ne (pc := 25) 30 d_K_orders_25 (by decide) ⟨by omega, by omega⟩ (fun h_25 => ?_) (fun h_25 => by exfalso; omega)
      refine ar_aload_n (pc := 30) d_K_orders_30 rfl ?_
      refine ar_getR (pc := 31) gf_K_80 d_K_orders_31 (by first | rfl | exact sh_wheel (by omega) | exact sh_milk (by omega)) (by exact h11) ?_
      refine ar_astore_n (pc := 34) d_K_orders_34 rfl (by decide) ?_
      refine ar_aload_n (pc := 35) d_K_orders_35 rfl ?_
      refine ar_aload_n (pc := 36) d_K_orders_36 rfl ?_
      refine ar_getR (pc := 37) gf_K_84 d_K_orders_37 (by first | rfl | exact sh_wheel (by omega) | exact sh_milk (by omega)) (by exact h12) ?_
      refine ar_putR (pc := 40) gf_K_80 d_K_orders_40 rfl (by first | rfl | exact sh_wheel (by omega) | exact sh_milk (by omega)) (fun b h => by cases h; omega) ?_
      refine ar_aload_n (pc := 43) d_K_orders_43 rfl ?_
      refine ar_aload_n (pc := 44) d_K_orders_44 rfl ?_
      refine ar_putR (pc := 45) gf_K_84 d_K_orders_45 rfl (by first | rfl | exact sh_wheel (by omega) | exact sh_milk (by omega)) (fun b h => by cases h; omega) ?_
      refine ar_aload_n (pc := 48) d_K_orders_48 rfl ?_
      refine ar_getR (pc := 49) gf_K_80 d_K_orders_49 (by first | rfl | exact sh_wheel (by omega) | exact sh_milk (by omega)) rfl ?_
      refine ar_getIv (pc := 52) gf_K_155 d_K_orders_52 (by first | rfl | exact sh_wheel (by omega) | exact sh_milk (by omega)) (show _ = (l : Int) from e6) (fun r_52 => ?_)
      refine ar_iret (pc := 55) d_K_orders_55 rfl ?_
      rotate_left
      -- leaves: ret 55
      · exact ⟨n, hE, Or.inl ⟨m, o, l, le, dd, G_12, rfl, w1, w2, w3, ⟨w4, w5⟩, rfl⟩⟩
    · have hF1 : fx_R G_12 := fun a k b q => by rw [w3.1.1]; exact hF a k b q
      clear c12 hF
      have hF := hF1
      refine ar_istore_n (pc := 15) d_K_orders_15 rfl (by decide) ?_
      refine ar_aload_n (pc := 16) d_K_orders_16 rfl ?_
      refine ar_getR (pc := 17) gf_K_59 d_K_orders_17 (by first | rfl | exact sh_wheel (by omega) | exact sh_milk (by omega)) (hF _ _ _ rfl) ?_
      refine ar_iconst (pc := 20) d_K_orders_20 ?_
      refine ar_putI (pc := 21) gf_K_145 d_K_orders_21 rfl (by first | rfl | exact sh_wheel (by omega) | exact sh_milk (by omega)) ⟨by omega, by omega⟩ ?_
      refine ar_iload_n (pc := 24) d_K_orders_24 rfl ?_
      refine ar_if_ne (pc := 25) 30 d_K_orders_25 (by decide) ⟨by omega, by omega⟩ (fun h_25 => by exfalso; omega) (fun h_25 => ?_)
      refine ar_iconst (pc := 28) d_K_orders_28 ?_
      refine ar_iret (pc := 29) d_K_orders_29 rfl ?_
      rotate_left
      -- leaves: ret 29
      · exact ⟨n, hE, Or.inr ⟨m, k, p, G_12, rfl, w1, w3, ⟨w4, w5⟩, rfl⟩⟩
