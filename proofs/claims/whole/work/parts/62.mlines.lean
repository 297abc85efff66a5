/-! ===== the reference reads lines ===== -/
def mj_F (B : Nat → Int) (z : Nat) (G G1 : mm_T) (i v : Nat) (o : List Int) (l la : Nat) (le : Nat → Nat) (ld : Nat) (dd : Nat → Int) : Prop := (mm_R G1 = mm_R G ∧ mm_A G1 = mm_A G) ∧ (∀ b j, ¬ (b = 60 ∧ (j = 31 ∨ j = 32 ∨ j = 33 ∨ j = 38 ∨ j = 40 ∨ j = 41 ∨ j = 42 ∨ j = 45 ∨ j = 46)) → b ≠ 83 → b ≠ 84 → b ≠ 85 → b ≠ 86 → b ≠ 88 → mm_I G1 b j = mm_I G b j) ∧ (∀ b j, ¬ (b = 60 ∧ j = 43) → mm_J G1 b j = mm_J G b j) ∧ ml_F B z G1 i v o ∧ mm_I G1 60 31 = l ∧ (∀ j, j < la → mm_I G1 85 j = le j) ∧ ∀ j, j < ld → mm_I G1 86 j = dd j - 2
def mjb_F (G G1 : mm_T) (k p : Int) : Prop := (mm_R G1 = mm_R G ∧ mm_A G1 = mm_A G) ∧ (∀ b j, ¬ (b = 60 ∧ (j = 31 ∨ j = 32 ∨ j = 33 ∨ j = 36 ∨ j = 37 ∨ j = 38 ∨ j = 40 ∨ j = 41 ∨ j = 42 ∨ j = 45 ∨ j = 46)) → b ≠ 83 → b ≠ 84 → b ≠ 85 → b ≠ 86 → b ≠ 88 → mm_I G1 b j = mm_I G b j) ∧ (∀ b j, ¬ (b = 60 ∧ j = 43) → mm_J G1 b j = mm_J G b j) ∧ mm_I G1 60 36 = k ∧ mm_I G1 60 37 = p
section
variable {B : Nat → Int} {z : Nat} {G G1 G2 : mm_T} {i v : Nat} {o : List Int} {l la ld : Nat} {le : Nat → Nat} {dd : Nat → Int}
theorem mj_w (h : mj_F B z G G1 i v o l la le ld dd) (hF : fx_R G) (hz : mm_I G 60 39 = z) (hB : mb_v G = B) (h0 : mm_I G 60 36 = 0) : fx_R G1 ∧ mm_I G1 60 39 = z ∧ mb_v G1 = B ∧ mm_I G1 60 36 = 0 := by
  obtain ⟨h1, h2, h3, h4⟩ := h
  have e1 : mm_I G1 60 39 = mm_I G 60 39 := h2 _ _ (by omega) (by omega) (by omega) (by omega) (by omega) (by omega)
  refine ⟨fun a k b h => by rw [h1.1]; exact hF a k b h, by rw [e1]; exact hz, ?_, by rw [h2 _ _ (by omega) (by omega) (by omega) (by omega) (by omega) (by omega)]; exact h0⟩
  rw [← hB]; funext i
  unfold mb_v
  rw [e1, h2 87 i (by omega) (by omega) (by omega) (by omega) (by omega) (by omega)]
theorem mj_nx {i' : Nat} (h : mj_F B z G G1 i v o l la le ld dd) (hn : nx_F B z G1 G2 (ps_k B z i')) : mj_F B z G G2 i' v o l la le ld dd := by
  obtain ⟨h1, h2, h3, ⟨h4, h5, h6, h7⟩, h8, h9, h10⟩ := h
  obtain ⟨g1, g2, g3, g4, g5, g6, g7⟩ := hn
  refine ⟨⟨g1.1.trans h1.1, g1.2.trans h1.2⟩, fun b j b1 b2 b3 b4 b5 b6 => by rw [g2 b j (by omega)]; exact h2 b j b1 b2 b3 b4 b5 b6, fun b j hj => by rw [g3 b j hj]; exact h3 b j hj, ⟨⟨g4, g5, g6, g7⟩, by rw [g2 _ _ (by omega)]; exact h5, by rw [g2 _ _ (by omega)]; exact h6, fun k hk => by rw [g2 _ _ (by omega), g2 _ _ (by omega)]; exact h7 k hk⟩, by rw [g2 _ _ (by omega)]; exact h8, fun j hj => by rw [g2 _ _ (by omega)]; exact h9 j hj, fun j hj => by rw [g2 _ _ (by omega)]; exact h10 j hj⟩
theorem mj_m {i' v' : Nat} {W o' : List Int} (h : mj_F B z G G1 i v o l la le ld dd) (hm : mo_F B z G1 G2 i' v' W o') : mj_F B z G G2 i' v' o' l la le ld dd := by
  obtain ⟨h1, h2, h3, ⟨h4, h5, h6, h7⟩, h8, h9, h10⟩ := h
  obtain ⟨g1, g2, g3, g4, g5, g6, g7, g8⟩ := hm
  refine ⟨⟨g1.1.trans h1.1, g1.2.trans h1.2⟩, fun b j b1 b2 b3 b4 b5 b6 => by rw [g2 b j (by omega) b2 b3 b6]; exact h2 b j b1 b2 b3 b4 b5 b6, fun b j hj => by rw [g3 b j hj]; exact h3 b j hj, ⟨g4, g5, g7, g8⟩, by rw [g2 _ _ (by omega) (by omega) (by omega) (by omega)]; exact h8, fun j hj => by rw [g2 _ _ (by omega) (by omega) (by omega) (by omega)]; exact h9 j hj, fun j hj => by rw [g2 _ _ (by omega) (by omega) (by omega) (by omega)]; exact h10 j hj⟩
theorem mj_b {k p : Int} (h : mj_F B z G G1 i v o l la le ld dd) (hm : mw_F G1 G2 k p) : mjb_F G G2 k p := by
  obtain ⟨h1, h2, h3, -⟩ := h
  obtain ⟨g1, g2, g3, g4, g5⟩ := hm
  exact ⟨⟨g1.1.trans h1.1, g1.2.trans h1.2⟩, fun b j b1 b2 b3 b4 b5 b6 => by rw [g2 b j (by omega) b2 b3 b6]; exact h2 b j (by omega) b2 b3 b4 b5 b6, fun b j hj => by rw [g3 b j hj]; exact h3 b j hj, g4, g5⟩
theorem ml_up (h : ml_F B z G1 i v o) (e : ∀ b j, (b = 60 ∧ (j = 32 ∨ j = 33 ∨ j = 38 ∨ j = 40 ∨ j = 41 ∨ j = 42)) ∨ b = 83 ∨ b = 84 → mm_I G2 b j = mm_I G1 b j) (e2 : mm_J G2 60 43 = mm_J G1 60 43) : ml_F B z G2 i v o := by
  obtain ⟨h1, h2, h3, h4⟩ := h
  exact ⟨mo_tk h1 (fun k hk => e _ _ (by omega)) e2, by rw [e _ _ (by omega)]; exact h2, by rw [e _ _ (by omega)]; exact h3, fun k hk => by rw [e _ _ (by omega), e _ _ (by omega)]; exact h4 k hk⟩
theorem mj_at (h : mj_F B z G G1 i v o l l le ld dd) (hle : le l = o.length) : mj_F B z G (ms_I G1 85 l (o.length : Nat)) i v o l (l + 1) le ld dd := by
  obtain ⟨h1, h2, h3, h4, h8, h9, h10⟩ := h
  refine ⟨h1, fun b j b1 b2 b3 b4 b5 b6 => by rw [mi_n (by omega)]; exact h2 b j b1 b2 b3 b4 b5 b6, h3, ml_up h4 (fun b j hb => mi_n (by omega)) rfl, by rw [mi_n (by omega)]; exact h8, fun j hj => ?_, fun j hj => by rw [mi_n (by omega)]; exact h10 j hj⟩
  by_cases e : j = l
  · subst e; rw [mi_s, hle]
  · rw [mi_n (by omega)]; exact h9 j (by omega)
theorem mj_do {q x : Int} (h : mj_F B z G G1 i v o l la le l dd) (hx : x = q - 2) : mj_F B z G (ms_I G1 86 l x) i v o l la le (l + 1) (upp dd l q) := by
  obtain ⟨h1, h2, h3, h4, h8, h9, h10⟩ := h
  refine ⟨h1, fun b j b1 b2 b3 b4 b5 b6 => by rw [mi_n (by omega)]; exact h2 b j b1 b2 b3 b4 b5 b6, h3, ml_up h4 (fun b j hb => mi_n (by omega)) rfl, by rw [mi_n (by omega)]; exact h8, fun j hj => by rw [mi_n (by omega)]; exact h9 j hj, fun j hj => ?_⟩
  unfold upp
  by_cases e : j = l
  · subst e; rw [mi_s, if_pos rfl]; exact hx
  · rw [mi_n (by omega), if_neg e]; exact h10 j (by omega)
theorem mj_ln (h : mj_F B z G G1 i v o l la le ld dd) : mj_F B z G (ms_I G1 60 31 ((l : Int) + 1)) i v o (l + 1) la le ld dd := by
  obtain ⟨h1, h2, h3, h4, h8, h9, h10⟩ := h
  refine ⟨h1, fun b j b1 b2 b3 b4 b5 b6 => by rw [mi_n (by omega)]; exact h2 b j b1 b2 b3 b4 b5 b6, h3, ml_up h4 (fun b j hb => mi_n (by omega)) rfl, by rw [mi_s]; omega, fun j hj => by rw [mi_n (by omega)]; exact h9 j hj, fun j hj => by rw [mi_n (by omega)]; exact h10 j hj⟩
theorem mj_le {le' : Nat → Nat} (h : mj_F B z G G1 i v o l la le ld dd) (e : ∀ j, j < la → le' j = le j) : mj_F B z G G1 i v o l la le' ld dd := by
  obtain ⟨h1, h2, h3, h4, h8, h9, h10⟩ := h
  exact ⟨h1, h2, h3, h4, h8, fun j hj => by rw [e j hj]; exact h9 j hj, h10⟩
theorem cm_Mo_ng (X : gx_T) (d : Nat) {n : Nat} (hF : fx_R G) (hz : mm_I G 60 39 = z) (bb : bb_B B z) (hB : mb_v G = B) (h0 : mm_I G 60 36 = 0) (hE : te_E B z n) (h : mj_F B z G G1 i v o l la le ld dd) (hi : i < n) : aw_M X (d + 2) mt_Mo_next [av_r (some 60)] G1 0 0 (fun r G' => r = none ∧ mj_F B z G G' (i + 1) v o l la le ld dd) := by
  obtain ⟨hF1, hz1, hB1, -⟩ := mj_w h hF hz hB h0
  have hk := hE.2.2 i hi
  have ha := h.2.2.2.1.1.2.2.2 hk.1 hk.2
  have tp := tl_pos bb (tk_end bb (te_p bb hE (by omega)) hk.2)
  exact am_mono (fun r G' hr => ⟨hr.1, mj_nx (i' := i + 1) h hr.2⟩) (cm_Mo_next X d G1 hF1 hz1 bb hB1 ha tp.2)
end
theorem cm_Mo_wr (X : gx_T) (d : Nat) {B : Nat → Int} {z : Nat} {G G1 : mm_T} {i v : Nat} {o : List Int} {l la ld : Nat} {le : Nat → Nat} {dd : Nat → Int} (h : mj_F B z G G1 i v o l la le ld dd) (e36 : mm_I G1 60 36 = 0) : aw_M X (d + 1) mt_Mo_wrong [av_r (some 60), av_i 2] G1 0 0 (fun r G' => r = none ∧ mjb_F G G' (fq_v (tn_K B z) i 2) (pl_i B z i)) := by
  have fin : mjb_F G (ms_I (ms_I G1 60 36 (fq_v (tn_K B z) i 2)) 60 37 (pl_i B z i)) (fq_v (tn_K B z) i 2) (pl_i B z i) := by
    obtain ⟨h1, h2, h3, -⟩ := h
    refine ⟨h1, fun b j b1 b2 b3 b4 b5 b6 => ?_, h3, ?_, mi_s _ _ _ _⟩
    · rw [mi_n (by omega), mi_n (by omega)]; exact h2 b j (by omega) b2 b3 b4 b5 b6
    · rw [mi_n (by omega), mi_s]
  obtain ⟨t1, t2, -⟩ := h.2.2.2.1.1
  unfold tw_R at t2
  rw [is_sv] at t2
  generalize hs : mm_I G1 60 40 = s at *
  generalize mm_J G1 60 43 = w at *
  unfold fq_v at *
  clear h
  refine aw_enter pf_Mo_wrong (Nat.le_of_ble_eq_true rfl) ?_
  refine ar_rngI (fun hrg => ?_)
  have rp := hrg 60 41
  rw [t1] at rp
  clear hrg
  by_cases hq : tn_K B z i = 300
  · rw [if_pos hq] at *
    have hs3 : s = 3 := by omega
    refine ar_aload_n (pc := 0) d_Mo_wrong_0 rfl ?_
    refine ar_getIv (pc := 1) gf_Mo_234 d_Mo_wrong_1 (by first | rfl | exact sh_wheel (by omega) | exact sh_milk (by omega)) e36 (fun r_1 => ?_)
    refine ar_if_le (pc := 4) 8 d_Mo_wrong_4 (by decide) ⟨by omega, by omega⟩ (fun h_4 => ?_) (fun h_4 => by exfalso; omega)
    refine ar_aload_n (pc := 8) d_Mo_wrong_8 rfl ?_
    refine ar_aload_n (pc := 9) d_Mo_wrong_9 rfl ?_
    refine ar_getIv (pc := 10) gf_Mo_222 d_Mo_wrong_10 (by first | rfl | exact sh_wheel (by omega) | exact sh_milk (by omega)) (show _ = s from hs) (fun r_10 => ?_)
    refine ar_iconst (pc := 13) d_Mo_wrong_13 ?_
    refine ar_icmp_ne (pc := 14) 21 d_Mo_wrong_14 (by decide) ⟨by omega, by omega⟩ ⟨by omega, by omega⟩ (fun h_14 => by exfalso; omega) (fun h_14 => ?_)
    refine ar_iconst (pc := 17) d_Mo_wrong_17 ?_
    refine ar_goto (pc := 18) 22 d_Mo_wrong_18 (by decide) ?_
    refine ar_putI (pc := 22) gf_Mo_234 d_Mo_wrong_22 rfl (by first | rfl | exact sh_wheel (by omega) | exact sh_milk (by omega)) ⟨by omega, by omega⟩ ?_
    refine ar_aload_n (pc := 25) d_Mo_wrong_25 rfl ?_
    refine ar_aload_n (pc := 26) d_Mo_wrong_26 rfl ?_
    refine ar_getIv (pc := 27) gf_Mo_212 d_Mo_wrong_27 (by first | rfl | exact sh_wheel (by omega) | exact sh_milk (by omega)) (show _ = pl_i B z i from t1) (fun r_27 => ?_)
    refine ar_putI (pc := 30) gf_Mo_92 d_Mo_wrong_30 rfl (by first | rfl | exact sh_wheel (by omega) | exact sh_milk (by omega)) ⟨by omega, by omega⟩ ?_
    refine ar_ret (pc := 33) d_Mo_wrong_33 rfl ?_
    rotate_left
    -- leaves: ret 33
    · exact ⟨rfl, fin⟩
  · rw [if_neg hq] at *
    have hs3 : ¬ s = 3 ∧ i3_in s := by omega
    refine ar_aload_n (pc := 0) d_Mo_wrong_0 rfl ?_
    refine ar_getIv (pc := 1) gf_Mo_234 d_Mo_wrong_1 (by first | rfl | exact sh_wheel (by omega) | exact sh_milk (by omega)) e36 (fun r_1 => ?_)
    refine ar_if_le (pc := 4) 8 d_Mo_wrong_4 (by decide) ⟨by omega, by omega⟩ (fun h_4 => ?_) (fun h_4 => by exfalso; omega)
    refine ar_aload_n (pc := 8) d_Mo_wrong_8 rfl ?_
    refine ar_aload_n (pc := 9) d_Mo_wrong_9 rfl ?_
    refine ar_getIv (pc := 10) gf_Mo_222 d_Mo_wrong_10 (by first | rfl | exact sh_wheel (by omega) | exact sh_milk (by omega)) (show _ = s from hs) (fun r_10 => ?_)
    refine ar_iconst (pc := 13) d_Mo_wrong_13 ?_
    refine ar_icmp_ne (pc := 14) 21 d_Mo_wrong_14 (by decide) ⟨by omega, by omega⟩ ⟨by omega, by omega⟩ (fun h_14 => ?_) (fun h_14 => by exfalso; omega)
    refine ar_iload_n (pc := 21) d_Mo_wrong_21 rfl ?_
    refine ar_putI (pc := 22) gf_Mo_234 d_Mo_wrong_22 rfl (by first | rfl | exact sh_wheel (by omega) | exact sh_milk (by omega)) ⟨by omega, by omega⟩ ?_
    refine ar_aload_n (pc := 25) d_Mo_wrong_25 rfl ?_
    refine ar_aload_n (pc := 26) d_Mo_wrong_26 rfl ?_
    refine ar_getIv (pc := 27) gf_Mo_212 d_Mo_wrong_27 (by first | rfl | exact sh_wheel (by omega) | exact sh_milk (by omega)) (show _ = pl_i B z i from t1) (fun r_27 => ?_)
    refine ar_putI (pc := 30) gf_Mo_92 d_Mo_wrong_30 rfl (by first | rfl | exact sh_wheel (by omega) | exact sh_milk (by omega)) ⟨by omega, by omega⟩ ?_
    refine ar_ret (pc := 33) d_Mo_wrong_33 rfl ?_
    rotate_left
    -- leaves: ret 33
    · exact ⟨rfl, fin⟩
theorem mjb_e {G G1 : mm_T} {k p : Int} (h : mjb_F G G1 k p) : mm_I G1 60 36 = k := h.2.2.2.1
/-- a line up to behind its e -/
theorem lp_front (X : gx_T) (d : Nat) {B : Nat → Int} {z n : Nat} {G G1 : mm_T} {i v : Nat} {o : List Int} {l : Nat} {le : Nat → Nat} {dd : Nat → Int} {t : px_T} {Q : Option av_T → mm_T → Prop} (hF : fx_R G) (hz : mm_I G 60 39 = z) (bb : bb_B B z) (hB : mb_v G = B) (h0 : mm_I G 60 36 = 0) (hE : te_E B z n) (h : mj_F B z G G1 i v o l l le l dd) (hle : le l = o.length) (hi : i ≤ n) (hv : v ≤ 80) (ho : o.length ≤ i) (hl : l < 8) (k0 : tn_K B z i = 0) (ht : tm_T (tn_K B z) t) (hr : rc_R (tn_K B z) (pl_i B z) (tn_M B z) (.inr (0, i + 1, v, [], o)) t)
    (kok : ∀ G4 i1 v1 W o2, t = .inr (2, i1, v1, W, o2) → mj_F B z G G4 i1 v1 (pp_s 0 W o2).2 l (l + 1) le l dd → aw_W X mt_Mo_orders (d + 6) 115 [(0, some (av_r (some 60)))] [] G4 0 0 Q)
    (kbad : ∀ G4 k p, t = .inl (k, p) → (1 ≤ k ∧ k ≤ 3) → mjb_F G G4 k p → aw_W X mt_Mo_orders (d + 6) 115 [(0, some (av_r (some 60)))] [] G4 0 0 Q) : aw_W X mt_Mo_orders (d + 6) 47 [(0, some (av_r (some 60)))] [] G1 0 0 Q := by
  obtain ⟨hF1, hz1, hB1, e36⟩ := mj_w h hF hz hB h0
  have hin := te_n hE hi (by omega)
  have n5 := hE.1
  have t2 := h.2.2.2.1.1.2.1
  unfold tw_R at t2
  rw [is_sv] at t2
  have hs : mm_I G1 60 40 = 1 := by omega
  have c65 := cm_Mo_isWord X (d + 4) (w := 0) (c := 2003330414) h.2.2.2.1.1 (by omega) rfl
  rw [if_pos (by omega)] at c65
  have e31 := h.2.2.2.2.1
  have e32 := h.2.2.2.1.2.2.1
  have ha := mj_at h hle
  have c108 := cm_Mo_ng X (d + 3) hF hz bb hB h0 hE ha hin
  have k4 : ∀ G3, mj_F B z G G3 (i + 1) v o l (l + 1) le l dd → aw_W X mt_Mo_orders (d + 6) 111 [(0, some (av_r (some 60)))] [] G3 0 0 Q := by
    intro G3 h3
    obtain ⟨hF3, hz3, hB3, h03⟩ := mj_w h3 hF hz hB h0
    have c112 := cm_Mo_readE X d hF3 hz3 bb hB3 hE h03 ht hr h3.2.2.2.1 (by omega) hv (by omega)
    refine ar_aload_n (pc := 111) d_Mo_orders_111 rfl ?_
    refine ac_virt (pc := 112) (N := mt_Mo_readE) _ _ mv_Mo_readE ml_Mo_331 ck_12 d_Mo_orders_112 c112 (by first | rfl | exact sh_wheel (by omega) | exact sh_milk (by omega)) rfl rfl (Nat.le_of_ble_eq_true rfl) (Nat.le_of_eq (Nat.zero_add _)) (Nat.le_of_eq (Nat.zero_add _)) (fun r_112 G_112 h_112 => ?_)
    obtain ⟨rfl, hq⟩ := h_112
    rotate_left
    -- leaves: stop 115
    · rcases hq with ⟨k, p, e, hk, q⟩ | ⟨i1, v1, W, o2, e, q⟩
      · exact kbad _ k p e hk (mj_b h3 q)
      · exact kok _ i1 v1 W o2 e (mj_m h3 q)
  clear kok kbad t2 h
  have hF := hF1
  refine ar_aload_n (pc := 47) d_Mo_orders_47 rfl ?_
  refine ar_getIv (pc := 48) gf_Mo_234 d_Mo_orders_48 (by first | rfl | exact sh_wheel (by omega) | exact sh_milk (by omega)) e36 (fun r_48 => ?_)
  refine ar_if_ne (pc := 51) 254 d_Mo_orders_51 (by decide) ⟨by omega, by omega⟩ (fun h_51 => by exfalso; omega) (fun h_51 => ?_)
  refine ar_aload_n (pc := 54) d_Mo_orders_54 rfl ?_
  refine ar_getIv (pc := 55) gf_Mo_222 d_Mo_orders_55 (by first | rfl | exact sh_wheel (by omega) | exact sh_milk (by omega)) hs (fun r_55 => ?_)
  refine ar_if_eq (pc := 58) 254 d_Mo_orders_58 (by decide) ⟨by omega, by omega⟩ (fun h_58 => by exfalso; omega) (fun h_58 => ?_)
  refine ar_aload_n (pc := 61) d_Mo_orders_61 rfl ?_
  refine ar_ldc2 (pc := 62) (2003330414) kj_Mo_237 d_Mo_orders_62 (by decide) ?_
  refine ac_virt (pc := 65) (N := mt_Mo_isWord) _ _ mv_Mo_isWord ml_Mo_288 ck_12 d_Mo_orders_65 c65 (by first | rfl | exact sh_wheel (by omega) | exact sh_milk (by omega)) rfl rfl (Nat.le_of_ble_eq_true rfl) (Nat.le_of_eq (Nat.zero_add _)) (Nat.le_of_eq (Nat.zero_add _)) (fun r_65 G_65 h_65 => ?_)
  obtain ⟨rfl, e_65⟩ := h_65
  subst G_65
  refine ar_if_eq (pc := 68) 80 d_Mo_orders_68 (by decide) ⟨by omega, by omega⟩ (fun h_68 => by exfalso; omega) (fun h_68 => ?_)
  refine ar_aload_n (pc := 71) d_Mo_orders_71 rfl ?_
  refine ar_getIv (pc := 72) gf_Mo_328 d_Mo_orders_72 (by first | rfl | exact sh_wheel (by omega) | exact sh_milk (by omega)) e31 (fun r_72 => ?_)
  refine ar_bipush (pc := 75) d_Mo_orders_75 (by decide) ?_
  refine ar_icmp_ne (pc := 77) 85 d_Mo_orders_77 (by decide) ⟨by omega, by omega⟩ ⟨by omega, by omega⟩ (fun h_77 => ?_) (fun h_77 => by exfalso; omega)
  refine ar_aload_n (pc := 85) d_Mo_orders_85 rfl ?_
  refine ar_getIv (pc := 86) gf_Mo_234 d_Mo_orders_86 (by first | rfl | exact sh_wheel (by omega) | exact sh_milk (by omega)) e36 (fun r_86 => ?_)
  refine ar_if_le (pc := 89) 94 d_Mo_orders_89 (by decide) ⟨by omega, by omega⟩ (fun h_89 => ?_) (fun h_89 => by exfalso; omega)
  refine ar_aload_n (pc := 94) d_Mo_orders_94 rfl ?_
  refine ar_getR (pc := 95) gf_Mo_83 d_Mo_orders_95 (by first | rfl | exact sh_wheel (by omega) | exact sh_milk (by omega)) (hF _ _ _ rfl) ?_
  refine ar_aload_n (pc := 98) d_Mo_orders_98 rfl ?_
  refine ar_getIv (pc := 99) gf_Mo_328 d_Mo_orders_99 (by first | rfl | exact sh_wheel (by omega) | exact sh_milk (by omega)) e31 (fun r_99 => ?_)
  refine ar_aload_n (pc := 102) d_Mo_orders_102 rfl ?_
  refine ar_getIv (pc := 103) gf_Mo_273 d_Mo_orders_103 (by first | rfl | exact sh_wheel (by omega) | exact sh_milk (by omega)) e32 (fun r_103 => ?_)
  refine ar_iast (pc := 106) d_Mo_orders_106 rfl (l) (by omega) (by omega) ⟨by omega, by omega⟩ ?_
  refine ar_aload_n (pc := 107) d_Mo_orders_107 rfl ?_
  refine ac_virt (pc := 108) (N := mt_Mo_next) _ _ mv_Mo_next ml_Mo_318 ck_12 d_Mo_orders_108 c108 (by first | rfl | exact sh_wheel (by omega) | exact sh_milk (by omega)) rfl rfl (Nat.le_of_ble_eq_true rfl) (Nat.le_of_eq (Nat.zero_add _)) (Nat.le_of_eq (Nat.zero_add _)) (fun r_108 G_108 h_108 => ?_)
  obtain ⟨rfl, q108⟩ := h_108
  rotate_left
  -- leaves: stop 111
  · exact ar_loc (k4 _ q108) ⟨rfl, trivial⟩
