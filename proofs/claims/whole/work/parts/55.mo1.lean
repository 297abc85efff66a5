/-! ===== the reference's reader: small parts ===== -/
theorem ar_leq {X : gx_T} {M : mt_T} {d pc : Nat} {L : List (Nat × Option av_T)} {st : List av_T} {G : mm_T} {k n : Nat} {Q : Option av_T → mm_T → Prop} {x y off : Int} (t : Nat) (hd : decode M.2.1 pc = .ok (.lcmp, 1)) (hd2 : decode M.2.1 (pc + 1) = .ok (.ifCond .eq off, 3)) (ht : ((pc + 1 : Nat) : Int) + off = (t : Int)) (hxr : j6_in x) (hyr : j6_in y) (kt : x = y → aw_W X M d t L st G k n Q) (kf : x ≠ y → aw_W X M d (pc + 4) L st G k n Q) : aw_W X M d pc L (av_l y :: av_l x :: st) G k n Q := by
  refine ar_lcmp hd hxr hyr ?_
  by_cases h1 : y < x
  · rw [if_pos h1]; exact ar_if_eq t hd2 ht ⟨by omega, by omega⟩ (fun q => by omega) (fun _ => kf (by omega))
  · rw [if_neg h1]
    by_cases h2 : x = y
    · rw [if_pos h2]; exact ar_if_eq t hd2 ht ⟨by omega, by omega⟩ (fun _ => kt h2) (fun q => by omega)
    · rw [if_neg h2]; exact ar_if_eq t hd2 ht ⟨by omega, by omega⟩ (fun q => by omega) (fun _ => kf h2)
theorem ar_lne {X : gx_T} {M : mt_T} {d pc : Nat} {L : List (Nat × Option av_T)} {st : List av_T} {G : mm_T} {k n : Nat} {Q : Option av_T → mm_T → Prop} {x y off : Int} (t : Nat) (hd : decode M.2.1 pc = .ok (.lcmp, 1)) (hd2 : decode M.2.1 (pc + 1) = .ok (.ifCond .ne off, 3)) (ht : ((pc + 1 : Nat) : Int) + off = (t : Int)) (hxr : j6_in x) (hyr : j6_in y) (kt : x ≠ y → aw_W X M d t L st G k n Q) (kf : x = y → aw_W X M d (pc + 4) L st G k n Q) : aw_W X M d pc L (av_l y :: av_l x :: st) G k n Q := by
  refine ar_lcmp hd hxr hyr ?_
  by_cases h1 : y < x
  · rw [if_pos h1]; exact ar_if_ne t hd2 ht ⟨by omega, by omega⟩ (fun _ => kt (by omega)) (fun q => by omega)
  · rw [if_neg h1]
    by_cases h2 : x = y
    · rw [if_pos h2]; exact ar_if_ne t hd2 ht ⟨by omega, by omega⟩ (fun q => by omega) (fun _ => kf h2)
    · rw [if_neg h2]; exact ar_if_ne t hd2 ht ⟨by omega, by omega⟩ (fun _ => kt h2) (fun q => by omega)
def wt_R (G : mm_T) : List Int → Prop
  | [] => True
  | w :: t => mm_I G 88 t.length = w ∧ wt_R G t
theorem wt_up {G G1 : mm_T} : ∀ W : List Int, (∀ j, j < W.length → mm_I G1 88 j = mm_I G 88 j) → wt_R G W → wt_R G1 W := by
  intro W
  induction W with
  | nil => intro _ _; trivial
  | cons w t ih =>
    intro h hw
    exact ⟨(h _ (by simp)).trans hw.1, ih (fun j hj => h j (by simp; omega)) hw.2⟩
/-- the token at which the reference stands -/
def mo_T (B : Nat → Int) (z : Nat) (G1 : mm_T) (i : Nat) : Prop := mm_I G1 60 41 = pl_i B z i ∧ tw_R (tn_K B z i) (mm_I G1 60 40) (mm_J G1 60 43) ∧ (tn_K B z i = 302 → mm_I G1 60 42 = tn_M B z i) ∧ (tn_K B z i ≠ 300 → tn_K B z i ≠ 301 → mm_I G1 60 38 = (ps_k B z i + tl_n B z (ps_k B z i) : Nat))
/-- the reference's state while it reads an e -/
def mo_F (B : Nat → Int) (z : Nat) (G G1 : mm_T) (i v : Nat) (W o : List Int) : Prop := (mm_R G1 = mm_R G ∧ mm_A G1 = mm_A G) ∧ (∀ b j, ¬ (b = 60 ∧ (j = 32 ∨ j = 33 ∨ j = 38 ∨ j = 40 ∨ j = 41 ∨ j = 42 ∨ j = 45 ∨ j = 46)) → b ≠ 83 → b ≠ 84 → b ≠ 88 → mm_I G1 b j = mm_I G b j) ∧ (∀ b j, ¬ (b = 60 ∧ j = 43) → mm_J G1 b j = mm_J G b j) ∧ mo_T B z G1 i ∧ mm_I G1 60 33 = v ∧ (mm_I G1 60 45 = (W.length : Nat) ∧ wt_R G1 W ∧ mm_I G1 60 46 = (dp_n W : Nat)) ∧ mm_I G1 60 32 = (o.length : Nat) ∧ ∀ k, k < o.length → it_R (o.getD k 0) (mm_I G1 83 k) (mm_I G1 84 k)
/-- a fault is told -/
def mw_F (G G1 : mm_T) (k p : Int) : Prop := (mm_R G1 = mm_R G ∧ mm_A G1 = mm_A G) ∧ (∀ b j, ¬ (b = 60 ∧ (j = 32 ∨ j = 33 ∨ j = 36 ∨ j = 37 ∨ j = 38 ∨ j = 40 ∨ j = 41 ∨ j = 42 ∨ j = 45 ∨ j = 46)) → b ≠ 83 → b ≠ 84 → b ≠ 88 → mm_I G1 b j = mm_I G b j) ∧ (∀ b j, ¬ (b = 60 ∧ j = 43) → mm_J G1 b j = mm_J G b j) ∧ mm_I G1 60 36 = k ∧ mm_I G1 60 37 = p
theorem mo_w {B : Nat → Int} {z : Nat} {G G1 : mm_T} {i v : Nat} {W o : List Int} (h : mo_F B z G G1 i v W o) (hF : fx_R G) (hz : mm_I G 60 39 = z) (hB : mb_v G = B) : fx_R G1 ∧ mm_I G1 60 39 = z ∧ mb_v G1 = B := by
  obtain ⟨h1, h2, h3, h4⟩ := h
  have e1 : mm_I G1 60 39 = mm_I G 60 39 := h2 _ _ (by omega) (by omega) (by omega) (by omega)
  refine ⟨fun a k b h => by rw [h1.1]; exact hF a k b h, by rw [e1]; exact hz, ?_⟩
  rw [← hB]; funext i
  unfold mb_v
  rw [e1, h2 87 i (by omega) (by omega) (by omega) (by omega)]
theorem mo_n {B : Nat → Int} {z : Nat} {G G1 G2 : mm_T} {i i' v : Nat} {W o : List Int} (h : mo_F B z G G1 i v W o) (hn : nx_F B z G1 G2 (ps_k B z i')) : mo_F B z G G2 i' v W o := by
  obtain ⟨h1, h2, h3, h4, h5, ⟨h6, h7, h8⟩, h9, h10⟩ := h
  obtain ⟨g1, g2, g3, g4, g5, g6, g7⟩ := hn
  refine ⟨⟨g1.1.trans h1.1, g1.2.trans h1.2⟩, fun b j b1 b2 b3 b4 => by rw [g2 b j (by omega)]; exact h2 b j b1 b2 b3 b4, fun b j hj => by rw [g3 b j hj]; exact h3 b j hj, ⟨g4, g5, g6, g7⟩, by rw [g2 _ _ (by omega)]; exact h5, ⟨by rw [g2 _ _ (by omega)]; exact h6, wt_up W (fun j _ => g2 _ _ (by omega)) h7, by rw [g2 _ _ (by omega)]; exact h8⟩, by rw [g2 _ _ (by omega)]; exact h9, fun k hk => by rw [g2 _ _ (by omega), g2 _ _ (by omega)]; exact h10 k hk⟩
theorem te_p {B : Nat → Int} {z n i : Nat} (bb : bb_B B z) (hE : te_E B z n) (hi : i ≤ n) : ps_k B z i ≤ z := (ps_z bb i (fun j hj => (hE.2.2 j (by omega)).2)).2
theorem te_n {B : Nat → Int} {z n i : Nat} (hE : te_E B z n) (hi : i ≤ n) (hk : tn_K B z i ≠ 300 ∧ tn_K B z i ≠ 301) : i < n := by
  have := hE.2.1
  by_cases e : i = n
  · rw [e] at hk; omega
  · omega
theorem cm_Mo_nx (X : gx_T) (d : Nat) {B : Nat → Int} {z n : Nat} {G G1 : mm_T} {i v : Nat} {W o : List Int} (hF : fx_R G) (hz : mm_I G 60 39 = z) (bb : bb_B B z) (hB : mb_v G = B) (hE : te_E B z n) (h : mo_F B z G G1 i v W o) (hi : i < n) : aw_M X (d + 2) mt_Mo_next [av_r (some 60)] G1 0 0 (fun r G' => r = none ∧ mo_F B z G G' (i + 1) v W o) := by
  obtain ⟨hF1, hz1, hB1⟩ := mo_w h hF hz hB
  have hk := hE.2.2 i hi
  have ha := h.2.2.2.1.2.2.2 hk.1 hk.2
  have tp := tl_pos bb (tk_end bb (te_p bb hE (by omega)) hk.2)
  exact am_mono (fun r G' hr => ⟨hr.1, mo_n (i' := i + 1) h hr.2⟩) (cm_Mo_next X d G1 hF1 hz1 bb hB1 ha tp.2)
theorem mo_b {B : Nat → Int} {z : Nat} {G G1 : mm_T} {i v : Nat} {W o : List Int} (h : mo_F B z G G1 i v W o) (k p : Int) : mw_F G (ms_I (ms_I G1 60 36 k) 60 37 p) k p := by
  obtain ⟨h1, h2, h3, h4⟩ := h
  refine ⟨h1, fun b j b1 b2 b3 b4 => ?_, h3, ?_, mi_s _ _ _ _⟩
  · rw [mi_n (by omega), mi_n (by omega)]; exact h2 b j (by omega) b2 b3 b4
  · rw [mi_n (by omega), mi_s]
theorem is_sv (b : Int) : is_s b = 1 ↔ (b = 59 ∨ b = 60 ∨ b = 62 ∨ b = 61 ∨ b = 43 ∨ b = 45 ∨ b = 40 ∨ b = 41) := by unfold is_s; split <;> omega
theorem cm_Mo_wrong (X : gx_T) (d : Nat) {B : Nat → Int} {z : Nat} {G G1 : mm_T} {i v : Nat} {W o : List Int} {k : Int} (h : mo_F B z G G1 i v W o) (h0 : mm_I G 60 36 = 0) (hk : 0 ≤ k ∧ k ≤ 3) : aw_M X (d + 1) mt_Mo_wrong [av_r (some 60), av_i k] G1 0 0 (fun r G' => r = none ∧ mw_F G G' (fq_v (tn_K B z) i k) (pl_i B z i)) := by
  have fin := mo_b h (fq_v (tn_K B z) i k) (pl_i B z i)
  obtain ⟨-, h2, -, ⟨t1, t2, -⟩, -⟩ := h
  have e36 : mm_I G1 60 36 = 0 := by rw [h2 _ _ (by omega) (by omega) (by omega) (by omega)]; exact h0
  unfold tw_R at t2
  rw [is_sv] at t2
  generalize hs : mm_I G1 60 40 = s at *
  generalize mm_J G1 60 43 = w at *
  unfold fq_v at *
  clear h2
  refine aw_enter pf_Mo_wrong (Nat.le_of_ble_eq_true rfl) ?_
  refine ar_rngI (fun hrg => ?_)
  have rp := hrg 60 41
  rw [t1] at rp
  clear hrg
  by_cases hq : tn_K B z i = 300
  · rw [if_pos hq] at *
    have hs3 : s = 3 := by omega
    refine ar_aload_n (pc := 0) d_Mo_wrong_0 rfl ?_
    refine ar_getIv (pc := 1) gf_Mo_234 d_Mo_wrong_1 (by first | rfl | exact sh_wheel (by omega) | exact sh_milk (by omega)) e36 (fun r_1 => ?_)
    refine ar_if_le (pc := 4) 8 d_Mo_wrong_4 (by decide) ⟨by omega, by omega⟩ (fun h_4 => ?_) (fun h_4 => by exfalso; omega)
    refine ar_aload_n (pc := 8) d_Mo_wrong_8 rfl ?_
    refine ar_aload_n (pc := 9) d_Mo_wrong_9 rfl ?_
    refine ar_getIv (pc := 10) gf_Mo_222 d_Mo_wrong_10 (by first | rfl | exact sh_wheel (by omega) | exact sh_milk (by omega)) (show _ = s from hs) (fun r_10 => ?_)
    refine ar_iconst (pc := 13) d_Mo_wrong_13 ?_
    refine ar_icmp_ne (pc := 14) 21 d_Mo_wrong_14 (by decide) ⟨by omega, by omega⟩ ⟨by omega, by omega⟩ (fun h_14 => by exfalso; omega) (fun h_14 => ?_)
    refine ar_iconst (pc := 17) d_Mo_wrong_17 ?_
    refine ar_goto (pc := 18) 22 d_Mo_wrong_18 (by decide) ?_
    refine ar_putI (pc := 22) gf_Mo_234 d_Mo_wrong_22 rfl (by first | rfl | exact sh_wheel (by omega) | exact sh_milk (by omega)) ⟨by omega, by omega⟩ ?_
    refine ar_aload_n (pc := 25) d_Mo_wrong_25 rfl ?_
    refine ar_aload_n (pc := 26) d_Mo_wrong_26 rfl ?_
    refine ar_getIv (pc := 27) gf_Mo_212 d_Mo_wrong_27 (by first | rfl | exact sh_wheel (by omega) | exact sh_milk (by omega)) (show _ = pl_i B z i from t1) (fun r_27 => ?_)
    refine ar_putI (pc := 30) gf_Mo_92 d_Mo_wrong_30 rfl (by first | rfl | exact sh_wheel (by omega) | exact sh_milk (by omega)) ⟨by omega, by omega⟩ ?_
    refine ar_ret (pc := 33) d_Mo_wrong_33 rfl ?_
    rotate_left
    -- leaves: ret 33
    · exact ⟨rfl, fin⟩
  · rw [if_neg hq] at *
    have hs3 : ¬ s = 3 ∧ i3_in s := by omega
    refine ar_aload_n (pc := 0) d_Mo_wrong_0 rfl ?_
    refine ar_getIv (pc := 1) gf_Mo_234 d_Mo_wrong_1 (by first | rfl | exact sh_wheel (by omega) | exact sh_milk (by omega)) e36 (fun r_1 => ?_)
    refine ar_if_le (pc := 4) 8 d_Mo_wrong_4 (by decide) ⟨by omega, by omega⟩ (fun h_4 => ?_) (fun h_4 => by exfalso; omega)
    refine ar_aload_n (pc := 8) d_Mo_wrong_8 rfl ?_
    refine ar_aload_n (pc := 9) d_Mo_wrong_9 rfl ?_
    refine ar_getIv (pc := 10) gf_Mo_222 d_Mo_wrong_10 (by first | rfl | exact sh_wheel (by omega) | exact sh_milk (by omega)) (show _ = s from hs) (fun r_10 => ?_)
    refine ar_iconst (pc := 13) d_Mo_wrong_13 ?_
    refine ar_icmp_ne (pc := 14) 21 d_Mo_wrong_14 (by decide) ⟨by omega, by omega⟩ ⟨by omega, by omega⟩ (fun h_14 => ?_) (fun h_14 => by exfalso; omega)
    refine ar_iload_n (pc := 21) d_Mo_wrong_21 rfl ?_
    refine ar_putI (pc := 22) gf_Mo_234 d_Mo_wrong_22 rfl (by first | rfl | exact sh_wheel (by omega) | exact sh_milk (by omega)) ⟨by omega, by omega⟩ ?_
    refine ar_aload_n (pc := 25) d_Mo_wrong_25 rfl ?_
    refine ar_aload_n (pc := 26) d_Mo_wrong_26 rfl ?_
    refine ar_getIv (pc := 27) gf_Mo_212 d_Mo_wrong_27 (by first | rfl | exact sh_wheel (by omega) | exact sh_milk (by omega)) (show _ = pl_i B z i from t1) (fun r_27 => ?_)
    refine ar_putI (pc := 30) gf_Mo_92 d_Mo_wrong_30 rfl (by first | rfl | exact sh_wheel (by omega) | exact sh_milk (by omega)) ⟨by omega, by omega⟩ ?_
    refine ar_ret (pc := 33) d_Mo_wrong_33 rfl ?_
    rotate_left
    -- leaves: ret 33
    · exact ⟨rfl, fin⟩
theorem cm_Mo_isWord (X : gx_T) (d : Nat) {B : Nat → Int} {z : Nat} {G1 : mm_T} {i w : Nat} {c : Int} (h : mo_T B z G1 i) (hw : w < 18) (hc : c = wk_c.getD w 0) : aw_M X (d + 1) mt_Mo_isWord [av_r (some 60), av_l c] G1 0 0 (fun r G' => r = some (av_i (if tn_K B z i = w then 1 else 0)) ∧ G' = G1) := by
  obtain ⟨t1, t2, -⟩ := h
  have key := wk_is (V := mm_J G1 60 43) hw
  rw [← hc] at key
  have cr : j6_in c := by
    rw [hc]
    rcases wk_18 hw with rfl | rfl | rfl | rfl | rfl | rfl | rfl | rfl | rfl | rfl | rfl | rfl | rfl | rfl | rfl | rfl | rfl | rfl <;> decide
  clear hc
  unfold tw_R at t2
  rw [is_sv] at t2
  generalize hs : mm_I G1 60 40 = s at *
  generalize hW : mm_J G1 60 43 = V at *
  generalize tn_K B z i = K at *
  have y1 : s ≠ 1 → K ≠ w := by intro q e; omega
  have y2 : V ≠ c → s = 1 → K ≠ w := by intro q q2 e; exact q (key.mp (by omega))
  have y3 : V = c → s = 1 → K = w := by intro q q2; have := key.mpr q; omega
  clear key t2
  refine aw_enter pf_Mo_isWord (Nat.le_of_ble_eq_true rfl) ?_
  refine ar_aload_n (pc := 0) d_Mo_isWord_0 rfl ?_
  refine ar_getIv (pc := 1) gf_Mo_222 d_Mo_isWord_1 (by first | rfl | exact sh_wheel (by omega) | exact sh_milk (by omega)) hs (fun r_1 => ?_)
  refine ar_iconst (pc := 4) d_Mo_isWord_4 ?_
  refine ar_icmp_ne (pc := 5) 21 d_Mo_isWord_5 (by decide) ⟨by omega, by omega⟩ ⟨by omega, by omega⟩ (fun h_5 => ?_) (fun h_5 => ?_)
  refine ar_iconst (pc := 21) d_Mo_isWord_21 ?_
  refine ar_zret (pc := 22) d_Mo_isWord_22 rfl (by omega) ?_
  rotate_left
  refine ar_aload_n (pc := 8) d_Mo_isWord_8 rfl ?_
  refine ar_getJv (pc := 9) gf_Mo_215 d_Mo_isWord_9 (by first | rfl | exact sh_wheel (by omega) | exact sh_milk (by omega)) hW (fun r_9 => ?_)
  refine ar_lload_n (pc := 12) d_Mo_isWord_12 rfl ?_
  refine ar_lne (pc := 13) 21 d_Mo_isWord_13 d_Mo_isWord_14 (by decide) r_9 cr (fun h_13 => ?_) (fun h_13 => ?_)
  refine ar_iconst (pc := 21) d_Mo_isWord_21 ?_
  refine ar_zret (pc := 22) d_Mo_isWord_22 rfl (by omega) ?_
  rotate_left
  refine ar_iconst (pc := 17) d_Mo_isWord_17 ?_
  refine ar_goto (pc := 18) 22 d_Mo_isWord_18 (by decide) ?_
  refine ar_zret (pc := 22) d_Mo_isWord_22 rfl (by omega) ?_
  rotate_left
  -- leaves: ret 22, ret 22, ret 22
  · rw [if_neg (y1 h_5)]; exact ⟨rfl, rfl⟩
  · rw [if_neg (y2 h_13 (by omega))]; exact ⟨rfl, rfl⟩
  · rw [if_pos (y3 h_13 (by omega))]; exact ⟨rfl, rfl⟩
theorem cm_Mo_isKey (X : gx_T) (d : Nat) {B : Nat → Int} {z : Nat} {G1 : mm_T} {i : Nat} (h : mo_T B z G1 i) (hs : mm_I G1 60 40 = 1) : aw_M X (d + 1) mt_Mo_isKey [av_r (some 60)] G1 0 0 (fun r G' => r = some (av_i (if 0 ≤ tn_K B z i ∧ tn_K B z i ≤ 7 then 1 else 0)) ∧ G' = G1) := by
  obtain ⟨t1, t2, -⟩ := h
  have t3 : wk_v (mm_J G1 60 43) = tn_K B z i := by
    unfold tw_R at t2
    rw [is_sv, hs] at t2
    omega
  have key : ∀ w : Nat, w < 18 → (mm_J G1 60 43 = wk_c.getD w 0 ↔ tn_K B z i = w) := fun w hw => by rw [← t3]; exact (wk_is hw).symm
  have yes : ∀ w : Nat, w < 8 → mm_J G1 60 43 = wk_c.getD w 0 → (if 0 ≤ tn_K B z i ∧ tn_K B z i ≤ 7 then (1 : Int) else 0) = 1 := fun w hw e => if_pos (by have := (key w (by omega)).mp e; omega)
  have no : (∀ w : Nat, w < 8 → mm_J G1 60 43 ≠ wk_c.getD w 0) → (if 0 ≤ tn_K B z i ∧ tn_K B z i ≤ 7 then (1 : Int) else 0) = 0 := fun q => if_neg (fun e => q (tn_K B z i).toNat (by omega) ((key (tn_K B z i).toNat (by omega)).mpr (by omega)))
  clear key t2 t3
  generalize (if 0 ≤ tn_K B z i ∧ tn_K B z i ≤ 7 then (1 : Int) else 0) = R at *
  generalize hW : mm_J G1 60 43 = V at *
  refine aw_enter pf_Mo_isKey (Nat.le_of_ble_eq_true rfl) ?_
  refine ar_aload_n (pc := 0) d_Mo_isKey_0 rfl ?_
  refine ar_getJv (pc := 1) gf_Mo_215 d_Mo_isKey_1 (by first | rfl | exact sh_wheel (by omega) | exact sh_milk (by omega)) hW (fun r_1 => ?_)
  refine ar_ldc2 (pc := 4) (2003330414) kj_Mo_237 d_Mo_isKey_4 (by decide) ?_
  refine ar_leq (pc := 7) 88 d_Mo_isKey_7 d_Mo_isKey_8 (by decide) ⟨by omega, by omega⟩ ⟨by omega, by omega⟩ (fun h_7 => ?_) (fun h_7 => ?_)
  refine ar_iconst (pc := 88) d_Mo_isKey_88 ?_
  refine ar_goto (pc := 89) 93 d_Mo_isKey_89 (by decide) ?_
  refine ar_zret (pc := 93) d_Mo_isKey_93 rfl (by omega) ?_
  rotate_left
  refine ar_aload_n (pc := 11) d_Mo_isKey_11 rfl ?_
  refine ar_getJv (pc := 12) gf_Mo_215 d_Mo_isKey_12 (by first | rfl | exact sh_wheel (by omega) | exact sh_milk (by omega)) hW (fun r_12 => ?_)
  refine ar_ldc2 (pc := 15) (25711) kj_Mo_239 d_Mo_isKey_15 (by decide) ?_
  refine ar_leq (pc := 18) 88 d_Mo_isKey_18 d_Mo_isKey_19 (by decide) ⟨by omega, by omega⟩ ⟨by omega, by omega⟩ (fun h_18 => ?_) (fun h_18 => ?_)
  refine ar_iconst (pc := 88) d_Mo_isKey_88 ?_
  refine ar_goto (pc := 89) 93 d_Mo_isKey_89 (by decide) ?_
  refine ar_zret (pc := 93) d_Mo_isKey_93 rfl (by omega) ?_
  rotate_left
  refine ar_aload_n (pc := 22) d_Mo_isKey_22 rfl ?_
  refine ar_getJv (pc := 23) gf_Mo_215 d_Mo_isKey_23 (by first | rfl | exact sh_wheel (by omega) | exact sh_milk (by omega)) hW (fun r_23 => ?_)
  refine ar_ldc2 (pc := 26) (1953854062) kj_Mo_241 d_Mo_isKey_26 (by decide) ?_
  refine ar_leq (pc := 29) 88 d_Mo_isKey_29 d_Mo_isKey_30 (by decide) ⟨by omega, by omega⟩ ⟨by omega, by omega⟩ (fun h_29 => ?_) (fun h_29 => ?_)
  refine ar_iconst (pc := 88) d_Mo_isKey_88 ?_
  refine ar_goto (pc := 89) 93 d_Mo_isKey_89 (by decide) ?_
  refine ar_zret (pc := 93) d_Mo_isKey_93 rfl (by omega) ?_
  rotate_left
  refine ar_aload_n (pc := 33) d_Mo_isKey_33 rfl ?_
  refine ar_getJv (pc := 34) gf_Mo_215 d_Mo_isKey_34 (by first | rfl | exact sh_wheel (by omega) | exact sh_milk (by omega)) hW (fun r_34 => ?_)
  refine ar_ldc2 (pc := 37) (2002875240) kj_Mo_243 d_Mo_isKey_37 (by decide) ?_
  refine ar_leq (pc := 40) 88 d_Mo_isKey_40 d_Mo_isKey_41 (by decide) ⟨by omega, by omega⟩ ⟨by omega, by omega⟩ (fun h_40 => ?_) (fun h_40 => ?_)
  refine ar_iconst (pc := 88) d_Mo_isKey_88 ?_
  refine ar_goto (pc := 89) 93 d_Mo_isKey_89 (by decide) ?_
  refine ar_zret (pc := 93) d_Mo_isKey_93 rfl (by omega) ?_
  rotate_left
  refine ar_aload_n (pc := 44) d_Mo_isKey_44 rfl ?_
  refine ar_getJv (pc := 45) gf_Mo_215 d_Mo_isKey_45 (by first | rfl | exact sh_wheel (by omega) | exact sh_milk (by omega)) hW (fun r_45 => ?_)
  refine ar_ldc2 (pc := 48) (422827094888) kj_Mo_245 d_Mo_isKey_48 (by decide) ?_
  refine ar_leq (pc := 51) 88 d_Mo_isKey_51 d_Mo_isKey_52 (by decide) ⟨by omega, by omega⟩ ⟨by omega, by omega⟩ (fun h_51 => ?_) (fun h_51 => ?_)
  refine ar_iconst (pc := 88) d_Mo_isKey_88 ?_
  refine ar_goto (pc := 89) 93 d_Mo_isKey_89 (by decide) ?_
  refine ar_zret (pc := 93) d_Mo_isKey_93 rfl (by omega) ?_
  rotate_left
  refine ar_aload_n (pc := 55) d_Mo_isKey_55 rfl ?_
  refine ar_getJv (pc := 56) gf_Mo_215 d_Mo_isKey_56 (by first | rfl | exact sh_wheel (by omega) | exact sh_milk (by omega)) hW (fun r_56 => ?_)
  refine ar_ldc2 (pc := 59) (28530) kj_Mo_247 d_Mo_isKey_59 (by decide) ?_
  refine ar_leq (pc := 62) 88 d_Mo_isKey_62 d_Mo_isKey_63 (by decide) ⟨by omega, by omega⟩ ⟨by omega, by omega⟩ (fun h_62 => ?_) (fun h_62 => ?_)
  refine ar_iconst (pc := 88) d_Mo_isKey_88 ?_
  refine ar_goto (pc := 89) 93 d_Mo_isKey_89 (by decide) ?_
  refine ar_zret (pc := 93) d_Mo_isKey_93 rfl (by omega) ?_
  rotate_left
  refine ar_aload_n (pc := 66) d_Mo_isKey_66 rfl ?_
  refine ar_getJv (pc := 67) gf_Mo_215 d_Mo_isKey_67 (by first | rfl | exact sh_wheel (by omega) | exact sh_milk (by omega)) hW (fun r_67 => ?_)
  refine ar_ldc2 (pc := 70) (6385252) kj_Mo_249 d_Mo_isKey_70 (by decide) ?_
  refine ar_leq (pc := 73) 88 d_Mo_isKey_73 d_Mo_isKey_74 (by decide) ⟨by omega, by omega⟩ ⟨by omega, by omega⟩ (fun h_73 => ?_) (fun h_73 => ?_)
  refine ar_iconst (pc := 88) d_Mo_isKey_88 ?_
  refine ar_goto (pc := 89) 93 d_Mo_isKey_89 (by decide) ?_
  refine ar_zret (pc := 93) d_Mo_isKey_93 rfl (by omega) ?_
  rotate_left
  refine ar_aload_n (pc := 77) d_Mo_isKey_77 rfl ?_
  refine ar_getJv (pc := 78) gf_Mo_215 d_Mo_isKey_78 (by first | rfl | exact sh_wheel (by omega) | exact sh_milk (by omega)) hW (fun r_78 => ?_)
  refine ar_ldc2 (pc := 81) (7237492) kj_Mo_251 d_Mo_isKey_81 (by decide) ?_
  refine ar_lne (pc := 84) 92 d_Mo_isKey_84 d_Mo_isKey_85 (by decide) ⟨by omega, by omega⟩ ⟨by omega, by omega⟩ (fun h_84 => ?_) (fun h_84 => ?_)
  refine ar_iconst (pc := 92) d_Mo_isKey_92 ?_
  refine ar_zret (pc := 93) d_Mo_isKey_93 rfl (by omega) ?_
  rotate_left
  refine ar_iconst (pc := 88) d_Mo_isKey_88 ?_
  refine ar_goto (pc := 89) 93 d_Mo_isKey_89 (by decide) ?_
  refine ar_zret (pc := 93) d_Mo_isKey_93 rfl (by omega) ?_
  rotate_left
  -- leaves: ret 93, ret 93, ret 93, ret 93, ret 93, ret 93, ret 93, ret 93, ret 93
  · rw [yes 0 (by omega) h_7]; exact ⟨rfl, rfl⟩
  · rw [yes 1 (by omega) h_18]; exact ⟨rfl, rfl⟩
  · rw [yes 2 (by omega) h_29]; exact ⟨rfl, rfl⟩
  · rw [yes 3 (by omega) h_40]; exact ⟨rfl, rfl⟩
  · rw [yes 4 (by omega) h_51]; exact ⟨rfl, rfl⟩
  · rw [yes 5 (by omega) h_62]; exact ⟨rfl, rfl⟩
  · rw [yes 6 (by omega) h_73]; exact ⟨rfl, rfl⟩
  · refine ⟨?_, rfl⟩
    rw [no (fun w hw => ?_)]
    have hw8 : w = 0 ∨ w = 1 ∨ w = 2 ∨ w = 3 ∨ w = 4 ∨ w = 5 ∨ w = 6 ∨ w = 7 := by omega
    rcases hw8 with rfl | rfl | rfl | rfl | rfl | rfl | rfl | rfl
    · exact h_7
    · exact h_18
    · exact h_29
    · exact h_40
    · exact h_51
    · exact h_62
    · exact h_73
    · exact h_84
  · rw [yes 7 (by omega) h_84]; exact ⟨rfl, rfl⟩
theorem cm_Mo_named (X : gx_T) (d : Nat) {B : Nat → Int} {z : Nat} {G1 : mm_T} {i : Nat} (h : mo_T B z G1 i) (hs : mm_I G1 60 40 = 1) (hk : 8 ≤ tn_K B z i) : aw_M X (d + 1) mt_Mo_named [av_r (some 60)] G1 0 0 (fun r G' => r = some (av_i (if tn_K B z i ≤ 17 then tn_K B z i - 8 else -1)) ∧ G' = G1) := by
  obtain ⟨t1, t2, -⟩ := h
  have t3 : wk_v (mm_J G1 60 43) = tn_K B z i := by
    unfold tw_R at t2
    rw [is_sv, hs] at t2
    omega
  have key : ∀ w : Nat, w < 18 → (mm_J G1 60 43 = wk_c.getD w 0 ↔ tn_K B z i = w) := fun w hw => by rw [← t3]; exact (wk_is hw).symm
  have yes : ∀ w : Nat, w < 10 → mm_J G1 60 43 = wk_c.getD (8 + w) 0 → (if tn_K B z i ≤ 17 then tn_K B z i - 8 else -1) = (w : Int) := fun w hw e => by have := (key (8 + w) (by omega)).mp e; rw [if_pos (by omega)]; omega
  have no : (∀ w : Nat, w < 10 → mm_J G1 60 43 ≠ wk_c.getD (8 + w) 0) → (if tn_K B z i ≤ 17 then tn_K B z i - 8 else -1) = -1 := fun q => if_neg (fun e => q ((tn_K B z i).toNat - 8) (by omega) (by rw [show 8 + ((tn_K B z i).toNat - 8) = (tn_K B z i).toNat by omega]; exact (key (tn_K B z i).toNat (by omega)).mpr (by omega)))
  clear key t2 t3
  generalize (if tn_K B z i ≤ 17 then tn_K B z i - 8 else -1) = R at *
  generalize hW : mm_J G1 60 43 = V at *
  refine aw_enter pf_Mo_named (Nat.le_of_ble_eq_true rfl) ?_
  refine ar_aload_n (pc := 0) d_Mo_named_0 rfl ?_
  refine ar_getJv (pc := 1) gf_Mo_215 d_Mo_named_1 (by first | rfl | exact sh_wheel (by omega) | exact sh_milk (by omega)) hW (fun r_1 => ?_)
  refine ar_ldc2 (pc := 4) (1802071652) kj_Mo_253 d_Mo_named_4 (by decide) ?_
  refine ar_lne (pc := 7) 13 d_Mo_named_7 d_Mo_named_8 (by decide) ⟨by omega, by omega⟩ ⟨by omega, by omega⟩ (fun h_7 => ?_) (fun h_7 => ?_)
  refine ar_aload_n (pc := 13) d_Mo_named_13 rfl ?_
  refine ar_getJv (pc := 14) gf_Mo_215 d_Mo_named_14 (by first | rfl | exact sh_wheel (by omega) | exact sh_milk (by omega)) hW (fun r_14 => ?_)
  refine ar_ldc2 (pc := 17) (6383461) kj_Mo_255 d_Mo_named_17 (by decide) ?_
  refine ar_lne (pc := 20) 26 d_Mo_named_20 d_Mo_named_21 (by decide) ⟨by omega, by omega⟩ ⟨by omega, by omega⟩ (fun h_20 => ?_) (fun h_20 => ?_)
  refine ar_aload_n (pc := 26) d_Mo_named_26 rfl ?_
  refine ar_getJv (pc := 27) gf_Mo_215 d_Mo_named_27 (by first | rfl | exact sh_wheel (by omega) | exact sh_milk (by omega)) hW (fun r_27 => ?_)
  refine ar_ldc2 (pc := 30) (1919512677) kj_Mo_257 d_Mo_named_30 (by decide) ?_
  refine ar_lne (pc := 33) 39 d_Mo_named_33 d_Mo_named_34 (by decide) ⟨by omega, by omega⟩ ⟨by omega, by omega⟩ (fun h_33 => ?_) (fun h_33 => ?_)
  refine ar_aload_n (pc := 39) d_Mo_named_39 rfl ?_
  refine ar_getJv (pc := 40) gf_Mo_215 d_Mo_named_40 (by first | rfl | exact sh_wheel (by omega) | exact sh_milk (by omega)) hW (fun r_40 => ?_)
  refine ar_ldc2 (pc := 43) (470021401700) kj_Mo_259 d_Mo_named_43 (by decide) ?_
  refine ar_lne (pc := 46) 52 d_Mo_named_46 d_Mo_named_47 (by decide) ⟨by omega, by omega⟩ ⟨by omega, by omega⟩ (fun h_46 => ?_) (fun h_46 => ?_)
  refine ar_aload_n (pc := 52) d_Mo_named_52 rfl ?_
  refine ar_getJv (pc := 53) gf_Mo_215 d_Mo_named_53 (by first | rfl | exact sh_wheel (by omega) | exact sh_milk (by omega)) hW (fun r_53 => ?_)
  refine ar_ldc2 (pc := 56) (131277443786868) kj_Mo_261 d_Mo_named_56 (by decide) ?_
  refine ar_lne (pc := 59) 65 d_Mo_named_59 d_Mo_named_60 (by decide) ⟨by omega, by omega⟩ ⟨by omega, by omega⟩ (fun h_59 => ?_) (fun h_59 => ?_)
  refine ar_aload_n (pc := 65) d_Mo_named_65 rfl ?_
  refine ar_getJv (pc := 66) gf_Mo_215 d_Mo_named_66 (by first | rfl | exact sh_wheel (by omega) | exact sh_milk (by omega)) hW (fun r_66 => ?_)
  refine ar_ldc2 (pc := 69) (6383986) kj_Mo_263 d_Mo_named_69 (by decide) ?_
  refine ar_lne (pc := 72) 78 d_Mo_named_72 d_Mo_named_73 (by decide) ⟨by omega, by omega⟩ ⟨by omega, by omega⟩ (fun h_72 => ?_) (fun h_72 => ?_)
  refine ar_aload_n (pc := 78) d_Mo_named_78 rfl ?_
  refine ar_getJv (pc := 79) gf_Mo_215 d_Mo_named_79 (by first | rfl | exact sh_wheel (by omega) | exact sh_milk (by omega)) hW (fun r_79 => ?_)
  refine ar_ldc2 (pc := 82) (1684106608) kj_Mo_265 d_Mo_named_82 (by decide) ?_
  refine ar_lne (pc := 85) 92 d_Mo_named_85 d_Mo_named_86 (by decide) ⟨by omega, by omega⟩ ⟨by omega, by omega⟩ (fun h_85 => ?_) (fun h_85 => ?_)
  refine ar_aload_n (pc := 92) d_Mo_named_92 rfl ?_
  refine ar_getJv (pc := 93) gf_Mo_215 d_Mo_named_93 (by first | rfl | exact sh_wheel (by omega) | exact sh_milk (by omega)) hW (fun r_93 => ?_)
  refine ar_ldc2 (pc := 96) (1936286821) kj_Mo_267 d_Mo_named_96 (by decide) ?_
  refine ar_lne (pc := 99) 106 d_Mo_named_99 d_Mo_named_100 (by decide) ⟨by omega, by omega⟩ ⟨by omega, by omega⟩ (fun h_99 => ?_) (fun h_99 => ?_)
  refine ar_aload_n (pc := 106) d_Mo_named_106 rfl ?_
  refine ar_getJv (pc := 107) gf_Mo_215 d_Mo_named_107 (by first | rfl | exact sh_wheel (by omega) | exact sh_milk (by omega)) hW (fun r_107 => ?_)
  refine ar_ldc2 (pc := 110) (495672716390) kj_Mo_269 d_Mo_named_110 (by decide) ?_
  refine ar_lne (pc := 113) 120 d_Mo_named_113 d_Mo_named_114 (by decide) ⟨by omega, by omega⟩ ⟨by omega, by omega⟩ (fun h_113 => ?_) (fun h_113 => ?_)
  refine ar_aload_n (pc := 120) d_Mo_named_120 rfl ?_
  refine ar_getJv (pc := 121) gf_Mo_215 d_Mo_named_121 (by first | rfl | exact sh_wheel (by omega) | exact sh_milk (by omega)) hW (fun r_121 => ?_)
  refine ar_ldc2 (pc := 124) (6578553) kj_Mo_271 d_Mo_named_124 (by decide) ?_
  refine ar_lne (pc := 127) 136 d_Mo_named_127 d_Mo_named_128 (by decide) ⟨by omega, by omega⟩ ⟨by omega, by omega⟩ (fun h_127 => ?_) (fun h_127 => ?_)
  refine ar_iconst (pc := 136) d_Mo_named_136 ?_
  refine ar_iret (pc := 137) d_Mo_named_137 rfl ?_
  rotate_left
  refine ar_bipush (pc := 131) d_Mo_named_131 (by decide) ?_
  refine ar_goto (pc := 133) 137 d_Mo_named_133 (by decide) ?_
  refine ar_iret (pc := 137) d_Mo_named_137 rfl ?_
  rotate_left
  refine ar_bipush (pc := 117) d_Mo_named_117 (by decide) ?_
  refine ar_iret (pc := 119) d_Mo_named_119 rfl ?_
  rotate_left
  refine ar_bipush (pc := 103) d_Mo_named_103 (by decide) ?_
  refine ar_iret (pc := 105) d_Mo_named_105 rfl ?_
  rotate_left
  refine ar_bipush (pc := 89) d_Mo_named_89 (by decide) ?_
  refine ar_iret (pc := 91) d_Mo_named_91 rfl ?_
  rotate_left
  refine ar_iconst (pc := 76) d_Mo_named_76 ?_
  refine ar_iret (pc := 77) d_Mo_named_77 rfl ?_
  rotate_left
  refine ar_iconst (pc := 63) d_Mo_named_63 ?_
  refine ar_iret (pc := 64) d_Mo_named_64 rfl ?_
  rotate_left
  refine ar_iconst (pc := 50) d_Mo_named_50 ?_
  refine ar_iret (pc := 51) d_Mo_named_51 rfl ?_
  rotate_left
  refine ar_iconst (pc := 37) d_Mo_named_37 ?_
  refine ar_iret (pc := 38) d_Mo_named_38 rfl ?_
  rotate_left
  refine ar_iconst (pc := 24) d_Mo_named_24 ?_
  refine ar_iret (pc := 25) d_Mo_named_25 rfl ?_
  rotate_left
  refine ar_iconst (pc := 11) d_Mo_named_11 ?_
  refine ar_iret (pc := 12) d_Mo_named_12 rfl ?_
  rotate_left
  -- leaves: ret 137, ret 137, ret 119, ret 105, ret 91, ret 77, ret 64, ret 51, ret 38, ret 25, ret 12
  · refine ⟨?_, rfl⟩
    rw [no (fun w hw => ?_)]
    have hw8 : w = 0 ∨ w = 1 ∨ w = 2 ∨ w = 3 ∨ w = 4 ∨ w = 5 ∨ w = 6 ∨ w = 7 ∨ w = 8 ∨ w = 9 := by omega
    rcases hw8 with rfl | rfl | rfl | rfl | rfl | rfl | rfl | rfl | rfl | rfl
    · exact h_7
    · exact h_20
    · exact h_33
    · exact h_46
    · exact h_59
    · exact h_72
    · exact h_85
    · exact h_99
    · exact h_113
    · exact h_127
  · rw [yes 9 (by omega) h_127]; exact ⟨rfl, rfl⟩
  · rw [yes 8 (by omega) h_113]; exact ⟨rfl, rfl⟩
  · rw [yes 7 (by omega) h_99]; exact ⟨rfl, rfl⟩
  · rw [yes 6 (by omega) h_85]; exact ⟨rfl, rfl⟩
  · rw [yes 5 (by omega) h_72]; exact ⟨rfl, rfl⟩
  · rw [yes 4 (by omega) h_59]; exact ⟨rfl, rfl⟩
  · rw [yes 3 (by omega) h_46]; exact ⟨rfl, rfl⟩
  · rw [yes 2 (by omega) h_33]; exact ⟨rfl, rfl⟩
  · rw [yes 1 (by omega) h_20]; exact ⟨rfl, rfl⟩
  · rw [yes 0 (by omega) h_7]; exact ⟨rfl, rfl⟩
