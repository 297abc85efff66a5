/-! ===== a day under the orders ===== -/
def nv_v (kd ag ri ai da sh td mo we si z : Int) : Int := if z = -9 then kd else if z = -10 then ag else if z = -11 then ri else if z = -12 then mo else if z = -13 then we else if z = -14 then ai else if z = -15 then da else if z = -16 then si else if z = -17 then sh else td
def dd_v (kd q : Int) (s : Int × Int × Int) : Int × Int × Int := if q = 2 then (s.1, s.2.1, 0) else if q = 3 then (wn_v (s.1 - (if kd = 1 then 10 else 4)), wn_v (s.2.1 + 5), s.2.2) else (wn_v (s.1 - 6), wn_v (s.2.1 - 2), s.2.2)
def ln_v (N : Int → Int → Int → Int → Int) (f : Nat → Int) (le : Nat → Nat) (j : Nat) (s : Int × Int × Int) : Int := ev_n (N s.1 s.2.1 s.2.2) f (le (j + 1) - le j) (le j) (fun _ => 0) 0 0
def dy_v (N : Int → Int → Int → Int → Int) (kd : Int) (f : Nat → Int) (le : Nat → Nat) (dd : Nat → Int) (s : Int × Int × Int) : Nat → Int × Int × Int
  | 0 => s
  | j + 1 => if ln_v N f le j (dy_v N kd f le dd s j) = 0 then dy_v N kd f le dd s j else dd_v kd (dd j) (dy_v N kd f le dd s j)
def pg_W (f : Nat → Int) (le : Nat → Nat) (dd : Nat → Int) (L : Nat) : Prop := L ≤ 8 ∧ le 0 = 0 ∧ ∀ j, j < L → le j ≤ le (j + 1) ∧ le (j + 1) ≤ 500 ∧ wf_p f (le (j + 1) - le j) (le j) 0 ∧ (dd j = 2 ∨ dd j = 3 ∨ dd j = 4)
def sr_I (s : Int × Int × Int) : Prop := (0 ≤ s.1 ∧ s.1 ≤ 1000000) ∧ (0 ≤ s.2.1 ∧ s.2.1 ≤ 1000000) ∧ (0 ≤ s.2.2 ∧ s.2.2 ≤ 100000)
theorem dd_I {kd q : Int} {s : Int × Int × Int} (h : sr_I s) : sr_I (dd_v kd q s) := by
  unfold dd_v
  obtain ⟨h1, h2, h3⟩ := h
  split
  · exact ⟨h1, h2, by show (0 : Int) ≤ 0 ∧ (0 : Int) ≤ 100000; omega⟩
  · split
    · exact ⟨wn_r _, wn_r _, h3⟩
    · exact ⟨wn_r _, wn_r _, h3⟩
theorem dy_I {N : Int → Int → Int → Int → Int} {kd : Int} {f : Nat → Int} {le : Nat → Nat} {dd : Nat → Int} {s : Int × Int × Int} (h : sr_I s) (j : Nat) : sr_I (dy_v N kd f le dd s j) := by
  induction j with
  | zero => exact h
  | succ j ih => rw [dy_v]; split; exact ih; exact dd_I ih
/-- what stays in the reference while a wheel is cared for -/
def mc_F (G G1 : mm_T) (w : Nat) (s : Int × Int × Int) : Prop := (mm_R G1 = mm_R G ∧ mm_J G1 = mm_J G ∧ mm_A G1 = mm_A G) ∧ (∀ b i, b ≠ 89 → b ≠ 90 → ¬ (i = w ∧ (b = 69 ∨ b = 70 ∨ b = 72)) → mm_I G1 b i = mm_I G b i) ∧ mm_I G1 69 w = s.1 ∧ mm_I G1 70 w = s.2.1 ∧ mm_I G1 72 w = s.2.2
theorem mc_tl {G G1 : mm_T} {w : Nat} {s : Int × Int × Int} (h : mc_F G G1 w s) (t : Nat) (p : Nat → Int) : mc_F G (ms_row (tl_v G1 w t) 89 300 p) w s := by
  obtain ⟨h1, h2, h3, h4, h5⟩ := h
  refine ⟨h1, fun b i b1 b2 b3 => ?_, h3, h4, h5⟩
  rw [← h2 b i b1 b2 b3]
  show (if b = 89 ∧ i < 300 then p i else mm_I (tl_v G1 w t) b i) = _
  rw [if_neg (fun z => b1 z.1)]
  unfold tl_v
  rw [mi_n (fun z => b2 z.1), mi_n (fun z => b2 z.1), mi_n (fun z => b2 z.1), mi_n (fun z => b2 z.1), mi_n (fun z => b2 z.1), mi_n (fun z => b2 z.1), mi_n (fun z => b2 z.1), mi_n (fun z => b2 z.1), mi_n (fun z => b2 z.1), mi_n (fun z => b2 z.1)]
theorem mc_72 {G G1 : mm_T} {w : Nat} {s : Int × Int × Int} (h : mc_F G G1 w s) (v : Int) : mc_F G (ms_I G1 72 w v) w (s.1, s.2.1, v) := by
  obtain ⟨h1, h2, h3, h4, h5⟩ := h
  refine ⟨h1, fun b i b1 b2 b3 => ?_, h3, h4, mi_s _ _ _ _⟩
  rw [mi_n (fun z => b3 ⟨z.2, Or.inr (Or.inr z.1)⟩)]; exact h2 b i b1 b2 b3
theorem mc_69 {G G1 : mm_T} {w : Nat} {s : Int × Int × Int} (h : mc_F G G1 w s) (u v : Int) : mc_F G (ms_I (ms_I G1 69 w u) 70 w v) w (u, v, s.2.2) := by
  obtain ⟨h1, h2, h3, h4, h5⟩ := h
  refine ⟨h1, fun b i b1 b2 b3 => ?_, mi_s _ _ _ _, mi_s _ _ _ _, h5⟩
  rw [mi_n (fun z => b3 ⟨z.2, Or.inr (Or.inl z.1)⟩), mi_n (fun z => b3 ⟨z.2, Or.inl z.1⟩)]; exact h2 b i b1 b2 b3
/-- the program that the reference keeps -/
def mp_R (G : mm_T) (f : Nat → Int) (le : Nat → Nat) (dd : Nat → Int) (L : Nat) : Prop := (∀ j, j ≤ L → mm_I G 81 j = le j) ∧ (∀ j, j < L → mm_I G 82 j = dd j - 2) ∧ (∀ k, k < le L → it_R (f k) (mm_I G 79 k) (mm_I G 80 k))
theorem le_up {le : Nat → Nat} {f : Nat → Int} {dd : Nat → Int} {L : Nat} (h : pg_W f le dd L) : ∀ n j, j + n = L → le j ≤ le L := by
  intro n
  induction n with
  | zero => intro j hj; rw [show j = L by omega]; exact Nat.le_refl _
  | succ n ih => intro j hj; have := ih (j + 1) (by omega); have := (h.2.2 j (by omega)).1; omega
theorem tl_nm (G : mm_T) (w s : Nat) {z : Int} (h1 : -18 ≤ z) (h2 : z ≤ -9) : mm_I (tl_v G w s) 90 (-9 - z).toNat = nv_v (mm_I G 66 w) (mm_I G 60 0 - mm_I G 71 w) (mm_I G 68 w) (mm_I G 61 s) (mm_I G 62 (s / 6)) s (mm_I G 60 0) (mm_I G 69 w) (mm_I G 70 w) (mm_I G 72 w) z := by
  have hz : z = -9 ∨ z = -10 ∨ z = -11 ∨ z = -12 ∨ z = -13 ∨ z = -14 ∨ z = -15 ∨ z = -16 ∨ z = -17 ∨ z = -18 := by omega
  rcases hz with rfl | rfl | rfl | rfl | rfl | rfl | rfl | rfl | rfl | rfl <;> rfl
theorem md_line (X : gx_T) (d : Nat) {G G1 : mm_T} {w sh j L : Nat} {s : Int × Int × Int} {f : Nat → Int} {le : Nat → Nat} {dd : Nat → Int} (hF : fx_R G) (hw : w < 40) (hs : mm_I G 67 w = sh) (hs2 : sh < 24) (ht : 0 ≤ mm_I G 60 0 ∧ mm_I G 60 0 ≤ 100000) (hm : 0 ≤ mm_I G 71 w ∧ mm_I G 71 w ≤ 100000) (hM : mc_F G G1 w s) (hW : pg_W f le dd L) (hP : mp_R G f le dd L) (hj : j < L) : ∃ G2 G3, aw_M X (d + 1) mt_Mo_tell [av_r (some 60), av_i (w : Int)] G1 0 0 (fun r G' => r = none ∧ G' = G2) ∧ aw_M X (d + 1) mt_Mo_holds [av_r (some 60), av_i (j : Int)] G2 0 0 (fun r G' => r = some (av_i (if ln_v (nv_v (mm_I G 66 w) (mm_I G 60 0 - mm_I G 71 w) (mm_I G 68 w) (mm_I G 61 sh) (mm_I G 62 (sh / 6)) sh (mm_I G 60 0)) f le j s = 0 then 0 else 1)) ∧ G' = G3) ∧ mc_F G G3 w s ∧ fx_R G3 := by
  have hM' := hM
  obtain ⟨h1, h2, h3, h4, h5⟩ := hM'
  have hF1 : fx_R G1 := fun a k b h => by rw [h1.1]; exact hF a k b h
  have hL := le_up hW (L - (j + 1)) (j + 1) (by omega)
  obtain ⟨w1, w2, w3, w4⟩ := hW.2.2 j hj
  have e67 := h2 67 w (by omega) (by omega) (by omega)
  have e66 := h2 66 w (by omega) (by omega) (by omega)
  have e60 := h2 60 0 (by omega) (by omega) (by omega)
  have e71 := h2 71 w (by omega) (by omega) (by omega)
  have e68 := h2 68 w (by omega) (by omega) (by omega)
  have e61 := h2 61 sh (by omega) (by omega) (by omega)
  have e62 := h2 62 (sh / 6) (by omega) (by omega) (by omega)
  have r2 : ∀ b i, b ≠ 90 → mm_I (tl_v G1 w sh) b i = mm_I G1 b i := by
    intro b i b2
    unfold tl_v
    rw [mi_n (fun z => b2 z.1), mi_n (fun z => b2 z.1), mi_n (fun z => b2 z.1), mi_n (fun z => b2 z.1), mi_n (fun z => b2 z.1), mi_n (fun z => b2 z.1), mi_n (fun z => b2 z.1), mi_n (fun z => b2 z.1), mi_n (fun z => b2 z.1), mi_n (fun z => b2 z.1)]
  refine ⟨tl_v G1 w sh, ms_row (tl_v G1 w sh) 89 300 (ev_n (fun z => mm_I (tl_v G1 w sh) 90 (-9 - z).toNat) f (le (j + 1) - le j) (le j) (mm_I (tl_v G1 w sh) 89) 0), cm_Mo_tell X d G1 hF1 hw (by rw [e67]; exact hs) hs2 (by rw [e60]; exact ht) (by rw [e71]; exact hm), am_mono (fun r G' hr => ?_) (cm_Mo_holds X d (tl_v G1 w sh) (f := f) (i := j) (a := le j) (n := le (j + 1) - le j) (e := le (j + 1)) hF1 (by have := hW.1; omega) ?_ ?_ w2 (by omega) w3 ?_), mc_tl hM sh _, hF1⟩
  · refine ⟨?_, hr.2⟩
    rw [hr.1]
    have : ev_n (fun z => mm_I (tl_v G1 w sh) 90 (-9 - z).toNat) f (le (j + 1) - le j) (le j) (mm_I (tl_v G1 w sh) 89) 0 0 = ln_v (nv_v (mm_I G 66 w) (mm_I G 60 0 - mm_I G 71 w) (mm_I G 68 w) (mm_I G 61 sh) (mm_I G 62 (sh / 6)) sh (mm_I G 60 0)) f le j s := by
      refine ev_ag (fun z z1 z2 => ?_) f _ _ 0 _ _ (fun k hk => by omega) w3
      rw [tl_nm G1 w sh z1 z2, e66, e60, e71, e68, e61, e62, h3, h4, h5]
    rw [this]
  · rw [r2 _ _ (by omega), h2 _ _ (by omega) (by omega) (by omega)]; exact hP.1 j (by omega)
  · rw [r2 _ _ (by omega), h2 _ _ (by omega) (by omega) (by omega)]; exact hP.1 (j + 1) (by omega)
  · intro k k1 k2
    rw [r2 _ _ (by omega), h2 _ _ (by omega) (by omega) (by omega), r2 _ _ (by omega), h2 _ _ (by omega) (by omega) (by omega)]
    exact hP.2.2 k (by omega)
theorem lp_Mo_care (X : gx_T) (d : Nat) {G : mm_T} {w sh L : Nat} {s0 : Int × Int × Int} {f : Nat → Int} {le : Nat → Nat} {dd : Nat → Int} {N : Int → Int → Int → Int → Int} {Q : Option av_T → mm_T → Prop} (hF : fx_R G) (hw : w < 40) (hs : mm_I G 67 w = sh) (hs2 : sh < 24) (ht : 0 ≤ mm_I G 60 0 ∧ mm_I G 60 0 ≤ 100000) (hm : 0 ≤ mm_I G 71 w ∧ mm_I G 71 w ≤ 100000) (hW : pg_W f le dd L) (hP : mp_R G f le dd L) (h26 : mm_I G 60 26 = L) (hN : N = nv_v (mm_I G 66 w) (mm_I G 60 0 - mm_I G 71 w) (mm_I G 68 w) (mm_I G 61 sh) (mm_I G 62 (sh / 6)) sh (mm_I G 60 0)) (hsr : sr_I s0)
    (kk : ∀ G1, mc_F G G1 w (dy_v N (mm_I G 66 w) f le dd s0 L) → aw_W X mt_Mo_care (d + 2) 148 [(0, some (av_r (some 60))), (1, some (av_i (w : Int)))] [] G1 0 0 Q) : ∀ n j G1, j + n = L → mc_F G G1 w (dy_v N (mm_I G 66 w) f le dd s0 j) → aw_W X mt_Mo_care (d + 2) 2 [(0, some (av_r (some 60))), (1, some (av_i (w : Int))), (2, some (av_i (j : Int)))] [] G1 0 0 Q := by
  intro n
  induction n with
  | zero =>
    intro j G1 hj hM
    have hj : j = L := by omega
    subst hj
    have e26 : mm_I G1 60 26 = (j : Int) := by rw [hM.2.1 60 26 (by omega) (by omega) (by omega)]; exact h26
    have k1 := kk G1 hM
    refine ar_iload_n (pc := 2) d_Mo_care_2 rfl ?_
    refine ar_aload_n (pc := 3) d_Mo_care_3 rfl ?_
    refine ar_getIv (pc := 4) gf_Mo_334 d_Mo_care_4 (by first | rfl | exact sh_wheel (by omega) | exact sh_milk (by omega)) e26 (fun r_4 => ?_)
    refine ar_icmp_ge (pc := 7) 148 d_Mo_care_7 (by decide) ⟨by omega, by omega⟩ ⟨by omega, by omega⟩ (fun h_7 => ?_) (fun h_7 => by exfalso; omega)
    rotate_left
    -- leaves: stop 148
    · exact ar_loc k1 ⟨rfl, rfl, trivial⟩
  | succ n ih =>
    intro j G1 hj hM
    have e26 : mm_I G1 60 26 = (L : Int) := by rw [hM.2.1 60 26 (by omega) (by omega) (by omega)]; exact h26
    obtain ⟨G2, G3, c1, c2, hM3, hF3⟩ := md_line X d hF hw hs hs2 ht hm hM hW hP (show j < L by omega)
    rw [← hN] at c2
    have hL8 := hW.1
    have hdd := (hW.2.2 j (by omega)).2.2.2
    have e82 : mm_I G3 82 j = dd j - 2 := by rw [hM3.2.1 82 j (by omega) (by omega) (by omega)]; exact hP.2.1 j (by omega)
    have e66 : mm_I G3 66 w = mm_I G 66 w := hM3.2.1 66 w (by omega) (by omega) (by omega)
    have i1 := fun G4 => ih (j + 1) G4 (by omega)
    rw [dy_v] at i1
    have hsj := dy_I (N := N) (kd := mm_I G 66 w) (f := f) (le := le) (dd := dd) hsr j
    generalize dy_v N (mm_I G 66 w) f le dd s0 j = u at *
    have hM4 := hM3
    obtain ⟨-, -, e69, e70, -⟩ := hM4
    obtain ⟨u1, u2, u3⟩ := hsj
    clear ih hW hP hN kk
    have hF := hF3
    by_cases hl : ln_v N f le j u = 0
    · rw [if_pos hl] at c2
      rw [if_pos hl] at i1
      have k1 := i1 G3 hM3
      refine ar_iload_n (pc := 2) d_Mo_care_2 rfl ?_
      refine ar_aload_n (pc := 3) d_Mo_care_3 rfl ?_
      refine ar_getIv (pc := 4) gf_Mo_334 d_Mo_care_4 (by first | rfl | exact sh_wheel (by omega) | exact sh_milk (by omega)) e26 (fun r_4 => ?_)
      refine ar_icmp_ge (pc := 7) 148 d_Mo_care_7 (by decide) ⟨by omega, by omega⟩ ⟨by omega, by omega⟩ (fun h_7 => by exfalso; omega) (fun h_7 => ?_)
      refine ar_aload_n (pc := 10) d_Mo_care_10 rfl ?_
      refine ar_iload_n (pc := 11) d_Mo_care_11 rfl ?_
      refine ac_virt (pc := 12) (N := mt_Mo_tell) _ _ mv_Mo_tell ml_Mo_338 ck_12 d_Mo_care_12 c1 (by first | rfl | exact sh_wheel (by omega) | exact sh_milk (by omega)) rfl rfl (Nat.le_of_ble_eq_true rfl) (Nat.le_of_eq (Nat.zero_add _)) (Nat.le_of_eq (Nat.zero_add _)) (fun r_12 G_12 h_12 => ?_)
      obtain ⟨rfl, e_12⟩ := h_12
      subst G_12
      refine ar_aload_n (pc := 15) d_Mo_care_15 rfl ?_
      refine ar_iload_n (pc := 16) d_Mo_care_16 rfl ?_
      refine ac_virt (pc := 17) (N := mt_Mo_holds) _ _ mv_Mo_holds ml_Mo_341 ck_12 d_Mo_care_17 c2 (by first | rfl | exact sh_wheel (by omega) | exact sh_milk (by omega)) rfl rfl (Nat.le_of_ble_eq_true rfl) (Nat.le_of_eq (Nat.zero_add _)) (Nat.le_of_eq (Nat.zero_add _)) (fun r_17 G_17 h_17 => ?_)
      obtain ⟨rfl, e_17⟩ := h_17
      subst G_17
      refine ar_if_ne (pc := 20) 26 d_Mo_care_20 (by decide) ⟨by omega, by omega⟩ (fun h_20 => by exfalso; omega) (fun h_20 => ?_)
      refine ar_goto (pc := 23) 142 d_Mo_care_23 (by decide) ?_
      refine ar_iinc (pc := 142) d_Mo_care_142 rfl rfl (by decide) ?_
      refine ar_goto (pc := 145) 2 d_Mo_care_145 (by decide) ?_
      rotate_left
      -- leaves: stop 2
      · exact ar_loc k1 ⟨rfl, rfl, li_i rfl (by omega), trivial⟩
    · rw [if_neg hl] at c2
      rw [if_neg hl] at i1
      unfold dd_v at i1
      rcases hdd with hq | hq | hq
      · rw [if_pos hq] at i1
        have k1 := i1 _ (mc_72 hM3 0)
        have e0 : mm_I G3 82 j = 0 := by omega
        refine ar_iload_n (pc := 2) d_Mo_care_2 rfl ?_
        refine ar_aload_n (pc := 3) d_Mo_care_3 rfl ?_
        refine ar_getIv (pc := 4) gf_Mo_334 d_Mo_care_4 (by first | rfl | exact sh_wheel (by omega) | exact sh_milk (by omega)) e26 (fun r_4 => ?_)
        refine ar_icmp_ge (pc := 7) 148 d_Mo_care_7 (by decide) ⟨by omega, by omega⟩ ⟨by omega, by omega⟩ (fun h_7 => by exfalso; omega) (fun h_7 => ?_)
        refine ar_aload_n (pc := 10) d_Mo_care_10 rfl ?_
        refine ar_iload_n (pc := 11) d_Mo_care_11 rfl ?_
        refine ac_virt (pc := 12) (N := mt_Mo_tell) _ _ mv_Mo_tell ml_Mo_338 ck_12 d_Mo_care_12 c1 (by first | rfl | exact sh_wheel (by omega) | exact sh_milk (by omega)) rfl rfl (Nat.le_of_ble_eq_true rfl) (Nat.le_of_eq (Nat.zero_add _)) (Nat.le_of_eq (Nat.zero_add _)) (fun r_12 G_12 h_12 => ?_)
        obtain ⟨rfl, e_12⟩ := h_12
        subst G_12
        refine ar_aload_n (pc := 15) d_Mo_care_15 rfl ?_
        refine ar_iload_n (pc := 16) d_Mo_care_16 rfl ?_
        refine ac_virt (pc := 17) (N := mt_Mo_holds) _ _ mv_Mo_holds ml_Mo_341 ck_12 d_Mo_care_17 c2 (by first | rfl | exact sh_wheel (by omega) | exact sh_milk (by omega)) rfl rfl (Nat.le_of_ble_eq_true rfl) (Nat.le_of_eq (Nat.zero_add _)) (Nat.le_of_eq (Nat.zero_add _)) (fun r_17 G_17 h_17 => ?_)
        obtain ⟨rfl, e_17⟩ := h_17
        subst G_17
        refine ar_if_ne (pc := 20) 26 d_Mo_care_20 (by decide) ⟨by omega, by omega⟩ (fun h_20 => ?_) (fun h_20 => by exfalso; omega)
        refine ar_aload_n (pc := 26) d_Mo_care_26 rfl ?_
        refine ar_getR (pc := 27) gf_Mo_74 d_Mo_care_27 (by first | rfl | exact sh_wheel (by omega) | exact sh_milk (by omega)) (hF _ _ _ rfl) ?_
        refine ar_iload_n (pc := 30) d_Mo_care_30 rfl ?_
        refine ar_ialdv (pc := 31) d_Mo_care_31 rfl (j) (by omega) (by omega) e0 (fun r_31 => ?_)
        refine ar_if_ne (pc := 32) 45 d_Mo_care_32 (by decide) ⟨by omega, by omega⟩ (fun h_32 => by exfalso; omega) (fun h_32 => ?_)
        refine ar_aload_n (pc := 35) d_Mo_care_35 rfl ?_
        refine ar_getR (pc := 36) gf_Mo_43 d_Mo_care_36 (by first | rfl | exact sh_wheel (by omega) | exact sh_milk (by omega)) (hF _ _ _ rfl) ?_
        refine ar_iload_n (pc := 39) d_Mo_care_39 rfl ?_
        refine ar_iconst (pc := 40) d_Mo_care_40 ?_
        refine ar_iast (pc := 41) d_Mo_care_41 rfl (w) (by omega) (by omega) ⟨by omega, by omega⟩ ?_
        refine ar_goto (pc := 42) 142 d_Mo_care_42 (by decide) ?_
        refine ar_iinc (pc := 142) d_Mo_care_142 rfl rfl (by decide) ?_
        refine ar_goto (pc := 145) 2 d_Mo_care_145 (by decide) ?_
        rotate_left
        -- leaves: stop 2
        · exact ar_loc k1 ⟨rfl, rfl, li_i rfl (by omega), trivial⟩
      · rw [if_neg (by omega), if_pos hq] at i1
        have k1 := i1 _ (mc_69 hM3 _ _)
        have e0 : mm_I G3 82 j = 1 := by omega
        by_cases hk : mm_I G 66 w = 1
        · rw [if_pos hk] at k1
          refine ar_iload_n (pc := 2) d_Mo_care_2 rfl ?_
          refine ar_aload_n (pc := 3) d_Mo_care_3 rfl ?_
          refine ar_getIv (pc := 4) gf_Mo_334 d_Mo_care_4 (by first | rfl | exact sh_wheel (by omega) | exact sh_milk (by omega)) e26 (fun r_4 => ?_)
          refine ar_icmp_ge (pc := 7) 148 d_Mo_care_7 (by decide) ⟨by omega, by omega⟩ ⟨by omega, by omega⟩ (fun h_7 => by exfalso; omega) (fun h_7 => ?_)
          refine ar_aload_n (pc := 10) d_Mo_care_10 rfl ?_
          refine ar_iload_n (pc := 11) d_Mo_care_11 rfl ?_
          refine ac_virt (pc := 12) (N := mt_Mo_tell) _ _ mv_Mo_tell ml_Mo_338 ck_12 d_Mo_care_12 c1 (by first | rfl | exact sh_wheel (by omega) | exact sh_milk (by omega)) rfl rfl (Nat.le_of_ble_eq_true rfl) (Nat.le_of_eq (Nat.zero_add _)) (Nat.le_of_eq (Nat.zero_add _)) (fun r_12 G_12 h_12 => ?_)
          obtain ⟨rfl, e_12⟩ := h_12
          subst G_12
          refine ar_aload_n (pc := 15) d_Mo_care_15 rfl ?_
          refine ar_iload_n (pc := 16) d_Mo_care_16 rfl ?_
          refine ac_virt (pc := 17) (N := mt_Mo_holds) _ _ mv_Mo_holds ml_Mo_341 ck_12 d_Mo_care_17 c2 (by first | rfl | exact sh_wheel (by omega) | exact sh_milk (by omega)) rfl rfl (Nat.le_of_ble_eq_true rfl) (Nat.le_of_eq (Nat.zero_add _)) (Nat.le_of_eq (Nat.zero_add _)) (fun r_17 G_17 h_17 => ?_)
          obtain ⟨rfl, e_17⟩ := h_17
          subst G_17
          refine ar_if_ne (pc := 20) 26 d_Mo_care_20 (by decide) ⟨by omega, by omega⟩ (fun h_20 => ?_) (fun h_20 => by exfalso; omega)
          refine ar_aload_n (pc := 26) d_Mo_care_26 rfl ?_
          refine ar_getR (pc := 27) gf_Mo_74 d_Mo_care_27 (by first | rfl | exact sh_wheel (by omega) | exact sh_milk (by omega)) (hF _ _ _ rfl) ?_
          refine ar_iload_n (pc := 30) d_Mo_care_30 rfl ?_
          refine ar_ialdv (pc := 31) d_Mo_care_31 rfl (j) (by omega) (by omega) e0 (fun r_31 => ?_)
          refine ar_if_ne (pc := 32) 45 d_Mo_care_32 (by decide) ⟨by omega, by omega⟩ (fun h_32 => ?_) (fun h_32 => by exfalso; omega)
          refine ar_aload_n (pc := 45) d_Mo_care_45 rfl ?_
          refine ar_getR (pc := 46) gf_Mo_74 d_Mo_care_46 (by first | rfl | exact sh_wheel (by omega) | exact sh_milk (by omega)) (hF _ _ _ rfl) ?_
          refine ar_iload_n (pc := 49) d_Mo_care_49 rfl ?_
          refine ar_ialdv (pc := 50) d_Mo_care_50 rfl (j) (by omega) (by omega) e0 (fun r_50 => ?_)
          refine ar_iconst (pc := 51) d_Mo_care_51 ?_
          refine ar_icmp_ne (pc := 52) 107 d_Mo_care_52 (by decide) ⟨by omega, by omega⟩ ⟨by omega, by omega⟩ (fun h_52 => by exfalso; omega) (fun h_52 => ?_)
          refine ar_aload_n (pc := 55) d_Mo_care_55 rfl ?_
          refine ar_getR (pc := 56) gf_Mo_34 d_Mo_care_56 (by first | rfl | exact sh_wheel (by omega) | exact sh_milk (by omega)) (hF _ _ _ rfl) ?_
          refine ar_iload_n (pc := 59) d_Mo_care_59 rfl ?_
          refine ar_aload_n (pc := 60) d_Mo_care_60 rfl ?_
          refine ar_getR (pc := 61) gf_Mo_34 d_Mo_care_61 (by first | rfl | exact sh_wheel (by omega) | exact sh_milk (by omega)) (hF _ _ _ rfl) ?_
          refine ar_iload_n (pc := 64) d_Mo_care_64 rfl ?_
          refine ar_ialdv (pc := 65) d_Mo_care_65 rfl (w) (by omega) (by omega) e69 (fun r_65 => ?_)
          refine ar_aload_n (pc := 66) d_Mo_care_66 rfl ?_
          refine ar_getR (pc := 67) gf_Mo_25 d_Mo_care_67 (by first | rfl | exact sh_wheel (by omega) | exact sh_milk (by omega)) (hF _ _ _ rfl) ?_
          refine ar_iload_n (pc := 70) d_Mo_care_70 rfl ?_
          refine ar_ialdv (pc := 71) d_Mo_care_71 rfl (w) (by omega) (by omega) e66 (fun r_71 => ?_)
          refine ar_iconst (pc := 72) d_Mo_care_72 ?_
          refine ar_icmp_ne (pc := 73) 81 d_Mo_care_73 (by decide) ⟨by omega, by omega⟩ ⟨by omega, by omega⟩ (fun h_73 => by exfalso; omega) (fun h_73 => ?_)
          refine ar_bipush (pc := 76) d_Mo_care_76 (by decide) ?_
          refine ar_goto (pc := 78) 82 d_Mo_care_78 (by decide) ?_
          refine ar_isub (pc := 82) d_Mo_care_82 ?_
          refine ac_stat (pc := 83) (N := mt_Mo_within) _ _ sv_Mo_within ml_Mo_344 d_Mo_care_83 (cm_Mo_within _ _ _ ⟨by omega, by omega⟩) rfl rfl (Nat.le_of_ble_eq_true rfl) (Nat.le_of_eq (Nat.zero_add _)) (Nat.le_of_eq (Nat.zero_add _)) (fun r_83 G_83 h_83 => ?_)
          obtain ⟨rfl, e_83⟩ := h_83
          subst G_83
          refine ar_iast (pc := 86) d_Mo_care_86 rfl (w) (by omega) (by omega) ⟨by omega, by omega⟩ ?_
          refine ar_aload_n (pc := 87) d_Mo_care_87 rfl ?_
          refine ar_getR (pc := 88) gf_Mo_37 d_Mo_care_88 (by first | rfl | exact sh_wheel (by omega) | exact sh_milk (by omega)) (hF _ _ _ rfl) ?_
          refine ar_iload_n (pc := 91) d_Mo_care_91 rfl ?_
          refine ar_aload_n (pc := 92) d_Mo_care_92 rfl ?_
          refine ar_getR (pc := 93) gf_Mo_37 d_Mo_care_93 (by first | rfl | exact sh_wheel (by omega) | exact sh_milk (by omega)) (hF _ _ _ rfl) ?_
          refine ar_iload_n (pc := 96) d_Mo_care_96 rfl ?_
          refine ar_ialdv (pc := 97) d_Mo_care_97 rfl (w) (by omega) (by omega) (show _ = u.2.1 from e70) (fun r_97 => ?_)
          refine ar_iconst (pc := 98) d_Mo_care_98 ?_
          refine ar_iadd (pc := 99) d_Mo_care_99 ?_
          refine ac_stat (pc := 100) (N := mt_Mo_within) _ _ sv_Mo_within ml_Mo_344 d_Mo_care_100 (cm_Mo_within _ _ _ ⟨by omega, by omega⟩) rfl rfl (Nat.le_of_ble_eq_true rfl) (Nat.le_of_eq (Nat.zero_add _)) (Nat.le_of_eq (Nat.zero_add _)) (fun r_100 G_100 h_100 => ?_)
          obtain ⟨rfl, e_100⟩ := h_100
          subst G_100
          refine ar_iast (pc := 103) d_Mo_care_103 rfl (w) (by omega) (by omega) ⟨by omega, by omega⟩ ?_
          refine ar_goto (pc := 104) 142 d_Mo_care_104 (by decide) ?_
          refine ar_iinc (pc := 142) d_Mo_care_142 rfl rfl (by decide) ?_
          refine ar_goto (pc := 145) 2 d_Mo_care_145 (by decide) ?_
          rotate_left
          -- leaves: stop 2
          · exact ar_loc k1 ⟨rfl, rfl, li_i rfl (by omega), trivial⟩
        · rw [if_neg hk] at k1
          refine ar_iload_n (pc := 2) d_Mo_care_2 rfl ?_
          refine ar_aload_n (pc := 3) d_Mo_care_3 rfl ?_
          refine ar_getIv (pc := 4) gf_Mo_334 d_Mo_care_4 (by first | rfl | exact sh_wheel (by omega) | exact sh_milk (by omega)) e26 (fun r_4 => ?_)
          refine ar_icmp_ge (pc := 7) 148 d_Mo_care_7 (by decide) ⟨by omega, by omega⟩ ⟨by omega, by omega⟩ (fun h_7 => by exfalso; omega) (fun h_7 => ?_)
          refine ar_aload_n (pc := 10) d_Mo_care_10 rfl ?_
          refine ar_iload_n (pc := 11) d_Mo_care_11 rfl ?_
          refine ac_virt (pc := 12) (N := mt_Mo_tell) _ _ mv_Mo_tell ml_Mo_338 ck_12 d_Mo_care_12 c1 (by first | rfl | exact sh_wheel (by omega) | exact sh_milk (by omega)) rfl rfl (Nat.le_of_ble_eq_true rfl) (Nat.le_of_eq (Nat.zero_add _)) (Nat.le_of_eq (Nat.zero_add _)) (fun r_12 G_12 h_12 => ?_)
          obtain ⟨rfl, e_12⟩ := h_12
          subst G_12
          refine ar_aload_n (pc := 15) d_Mo_care_15 rfl ?_
          refine ar_iload_n (pc := 16) d_Mo_care_16 rfl ?_
          refine ac_virt (pc := 17) (N := mt_Mo_holds) _ _ mv_Mo_holds ml_Mo_341 ck_12 d_Mo_care_17 c2 (by first | rfl | exact sh_wheel (by omega) | exact sh_milk (by omega)) rfl rfl (Nat.le_of_ble_eq_true rfl) (Nat.le_of_eq (Nat.zero_add _)) (Nat.le_of_eq (Nat.zero_add _)) (fun r_17 G_17 h_17 => ?_)
          obtain ⟨rfl, e_17⟩ := h_17
          subst G_17
          refine ar_if_ne (pc := 20) 26 d_Mo_care_20 (by decide) ⟨by omega, by omega⟩ (fun h_20 => ?_) (fun h_20 => by exfalso; omega)
          refine ar_aload_n (pc := 26) d_Mo_care_26 rfl ?_
          refine ar_getR (pc := 27) gf_Mo_74 d_Mo_care_27 (by first | rfl | exact sh_wheel (by omega) | exact sh_milk (by omega)) (hF _ _ _ rfl) ?_
          refine ar_iload_n (pc := 30) d_Mo_care_30 rfl ?_
          refine ar_ialdv (pc := 31) d_Mo_care_31 rfl (j) (by omega) (by omega) e0 (fun r_31 => ?_)
          refine ar_if_ne (pc := 32) 45 d_Mo_care_32 (by decide) ⟨by omega, by omega⟩ (fun h_32 => ?_) (fun h_32 => by exfalso; omega)
          refine ar_aload_n (pc := 45) d_Mo_care_45 rfl ?_
          refine ar_getR (pc := 46) gf_Mo_74 d_Mo_care_46 (by first | rfl | exact sh_wheel (by omega) | exact sh_milk (by omega)) (hF _ _ _ rfl) ?_
          refine ar_iload_n (pc := 49) d_Mo_care_49 rfl ?_
          refine ar_ialdv (pc := 50) d_Mo_care_50 rfl (j) (by omega) (by omega) e0 (fun r_50 => ?_)
          refine ar_iconst (pc := 51) d_Mo_care_51 ?_
          refine ar_icmp_ne (pc := 52) 107 d_Mo_care_52 (by decide) ⟨by omega, by omega⟩ ⟨by omega, by omega⟩ (fun h_52 => by exfalso; omega) (fun h_52 => ?_)
          refine ar_aload_n (pc := 55) d_Mo_care_55 rfl ?_
          refine ar_getR (pc := 56) gf_Mo_34 d_Mo_care_56 (by first | rfl | exact sh_wheel (by omega) | exact sh_milk (by omega)) (hF _ _ _ rfl) ?_
          refine ar_iload_n (pc := 59) d_Mo_care_59 rfl ?_
          refine ar_aload_n (pc := 60) d_Mo_care_60 rfl ?_
          refine ar_getR (pc := 61) gf_Mo_34 d_Mo_care_61 (by first | rfl | exact sh_wheel (by omega) | exact sh_milk (by omega)) (hF _ _ _ rfl) ?_
          refine ar_iload_n (pc := 64) d_Mo_care_64 rfl ?_
          refine ar_ialdv (pc := 65) d_Mo_care_65 rfl (w) (by omega) (by omega) e69 (fun r_65 => ?_)
          refine ar_aload_n (pc := 66) d_Mo_care_66 rfl ?_
          refine ar_getR (pc := 67) gf_Mo_25 d_Mo_care_67 (by first | rfl | exact sh_wheel (by omega) | exact sh_milk (by omega)) (hF _ _ _ rfl) ?_
          refine ar_iload_n (pc := 70) d_Mo_care_70 rfl ?_
          refine ar_ialdv (pc := 71) d_Mo_care_71 rfl (w) (by omega) (by omega) e66 (fun r_71 => ?_)
          refine ar_iconst (pc := 72) d_Mo_care_72 ?_
          refine ar_icmp_ne (pc := 73) 81 d_Mo_care_73 (by decide) ⟨by omega, by omega⟩ ⟨by omega, by omega⟩ (fun h_73 => ?_) (fun h_73 => by exfalso; omega)
          refine ar_iconst (pc := 81) d_Mo_care_81 ?_
          refine ar_isub (pc := 82) d_Mo_care_82 ?_
          refine ac_stat (pc := 83) (N := mt_Mo_within) _ _ sv_Mo_within ml_Mo_344 d_Mo_care_83 (cm_Mo_within _ _ _ ⟨by omega, by omega⟩) rfl rfl (Nat.le_of_ble_eq_true rfl) (Nat.le_of_eq (Nat.zero_add _)) (Nat.le_of_eq (Nat.zero_add _)) (fun r_83 G_83 h_83 => ?_)
          obtain ⟨rfl, e_83⟩ := h_83
          subst G_83
          refine ar_iast (pc := 86) d_Mo_care_86 rfl (w) (by omega) (by omega) ⟨by omega, by omega⟩ ?_
          refine ar_aload_n (pc := 87) d_Mo_care_87 rfl ?_
          refine ar_getR (pc := 88) gf_Mo_37 d_Mo_care_88 (by first | rfl | exact sh_wheel (by omega) | exact sh_milk (by omega)) (hF _ _ _ rfl) ?_
          refine ar_iload_n (pc := 91) d_Mo_care_91 rfl ?_
          refine ar_aload_n (pc := 92) d_Mo_care_92 rfl ?_
          refine ar_getR (pc := 93) gf_Mo_37 d_Mo_care_93 (by first | rfl | exact sh_wheel (by omega) | exact sh_milk (by omega)) (hF _ _ _ rfl) ?_
          refine ar_iload_n (pc := 96) d_Mo_care_96 rfl ?_
          refine ar_ialdv (pc := 97) d_Mo_care_97 rfl (w) (by omega) (by omega) (show _ = u.2.1 from e70) (fun r_97 => ?_)
          refine ar_iconst (pc := 98) d_Mo_care_98 ?_
          refine ar_iadd (pc := 99) d_Mo_care_99 ?_
          refine ac_stat (pc := 100) (N := mt_Mo_within) _ _ sv_Mo_within ml_Mo_344 d_Mo_care_100 (cm_Mo_within _ _ _ ⟨by omega, by omega⟩) rfl rfl (Nat.le_of_ble_eq_true rfl) (Nat.le_of_eq (Nat.zero_add _)) (Nat.le_of_eq (Nat.zero_add _)) (fun r_100 G_100 h_100 => ?_)
          obtain ⟨rfl, e_100⟩ := h_100
          subst G_100
          refine ar_iast (pc := 103) d_Mo_care_103 rfl (w) (by omega) (by omega) ⟨by omega, by omega⟩ ?_
          refine ar_goto (pc := 104) 142 d_Mo_care_104 (by decide) ?_
          refine ar_iinc (pc := 142) d_Mo_care_142 rfl rfl (by decide) ?_
          refine ar_goto (pc := 145) 2 d_Mo_care_145 (by decide) ?_
          rotate_left
          -- leaves: stop 2
          · exact ar_loc k1 ⟨rfl, rfl, li_i rfl (by omega), trivial⟩
      · rw [if_neg (by omega), if_neg (by omega)] at i1
        have k1 := i1 _ (mc_69 hM3 _ _)
        have e0 : mm_I G3 82 j = 2 := by omega
        refine ar_iload_n (pc := 2) d_Mo_care_2 rfl ?_
        refine ar_aload_n (pc := 3) d_Mo_care_3 rfl ?_
        refine ar_getIv (pc := 4) gf_Mo_334 d_Mo_care_4 (by first | rfl | exact sh_wheel (by omega) | exact sh_milk (by omega)) e26 (fun r_4 => ?_)
        refine ar_icmp_ge (pc := 7) 148 d_Mo_care_7 (by decide) ⟨by omega, by omega⟩ ⟨by omega, by omega⟩ (fun h_7 => by exfalso; omega) (fun h_7 => ?_)
        refine ar_aload_n (pc := 10) d_Mo_care_10 rfl ?_
        refine ar_iload_n (pc := 11) d_Mo_care_11 rfl ?_
        refine ac_virt (pc := 12) (N := mt_Mo_tell) _ _ mv_Mo_tell ml_Mo_338 ck_12 d_Mo_care_12 c1 (by first | rfl | exact sh_wheel (by omega) | exact sh_milk (by omega)) rfl rfl (Nat.le_of_ble_eq_true rfl) (Nat.le_of_eq (Nat.zero_add _)) (Nat.le_of_eq (Nat.zero_add _)) (fun r_12 G_12 h_12 => ?_)
        obtain ⟨rfl, e_12⟩ := h_12
        subst G_12
        refine ar_aload_n (pc := 15) d_Mo_care_15 rfl ?_
        refine ar_iload_n (pc := 16) d_Mo_care_16 rfl ?_
        refine ac_virt (pc := 17) (N := mt_Mo_holds) _ _ mv_Mo_holds ml_Mo_341 ck_12 d_Mo_care_17 c2 (by first | rfl | exact sh_wheel (by omega) | exact sh_milk (by omega)) rfl rfl (Nat.le_of_ble_eq_true rfl) (Nat.le_of_eq (Nat.zero_add _)) (Nat.le_of_eq (Nat.zero_add _)) (fun r_17 G_17 h_17 => ?_)
        obtain ⟨rfl, e_17⟩ := h_17
        subst G_17
        refine ar_if_ne (pc := 20) 26 d_Mo_care_20 (by decide) ⟨by omega, by omega⟩ (fun h_20 => ?_) (fun h_20 => by exfalso; omega)
        refine ar_aload_n (pc := 26) d_Mo_care_26 rfl ?_
        refine ar_getR (pc := 27) gf_Mo_74 d_Mo_care_27 (by first | rfl | exact sh_wheel (by omega) | exact sh_milk (by omega)) (hF _ _ _ rfl) ?_
        refine ar_iload_n (pc := 30) d_Mo_care_30 rfl ?_
        refine ar_ialdv (pc := 31) d_Mo_care_31 rfl (j) (by omega) (by omega) e0 (fun r_31 => ?_)
        refine ar_if_ne (pc := 32) 45 d_Mo_care_32 (by decide) ⟨by omega, by omega⟩ (fun h_32 => ?_) (fun h_32 => by exfalso; omega)
        refine ar_aload_n (pc := 45) d_Mo_care_45 rfl ?_
        refine ar_getR (pc := 46) gf_Mo_74 d_Mo_care_46 (by first | rfl | exact sh_wheel (by omega) | exact sh_milk (by omega)) (hF _ _ _ rfl) ?_
        refine ar_iload_n (pc := 49) d_Mo_care_49 rfl ?_
        refine ar_ialdv (pc := 50) d_Mo_care_50 rfl (j) (by omega) (by omega) e0 (fun r_50 => ?_)
        refine ar_iconst (pc := 51) d_Mo_care_51 ?_
        refine ar_icmp_ne (pc := 52) 107 d_Mo_care_52 (by decide) ⟨by omega, by omega⟩ ⟨by omega, by omega⟩ (fun h_52 => ?_) (fun h_52 => by exfalso; omega)
        refine ar_aload_n (pc := 107) d_Mo_care_107 rfl ?_
        refine ar_getR (pc := 108) gf_Mo_34 d_Mo_care_108 (by first | rfl | exact sh_wheel (by omega) | exact sh_milk (by omega)) (hF _ _ _ rfl) ?_
        refine ar_iload_n (pc := 111) d_Mo_care_111 rfl ?_
        refine ar_aload_n (pc := 112) d_Mo_care_112 rfl ?_
        refine ar_getR (pc := 113) gf_Mo_34 d_Mo_care_113 (by first | rfl | exact sh_wheel (by omega) | exact sh_milk (by omega)) (hF _ _ _ rfl) ?_
        refine ar_iload_n (pc := 116) d_Mo_care_116 rfl ?_
        refine ar_ialdv (pc := 117) d_Mo_care_117 rfl (w) (by omega) (by omega) e69 (fun r_117 => ?_)
        refine ar_bipush (pc := 118) d_Mo_care_118 (by decide) ?_
        refine ar_isub (pc := 120) d_Mo_care_120 ?_
        refine ac_stat (pc := 121) (N := mt_Mo_within) _ _ sv_Mo_within ml_Mo_344 d_Mo_care_121 (cm_Mo_within _ _ _ ⟨by omega, by omega⟩) rfl rfl (Nat.le_of_ble_eq_true rfl) (Nat.le_of_eq (Nat.zero_add _)) (Nat.le_of_eq (Nat.zero_add _)) (fun r_121 G_121 h_121 => ?_)
        obtain ⟨rfl, e_121⟩ := h_121
        subst G_121
        refine ar_iast (pc := 124) d_Mo_care_124 rfl (w) (by omega) (by omega) ⟨by omega, by omega⟩ ?_
        refine ar_aload_n (pc := 125) d_Mo_care_125 rfl ?_
        refine ar_getR (pc := 126) gf_Mo_37 d_Mo_care_126 (by first | rfl | exact sh_wheel (by omega) | exact sh_milk (by omega)) (hF _ _ _ rfl) ?_
        refine ar_iload_n (pc := 129) d_Mo_care_129 rfl ?_
        refine ar_aload_n (pc := 130) d_Mo_care_130 rfl ?_
        refine ar_getR (pc := 131) gf_Mo_37 d_Mo_care_131 (by first | rfl | exact sh_wheel (by omega) | exact sh_milk (by omega)) (hF _ _ _ rfl) ?_
        refine ar_iload_n (pc := 134) d_Mo_care_134 rfl ?_
        refine ar_ialdv (pc := 135) d_Mo_care_135 rfl (w) (by omega) (by omega) (show _ = u.2.1 from e70) (fun r_135 => ?_)
        refine ar_iconst (pc := 136) d_Mo_care_136 ?_
        refine ar_isub (pc := 137) d_Mo_care_137 ?_
        refine ac_stat (pc := 138) (N := mt_Mo_within) _ _ sv_Mo_within ml_Mo_344 d_Mo_care_138 (cm_Mo_within _ _ _ ⟨by omega, by omega⟩) rfl rfl (Nat.le_of_ble_eq_true rfl) (Nat.le_of_eq (Nat.zero_add _)) (Nat.le_of_eq (Nat.zero_add _)) (fun r_138 G_138 h_138 => ?_)
        obtain ⟨rfl, e_138⟩ := h_138
        subst G_138
        refine ar_iast (pc := 141) d_Mo_care_141 rfl (w) (by omega) (by omega) ⟨by omega, by omega⟩ ?_
        refine ar_iinc (pc := 142) d_Mo_care_142 rfl rfl (by decide) ?_
        refine ar_goto (pc := 145) 2 d_Mo_care_145 (by decide) ?_
        rotate_left
        -- leaves: stop 2
        · exact ar_loc k1 ⟨rfl, rfl, li_i rfl (by omega), trivial⟩
