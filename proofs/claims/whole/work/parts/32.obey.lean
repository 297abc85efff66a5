/-! ===== obeying the orders at 42 ===== -/
def xo_F_a (G G1 : mm_T) (w : Nat) (s : Int × Int × Int) (ai da td : Int) : Prop := (mm_R G1 = mm_R G ∧ mm_J G1 = mm_J G ∧ mm_A G1 = mm_A G) ∧ (∀ b i, b ≠ 46 → b ≠ 47 → ¬ (b = 42 ∧ i = 7) → ¬ (b = 300 + w ∧ (i = 7 ∨ i = 8 ∨ i = 9)) → mm_I G1 b i = mm_I G b i) ∧ (mm_I G1 (300 + w) 7 = s.1 ∧ mm_I G1 (300 + w) 8 = s.2.1 ∧ mm_I G1 (300 + w) 9 = s.2.2) ∧ mm_I G1 46 13 = ai ∧ mm_I G1 46 14 = da ∧ mm_I G1 46 17 = td
theorem nt_o_a (G : mm_T) (w : Nat) (t : Int) {b i : Nat} (h : b ≠ 46) : mm_I (nt_a G w t) b i = mm_I G b i := by
  unfold nt_a
  rw [mi_n (fun z => h z.1), mi_n (fun z => h z.1), mi_n (fun z => h z.1), mi_n (fun z => h z.1), mi_n (fun z => h z.1), mi_n (fun z => h z.1), mi_n (fun z => h z.1)]
theorem ow_o_a (G : mm_T) (p : Nat → Int) (h : Nat) {b i : Nat} (h1 : b ≠ 47) (h2 : ¬ (b = 42 ∧ i = 7)) : mm_I (ow_a G p h) b i = mm_I G b i := by
  unfold ow_a
  rw [mi_n h2]
  show (if b = 47 ∧ i < 80 then p i else mm_I G b i) = _
  rw [if_neg (fun z => h1 z.1)]
theorem nt_nm_a (G : mm_T) (w : Nat) (t : Int) {z : Int} (h1 : -18 ≤ z) (h2 : z ≤ -9) (ht : mm_I G 46 17 = t) : mm_I (nt_a G w t) 46 (-1 - z).toNat = nv_v (mm_I G (300 + w) 1) (t - mm_I G (300 + w) 2) (mm_I G (300 + w) 6) (mm_I G 46 13) (mm_I G 46 14) (mm_I G (300 + w) 4) t (mm_I G (300 + w) 7) (mm_I G (300 + w) 8) (mm_I G (300 + w) 9) z := by
  have hz : z = -9 ∨ z = -10 ∨ z = -11 ∨ z = -12 ∨ z = -13 ∨ z = -14 ∨ z = -15 ∨ z = -16 ∨ z = -17 ∨ z = -18 := by omega
  rcases hz with rfl | rfl | rfl | rfl | rfl | rfl | rfl | rfl | rfl | rfl
  all_goals first | rfl | exact ht
def xp_R_a (G : mm_T) (f : Nat → Int) (le : Nat → Nat) (dd : Nat → Int) (L : Nat) : Prop := mm_I G 43 = f ∧ (∀ j, j < L → mm_I G 44 j = le (j + 1)) ∧ (∀ j, j < L → mm_I G 45 j = dd j)
theorem xd_line_a (X : gx_T) (d : Nat) {G G1 : mm_T} {w j L : Nat} {ai da td : Int} {s : Int × Int × Int} {f : Nat → Int} {le : Nat → Nat} {dd : Nat → Int} (hF : fx_R G) (hw : w < 40) (ht : 0 ≤ td ∧ td ≤ 100000) (hm : 0 ≤ mm_I G (300 + w) 2 ∧ mm_I G (300 + w) 2 ≤ 100000) (hM : xo_F_a G G1 w s ai da td) (hW : pg_W f le dd L) (hP : xp_R_a G f le dd L) (hj : j < L) : ∃ G2 G3, aw_M X (d + 3) mt_Or_nameThings [av_r (some 42), av_r (some (300 + w)), av_i td] G1 0 0 (fun r G' => r = none ∧ G' = G2) ∧ aw_M X (d + 3) mt_Or_workOut [av_r (some 42), av_i (le j : Int), av_i (le (j + 1) : Int)] G2 0 0 (fun r G' => (r = some (av_i (ln_v (nv_v (mm_I G (300 + w) 1) (td - mm_I G (300 + w) 2) (mm_I G (300 + w) 6) ai da (mm_I G (300 + w) 4) td) f le j s)) ∧ i3_in (ln_v (nv_v (mm_I G (300 + w) 1) (td - mm_I G (300 + w) 2) (mm_I G (300 + w) 6) ai da (mm_I G (300 + w) 4) td) f le j s)) ∧ G' = G3) ∧ xo_F_a G G3 w s ai da td ∧ fx_R G3 ∧ fx_R G2 ∧ mm_I G2 44 j = le (j + 1) := by
  obtain ⟨h1, h2, ⟨h3, h4, h5⟩, h6, h7, h8⟩ := hM
  have hF1 : fx_R G1 := fun a k b h => by rw [h1.1]; exact hF a k b h
  obtain ⟨w1, w2, w3, w4⟩ := hW.2.2 j hj
  have f1 := h2 (300 + w) 1 (by omega) (by omega) (by omega) (by omega)
  have f2 := h2 (300 + w) 2 (by omega) (by omega) (by omega) (by omega)
  have f4 := h2 (300 + w) 4 (by omega) (by omega) (by omega) (by omega)
  have f6 := h2 (300 + w) 6 (by omega) (by omega) (by omega) (by omega)
  have hit : mm_I (nt_a G1 w td) 43 = f := by
    rw [← hP.1]; funext k
    rw [nt_o_a _ _ _ (by omega), h2 _ _ (by omega) (by omega) (by omega) (by omega)]
  have hF2 : fx_R (nt_a G1 w td) := hF1
  have hwk := cm_Or_workOut_a X d (nt_a G1 w td) (a := le j) (n := le (j + 1) - le j) (e := le (j + 1)) hF2 w2 (by omega) (by rw [hit]; exact w3)
  rw [hit] at hwk
  have hv : ev_n (fun z => mm_I (nt_a G1 w td) 46 (-1 - z).toNat) f (le (j + 1) - le j) (le j) (mm_I (nt_a G1 w td) 47) 0 0 = ln_v (nv_v (mm_I G (300 + w) 1) (td - mm_I G (300 + w) 2) (mm_I G (300 + w) 6) ai da (mm_I G (300 + w) 4) td) f le j s := by
    refine ev_ag (fun z z1 z2 => ?_) f _ _ 0 _ _ (fun k hk => by omega) w3
    rw [nt_nm_a G1 w td z1 z2 h8, f1, f2, f4, f6, h3, h4, h5, h6, h7]
  rw [hv] at hwk
  refine ⟨nt_a G1 w td, _, cm_Or_nameThings_a X (d + 2) G1 hF1 hw ht (by rw [f2]; exact hm), hwk, ?_, hF1, hF1, ?_⟩
  · have hx : ∀ i, mm_I (ow_a (nt_a G1 w td) (ev_n (fun z => mm_I (nt_a G1 w td) 46 (-1 - z).toNat) f (le (j + 1) - le j) (le j) (mm_I (nt_a G1 w td) 47) 0) 0) (300 + w) i = mm_I G1 (300 + w) i := fun i => by rw [ow_o_a _ _ _ (by omega) (by omega), nt_o_a _ _ _ (by omega)]
    refine ⟨h1, fun b i b1 b2 b3 b4 => ?_, ⟨(hx 7).trans h3, (hx 8).trans h4, (hx 9).trans h5⟩, h6, h7, h8⟩
    rw [ow_o_a _ _ _ b2 b3, nt_o_a _ _ _ b1]; exact h2 b i b1 b2 b3 b4
  · rw [nt_o_a _ _ _ (by omega), h2 _ _ (by omega) (by omega) (by omega) (by omega)]; exact hP.2.1 j hj
theorem xo_9_a {G G1 : mm_T} {w : Nat} {s : Int × Int × Int} {ai da td : Int} (h : xo_F_a G G1 w s ai da td) (v : Int) : xo_F_a G (ms_I G1 (300 + w) 9 v) w (s.1, s.2.1, v) ai da td := by
  obtain ⟨h1, h2, ⟨h3, h4, h5⟩, h6, h7, h8⟩ := h
  refine ⟨h1, fun b i b1 b2 b3 b4 => ?_, ⟨(mi_n (by omega)).trans h3, (mi_n (by omega)).trans h4, mi_s _ _ _ _⟩, (mi_n (by omega)).trans h6, (mi_n (by omega)).trans h7, (mi_n (by omega)).trans h8⟩
  rw [mi_n (by omega)]; exact h2 b i b1 b2 b3 b4
theorem xo_78_a {G G1 : mm_T} {w : Nat} {s : Int × Int × Int} {ai da td : Int} (h : xo_F_a G G1 w s ai da td) (u v : Int) : xo_F_a G (ms_I (ms_I G1 (300 + w) 7 u) (300 + w) 8 v) w (u, v, s.2.2) ai da td := by
  obtain ⟨h1, h2, ⟨h3, h4, h5⟩, h6, h7, h8⟩ := h
  refine ⟨h1, fun b i b1 b2 b3 b4 => ?_, ⟨(mi_n (by omega)).trans (mi_s _ _ _ _), mi_s _ _ _ _, (mi_n (by omega)).trans ((mi_n (by omega)).trans h5)⟩, (mi_n (by omega)).trans ((mi_n (by omega)).trans h6), (mi_n (by omega)).trans ((mi_n (by omega)).trans h7), (mi_n (by omega)).trans ((mi_n (by omega)).trans h8)⟩
  rw [mi_n (by omega), mi_n (by omega)]; exact h2 b i b1 b2 b3 b4
theorem xo_dd_a (X : gx_T) (d : Nat) {G G1 : mm_T} {w : Nat} {q : Int} {s : Int × Int × Int} {ai da td : Int} (hw : w < 40) (h : xo_F_a G G1 w s ai da td) (hs : sr_I s) (hq : q = 2 ∨ q = 3 ∨ q = 4) : ∃ G4, aw_M X (d + 3) mt_Wh_doDeed [av_r (some (300 + w)), av_i q] G1 0 0 (fun r G' => r = none ∧ G' = G4) ∧ xo_F_a G G4 w (dd_v (mm_I G (300 + w) 1) q s) ai da td ∧ mm_R G4 = mm_R G1 ∧ mm_I G4 44 = mm_I G1 44 := by
  have h' := h
  obtain ⟨h1, h2, ⟨h3, h4, h5⟩, h6, h7, h8⟩ := h'
  have f1 := h2 (300 + w) 1 (by omega) (by omega) (by omega) (by omega)
  refine ⟨_, cm_Wh_doDeed X d G1 hw ⟨by omega, by omega⟩ (by rw [h3]; exact hs.1) (by rw [h4]; exact hs.2.1), ?_⟩
  unfold dd_v
  rw [f1, h3, h4]
  rcases hq with rfl | rfl | rfl
  · rw [if_pos rfl, if_pos rfl]; exact ⟨xo_9_a h 0, rfl, mi_o _ _ _ (by omega)⟩
  · rw [if_neg (show ¬ (3 : Int) = 2 by decide), if_pos (show (3 : Int) = 3 from rfl), if_neg (show ¬ (3 : Int) = 2 by decide), if_pos (show (3 : Int) = 3 from rfl)]; exact ⟨xo_78_a h _ _, rfl, by rw [mi_o _ _ _ (by omega), mi_o _ _ _ (by omega)]⟩
  · rw [if_neg (show ¬ (4 : Int) = 2 by decide), if_neg (show ¬ (4 : Int) = 3 by decide), if_pos (show (4 : Int) = 4 from rfl), if_neg (show ¬ (4 : Int) = 2 by decide), if_neg (show ¬ (4 : Int) = 3 by decide)]; exact ⟨xo_78_a h _ _, rfl, by rw [mi_o _ _ _ (by omega), mi_o _ _ _ (by omega)]⟩
theorem lp_Or_obeyFor_a (X : gx_T) (d : Nat) {G : mm_T} {w L : Nat} {ai da td : Int} {s0 : Int × Int × Int} {f : Nat → Int} {le : Nat → Nat} {dd : Nat → Int} {N : Int → Int → Int → Int → Int} (hF : fx_R G) (hw : w < 40) (ht : 0 ≤ td ∧ td ≤ 100000) (hm : 0 ≤ mm_I G (300 + w) 2 ∧ mm_I G (300 + w) 2 ≤ 100000) (hW : pg_W f le dd L) (hP : xp_R_a G f le dd L) (hL : mm_I G 42 6 = L) (hN : N = nv_v (mm_I G (300 + w) 1) (td - mm_I G (300 + w) 2) (mm_I G (300 + w) 6) ai da (mm_I G (300 + w) 4) td) (hsr : sr_I s0) : ∀ n j G1, j + n = L → xo_F_a G G1 w (dy_v N (mm_I G (300 + w) 1) f le dd s0 j) ai da td → aw_W X mt_Or_obeyFor (d + 4) 31 [(0, some (av_r (some 42))), (1, some (av_r (some (300 + w)))), (4, some (av_i td)), (5, some (av_i (le j : Int))), (6, some (av_i (j : Int)))] [] G1 0 0 (fun r G' => r = none ∧ xo_F_a G G' w (dy_v N (mm_I G (300 + w) 1) f le dd s0 L) ai da td) := by
  intro n
  induction n with
  | zero =>
    intro j G1 hj hM
    have hj : j = L := by omega
    subst hj
    have e6 : mm_I G1 42 6 = (j : Int) := by rw [hM.2.1 42 6 (by omega) (by omega) (by omega) (by omega)]; exact hL
    refine ar_iload (pc := 31) d_Or_obeyFor_31 rfl ?_
    refine ar_aload_n (pc := 33) d_Or_obeyFor_33 rfl ?_
    refine ar_getIv (pc := 34) gf_Or_31 d_Or_obeyFor_34 (by first | rfl | exact sh_wheel (by omega) | exact sh_milk (by omega)) e6 (fun r_34 => ?_)
    refine ar_icmp_ge (pc := 37) 89 d_Or_obeyFor_37 (by decide) ⟨by omega, by omega⟩ ⟨by omega, by omega⟩ (fun h_37 => ?_) (fun h_37 => by exfalso; omega)
    refine ar_ret (pc := 89) d_Or_obeyFor_89 rfl ?_
    rotate_left
    -- leaves: ret 89
    · exact ⟨rfl, hM⟩
  | succ n ih =>
    intro j G1 hj hM
    have e6 : mm_I G1 42 6 = (L : Int) := by rw [hM.2.1 42 6 (by omega) (by omega) (by omega) (by omega)]; exact hL
    have hF1 : fx_R G1 := fun a k b h => by rw [hM.1.1]; exact hF a k b h
    obtain ⟨G2, G3, c1, c2, hM3, hF3, hF2, e2⟩ := xd_line_a X d hF hw ht hm hM hW hP (show j < L by omega)
    rw [← hN] at c2
    have hL8 := hW.1
    have hl5 := (hW.2.2 j (by omega)).2.1
    have hdd := (hW.2.2 j (by omega)).2.2.2
    have e3 : mm_I G3 45 j = dd j := by rw [hM3.2.1 45 j (by omega) (by omega) (by omega) (by omega)]; exact hP.2.2 j (by omega)
    have e32 : mm_I G3 44 j = (le (j + 1) : Int) := by rw [hM3.2.1 44 j (by omega) (by omega) (by omega) (by omega)]; exact hP.2.1 j (by omega)
    have i1 := fun G4 => ih (j + 1) G4 (by omega)
    rw [dy_v] at i1
    have hsj := dy_I (N := N) (kd := mm_I G (300 + w) 1) (f := f) (le := le) (dd := dd) hsr j
    generalize dy_v N (mm_I G (300 + w) 1) f le dd s0 j = u at *
    generalize (fun (r : Option av_T) G' => r = none ∧ xo_F_a G G' w (dy_v N (mm_I G (300 + w) 1) f le dd s0 L) ai da td) = Q at *
    obtain ⟨G4, c3, hM4, r4, e42⟩ := xo_dd_a X d hw hM3 hsj hdd
    have hF4 : fx_R G4 := fun a k b h => by rw [r4]; exact hF3 a k b h
    have e42 : mm_I G4 44 j = (le (j + 1) : Int) := by rw [e42]; exact e32
    clear ih hW hP hN hM hF
    have hF := hF1
    generalize hV : ln_v N f le j u = V at *
    by_cases hl : V = 0
    · rw [if_pos hl] at i1
      have k1 := i1 G3 hM3
      refine ar_iload (pc := 31) d_Or_obeyFor_31 rfl ?_
      refine ar_aload_n (pc := 33) d_Or_obeyFor_33 rfl ?_
      refine ar_getIv (pc := 34) gf_Or_31 d_Or_obeyFor_34 (by first | rfl | exact sh_wheel (by omega) | exact sh_milk (by omega)) e6 (fun r_34 => ?_)
      refine ar_icmp_ge (pc := 37) 89 d_Or_obeyFor_37 (by decide) ⟨by omega, by omega⟩ ⟨by omega, by omega⟩ (fun h_37 => by exfalso; omega) (fun h_37 => ?_)
      refine ar_aload_n (pc := 40) d_Or_obeyFor_40 rfl ?_
      refine ar_aload_n (pc := 41) d_Or_obeyFor_41 rfl ?_
      refine ar_iload (pc := 42) d_Or_obeyFor_42 rfl ?_
      refine ac_virt (pc := 44) (N := mt_Or_nameThings) _ _ mv_Or_nameThings ml_Or_34 ck_3 d_Or_obeyFor_44 c1 (by first | rfl | exact sh_wheel (by omega) | exact sh_milk (by omega)) rfl rfl (Nat.le_of_ble_eq_true rfl) (Nat.le_of_eq (Nat.zero_add _)) (Nat.le_of_eq (Nat.zero_add _)) (fun r_44 G_44 h_44 => ?_)
      obtain ⟨rfl, e_44⟩ := h_44
      subst G_44
      have hF := hF2
      refine ar_aload_n (pc := 47) d_Or_obeyFor_47 rfl ?_
      refine ar_iload (pc := 48) d_Or_obeyFor_48 rfl ?_
      refine ar_aload_n (pc := 50) d_Or_obeyFor_50 rfl ?_
      refine ar_getR (pc := 51) gf_Or_15 d_Or_obeyFor_51 (by first | rfl | exact sh_wheel (by omega) | exact sh_milk (by omega)) (hF _ _ _ rfl) ?_
      refine ar_iload (pc := 54) d_Or_obeyFor_54 rfl ?_
      refine ar_ialdv (pc := 56) d_Or_obeyFor_56 rfl (j) (by omega) (by omega) e2 (fun r_56 => ?_)
      refine ac_virt (pc := 57) (N := mt_Or_workOut) _ _ mv_Or_workOut ml_Or_38 ck_3 d_Or_obeyFor_57 c2 (by first | rfl | exact sh_wheel (by omega) | exact sh_milk (by omega)) rfl rfl (Nat.le_of_ble_eq_true rfl) (Nat.le_of_eq (Nat.zero_add _)) (Nat.le_of_eq (Nat.zero_add _)) (fun r_57 G_57 h_57 => ?_)
      obtain ⟨⟨rfl, q57⟩, e57⟩ := h_57
      subst G_57; have hF := hF3
      refine ar_if_eq (pc := 60) 74 d_Or_obeyFor_60 (by decide) ⟨by omega, by omega⟩ (fun h_60 => ?_) (fun h_60 => by exfalso; omega)
      refine ar_aload_n (pc := 74) d_Or_obeyFor_74 rfl ?_
      refine ar_getR (pc := 75) gf_Or_15 d_Or_obeyFor_75 (by first | rfl | exact sh_wheel (by omega) | exact sh_milk (by omega)) (hF _ _ _ rfl) ?_
      refine ar_iload (pc := 78) d_Or_obeyFor_78 rfl ?_
      refine ar_ialdv (pc := 80) d_Or_obeyFor_80 rfl (j) (by omega) (by omega) e32 (fun r_80 => ?_)
      refine ar_istore (pc := 81) d_Or_obeyFor_81 rfl (by decide) ?_
      refine ar_iinc (pc := 83) d_Or_obeyFor_83 rfl rfl (by decide) ?_
      refine ar_goto (pc := 86) 31 d_Or_obeyFor_86 (by decide) ?_
      rotate_left
      -- leaves: stop 31
      · exact ar_loc k1 ⟨rfl, rfl, rfl, rfl, li_i rfl (by omega), trivial⟩
    · rw [if_neg hl] at i1
      have k1 := i1 G4 hM4
      refine ar_iload (pc := 31) d_Or_obeyFor_31 rfl ?_
      refine ar_aload_n (pc := 33) d_Or_obeyFor_33 rfl ?_
      refine ar_getIv (pc := 34) gf_Or_31 d_Or_obeyFor_34 (by first | rfl | exact sh_wheel (by omega) | exact sh_milk (by omega)) e6 (fun r_34 => ?_)
      refine ar_icmp_ge (pc := 37) 89 d_Or_obeyFor_37 (by decide) ⟨by omega, by omega⟩ ⟨by omega, by omega⟩ (fun h_37 => by exfalso; omega) (fun h_37 => ?_)
      refine ar_aload_n (pc := 40) d_Or_obeyFor_40 rfl ?_
      refine ar_aload_n (pc := 41) d_Or_obeyFor_41 rfl ?_
      refine ar_iload (pc := 42) d_Or_obeyFor_42 rfl ?_
      refine ac_virt (pc := 44) (N := mt_Or_nameThings) _ _ mv_Or_nameThings ml_Or_34 ck_3 d_Or_obeyFor_44 c1 (by first | rfl | exact sh_wheel (by omega) | exact sh_milk (by omega)) rfl rfl (Nat.le_of_ble_eq_true rfl) (Nat.le_of_eq (Nat.zero_add _)) (Nat.le_of_eq (Nat.zero_add _)) (fun r_44 G_44 h_44 => ?_)
      obtain ⟨rfl, e_44⟩ := h_44
      subst G_44
      have hF := hF2
      refine ar_aload_n (pc := 47) d_Or_obeyFor_47 rfl ?_
      refine ar_iload (pc := 48) d_Or_obeyFor_48 rfl ?_
      refine ar_aload_n (pc := 50) d_Or_obeyFor_50 rfl ?_
      refine ar_getR (pc := 51) gf_Or_15 d_Or_obeyFor_51 (by first | rfl | exact sh_wheel (by omega) | exact sh_milk (by omega)) (hF _ _ _ rfl) ?_
      refine ar_iload (pc := 54) d_Or_obeyFor_54 rfl ?_
      refine ar_ialdv (pc := 56) d_Or_obeyFor_56 rfl (j) (by omega) (by omega) e2 (fun r_56 => ?_)
      refine ac_virt (pc := 57) (N := mt_Or_workOut) _ _ mv_Or_workOut ml_Or_38 ck_3 d_Or_obeyFor_57 c2 (by first | rfl | exact sh_wheel (by omega) | exact sh_milk (by omega)) rfl rfl (Nat.le_of_ble_eq_true rfl) (Nat.le_of_eq (Nat.zero_add _)) (Nat.le_of_eq (Nat.zero_add _)) (fun r_57 G_57 h_57 => ?_)
      obtain ⟨⟨rfl, q57⟩, e57⟩ := h_57
      subst G_57; have hF := hF3
      refine ar_if_eq (pc := 60) 74 d_Or_obeyFor_60 (by decide) ⟨by omega, by omega⟩ (fun h_60 => by exfalso; omega) (fun h_60 => ?_)
      refine ar_aload_n (pc := 63) d_Or_obeyFor_63 rfl ?_
      refine ar_aload_n (pc := 64) d_Or_obeyFor_64 rfl ?_
      refine ar_getR (pc := 65) gf_Or_18 d_Or_obeyFor_65 (by first | rfl | exact sh_wheel (by omega) | exact sh_milk (by omega)) (hF _ _ _ rfl) ?_
      refine ar_iload (pc := 68) d_Or_obeyFor_68 rfl ?_
      refine ar_ialdv (pc := 70) d_Or_obeyFor_70 rfl (j) (by omega) (by omega) e3 (fun r_70 => ?_)
      refine ac_virt (pc := 71) (N := mt_Wh_doDeed) _ _ mv_Wh_doDeed ml_Or_42 ck_10 d_Or_obeyFor_71 c3 (by first | rfl | exact sh_wheel (by omega) | exact sh_milk (by omega)) rfl rfl (Nat.le_of_ble_eq_true rfl) (Nat.le_of_eq (Nat.zero_add _)) (Nat.le_of_eq (Nat.zero_add _)) (fun r_71 G_71 h_71 => ?_)
      obtain ⟨rfl, e_71⟩ := h_71
      subst G_71
      have hF := hF4
      refine ar_aload_n (pc := 74) d_Or_obeyFor_74 rfl ?_
      refine ar_getR (pc := 75) gf_Or_15 d_Or_obeyFor_75 (by first | rfl | exact sh_wheel (by omega) | exact sh_milk (by omega)) (hF _ _ _ rfl) ?_
      refine ar_iload (pc := 78) d_Or_obeyFor_78 rfl ?_
      refine ar_ialdv (pc := 80) d_Or_obeyFor_80 rfl (j) (by omega) (by omega) e42 (fun r_80 => ?_)
      refine ar_istore (pc := 81) d_Or_obeyFor_81 rfl (by decide) ?_
      refine ar_iinc (pc := 83) d_Or_obeyFor_83 rfl rfl (by decide) ?_
      refine ar_goto (pc := 86) 31 d_Or_obeyFor_86 (by decide) ?_
      rotate_left
      -- leaves: stop 31
      · exact ar_loc k1 ⟨rfl, rfl, rfl, rfl, li_i rfl (by omega), trivial⟩
/-! ===== obeying the orders at 48 ===== -/
def xo_F_b (G G1 : mm_T) (w : Nat) (s : Int × Int × Int) (ai da td : Int) : Prop := (mm_R G1 = mm_R G ∧ mm_J G1 = mm_J G ∧ mm_A G1 = mm_A G) ∧ (∀ b i, b ≠ 52 → b ≠ 53 → ¬ (b = 48 ∧ i = 7) → ¬ (b = 300 + w ∧ (i = 7 ∨ i = 8 ∨ i = 9)) → mm_I G1 b i = mm_I G b i) ∧ (mm_I G1 (300 + w) 7 = s.1 ∧ mm_I G1 (300 + w) 8 = s.2.1 ∧ mm_I G1 (300 + w) 9 = s.2.2) ∧ mm_I G1 52 13 = ai ∧ mm_I G1 52 14 = da ∧ mm_I G1 52 17 = td
theorem nt_o_b (G : mm_T) (w : Nat) (t : Int) {b i : Nat} (h : b ≠ 52) : mm_I (nt_b G w t) b i = mm_I G b i := by
  unfold nt_b
  rw [mi_n (fun z => h z.1), mi_n (fun z => h z.1), mi_n (fun z => h z.1), mi_n (fun z => h z.1), mi_n (fun z => h z.1), mi_n (fun z => h z.1), mi_n (fun z => h z.1)]
theorem ow_o_b (G : mm_T) (p : Nat → Int) (h : Nat) {b i : Nat} (h1 : b ≠ 53) (h2 : ¬ (b = 48 ∧ i = 7)) : mm_I (ow_b G p h) b i = mm_I G b i := by
  unfold ow_b
  rw [mi_n h2]
  show (if b = 53 ∧ i < 80 then p i else mm_I G b i) = _
  rw [if_neg (fun z => h1 z.1)]
theorem nt_nm_b (G : mm_T) (w : Nat) (t : Int) {z : Int} (h1 : -18 ≤ z) (h2 : z ≤ -9) (ht : mm_I G 52 17 = t) : mm_I (nt_b G w t) 52 (-1 - z).toNat = nv_v (mm_I G (300 + w) 1) (t - mm_I G (300 + w) 2) (mm_I G (300 + w) 6) (mm_I G 52 13) (mm_I G 52 14) (mm_I G (300 + w) 4) t (mm_I G (300 + w) 7) (mm_I G (300 + w) 8) (mm_I G (300 + w) 9) z := by
  have hz : z = -9 ∨ z = -10 ∨ z = -11 ∨ z = -12 ∨ z = -13 ∨ z = -14 ∨ z = -15 ∨ z = -16 ∨ z = -17 ∨ z = -18 := by omega
  rcases hz with rfl | rfl | rfl | rfl | rfl | rfl | rfl | rfl | rfl | rfl
  all_goals first | rfl | exact ht
def xp_R_b (G : mm_T) (f : Nat → Int) (le : Nat → Nat) (dd : Nat → Int) (L : Nat) : Prop := mm_I G 49 = f ∧ (∀ j, j < L → mm_I G 50 j = le (j + 1)) ∧ (∀ j, j < L → mm_I G 51 j = dd j)
theorem xd_line_b (X : gx_T) (d : Nat) {G G1 : mm_T} {w j L : Nat} {ai da td : Int} {s : Int × Int × Int} {f : Nat → Int} {le : Nat → Nat} {dd : Nat → Int} (hF : fx_R G) (hw : w < 40) (ht : 0 ≤ td ∧ td ≤ 100000) (hm : 0 ≤ mm_I G (300 + w) 2 ∧ mm_I G (300 + w) 2 ≤ 100000) (hM : xo_F_b G G1 w s ai da td) (hW : pg_W f le dd L) (hP : xp_R_b G f le dd L) (hj : j < L) : ∃ G2 G3, aw_M X (d + 3) mt_Or_nameThings [av_r (some 48), av_r (some (300 + w)), av_i td] G1 0 0 (fun r G' => r = none ∧ G' = G2) ∧ aw_M X (d + 3) mt_Or_workOut [av_r (some 48), av_i (le j : Int), av_i (le (j + 1) : Int)] G2 0 0 (fun r G' => (r = some (av_i (ln_v (nv_v (mm_I G (300 + w) 1) (td - mm_I G (300 + w) 2) (mm_I G (300 + w) 6) ai da (mm_I G (300 + w) 4) td) f le j s)) ∧ i3_in (ln_v (nv_v (mm_I G (300 + w) 1) (td - mm_I G (300 + w) 2) (mm_I G (300 + w) 6) ai da (mm_I G (300 + w) 4) td) f le j s)) ∧ G' = G3) ∧ xo_F_b G G3 w s ai da td ∧ fx_R G3 ∧ fx_R G2 ∧ mm_I G2 50 j = le (j + 1) := by
  obtain ⟨h1, h2, ⟨h3, h4, h5⟩, h6, h7, h8⟩ := hM
  have hF1 : fx_R G1 := fun a k b h => by rw [h1.1]; exact hF a k b h
  obtain ⟨w1, w2, w3, w4⟩ := hW.2.2 j hj
  have f1 := h2 (300 + w) 1 (by omega) (by omega) (by omega) (by omega)
  have f2 := h2 (300 + w) 2 (by omega) (by omega) (by omega) (by omega)
  have f4 := h2 (300 + w) 4 (by omega) (by omega) (by omega) (by omega)
  have f6 := h2 (300 + w) 6 (by omega) (by omega) (by omega) (by omega)
  have hit : mm_I (nt_b G1 w td) 49 = f := by
    rw [← hP.1]; funext k
    rw [nt_o_b _ _ _ (by omega), h2 _ _ (by omega) (by omega) (by omega) (by omega)]
  have hF2 : fx_R (nt_b G1 w td) := hF1
  have hwk := cm_Or_workOut_b X d (nt_b G1 w td) (a := le j) (n := le (j + 1) - le j) (e := le (j + 1)) hF2 w2 (by omega) (by rw [hit]; exact w3)
  rw [hit] at hwk
  have hv : ev_n (fun z => mm_I (nt_b G1 w td) 52 (-1 - z).toNat) f (le (j + 1) - le j) (le j) (mm_I (nt_b G1 w td) 53) 0 0 = ln_v (nv_v (mm_I G (300 + w) 1) (td - mm_I G (300 + w) 2) (mm_I G (300 + w) 6) ai da (mm_I G (300 + w) 4) td) f le j s := by
    refine ev_ag (fun z z1 z2 => ?_) f _ _ 0 _ _ (fun k hk => by omega) w3
    rw [nt_nm_b G1 w td z1 z2 h8, f1, f2, f4, f6, h3, h4, h5, h6, h7]
  rw [hv] at hwk
  refine ⟨nt_b G1 w td, _, cm_Or_nameThings_b X (d + 2) G1 hF1 hw ht (by rw [f2]; exact hm), hwk, ?_, hF1, hF1, ?_⟩
  · have hx : ∀ i, mm_I (ow_b (nt_b G1 w td) (ev_n (fun z => mm_I (nt_b G1 w td) 52 (-1 - z).toNat) f (le (j + 1) - le j) (le j) (mm_I (nt_b G1 w td) 53) 0) 0) (300 + w) i = mm_I G1 (300 + w) i := fun i => by rw [ow_o_b _ _ _ (by omega) (by omega), nt_o_b _ _ _ (by omega)]
    refine ⟨h1, fun b i b1 b2 b3 b4 => ?_, ⟨(hx 7).trans h3, (hx 8).trans h4, (hx 9).trans h5⟩, h6, h7, h8⟩
    rw [ow_o_b _ _ _ b2 b3, nt_o_b _ _ _ b1]; exact h2 b i b1 b2 b3 b4
  · rw [nt_o_b _ _ _ (by omega), h2 _ _ (by omega) (by omega) (by omega) (by omega)]; exact hP.2.1 j hj
theorem xo_9_b {G G1 : mm_T} {w : Nat} {s : Int × Int × Int} {ai da td : Int} (h : xo_F_b G G1 w s ai da td) (v : Int) : xo_F_b G (ms_I G1 (300 + w) 9 v) w (s.1, s.2.1, v) ai da td := by
  obtain ⟨h1, h2, ⟨h3, h4, h5⟩, h6, h7, h8⟩ := h
  refine ⟨h1, fun b i b1 b2 b3 b4 => ?_, ⟨(mi_n (by omega)).trans h3, (mi_n (by omega)).trans h4, mi_s _ _ _ _⟩, (mi_n (by omega)).trans h6, (mi_n (by omega)).trans h7, (mi_n (by omega)).trans h8⟩
  rw [mi_n (by omega)]; exact h2 b i b1 b2 b3 b4
theorem xo_78_b {G G1 : mm_T} {w : Nat} {s : Int × Int × Int} {ai da td : Int} (h : xo_F_b G G1 w s ai da td) (u v : Int) : xo_F_b G (ms_I (ms_I G1 (300 + w) 7 u) (300 + w) 8 v) w (u, v, s.2.2) ai da td := by
  obtain ⟨h1, h2, ⟨h3, h4, h5⟩, h6, h7, h8⟩ := h
  refine ⟨h1, fun b i b1 b2 b3 b4 => ?_, ⟨(mi_n (by omega)).trans (mi_s _ _ _ _), mi_s _ _ _ _, (mi_n (by omega)).trans ((mi_n (by omega)).trans h5)⟩, (mi_n (by omega)).trans ((mi_n (by omega)).trans h6), (mi_n (by omega)).trans ((mi_n (by omega)).trans h7), (mi_n (by omega)).trans ((mi_n (by omega)).trans h8)⟩
  rw [mi_n (by omega), mi_n (by omega)]; exact h2 b i b1 b2 b3 b4
theorem xo_dd_b (X : gx_T) (d : Nat) {G G1 : mm_T} {w : Nat} {q : Int} {s : Int × Int × Int} {ai da td : Int} (hw : w < 40) (h : xo_F_b G G1 w s ai da td) (hs : sr_I s) (hq : q = 2 ∨ q = 3 ∨ q = 4) : ∃ G4, aw_M X (d + 3) mt_Wh_doDeed [av_r (some (300 + w)), av_i q] G1 0 0 (fun r G' => r = none ∧ G' = G4) ∧ xo_F_b G G4 w (dd_v (mm_I G (300 + w) 1) q s) ai da td ∧ mm_R G4 = mm_R G1 ∧ mm_I G4 50 = mm_I G1 50 := by
  have h' := h
  obtain ⟨h1, h2, ⟨h3, h4, h5⟩, h6, h7, h8⟩ := h'
  have f1 := h2 (300 + w) 1 (by omega) (by omega) (by omega) (by omega)
  refine ⟨_, cm_Wh_doDeed X d G1 hw ⟨by omega, by omega⟩ (by rw [h3]; exact hs.1) (by rw [h4]; exact hs.2.1), ?_⟩
  unfold dd_v
  rw [f1, h3, h4]
  rcases hq with rfl | rfl | rfl
  · rw [if_pos rfl, if_pos rfl]; exact ⟨xo_9_b h 0, rfl, mi_o _ _ _ (by omega)⟩
  · rw [if_neg (show ¬ (3 : Int) = 2 by decide), if_pos (show (3 : Int) = 3 from rfl), if_neg (show ¬ (3 : Int) = 2 by decide), if_pos (show (3 : Int) = 3 from rfl)]; exact ⟨xo_78_b h _ _, rfl, by rw [mi_o _ _ _ (by omega), mi_o _ _ _ (by omega)]⟩
  · rw [if_neg (show ¬ (4 : Int) = 2 by decide), if_neg (show ¬ (4 : Int) = 3 by decide), if_pos (show (4 : Int) = 4 from rfl), if_neg (show ¬ (4 : Int) = 2 by decide), if_neg (show ¬ (4 : Int) = 3 by decide)]; exact ⟨xo_78_b h _ _, rfl, by rw [mi_o _ _ _ (by omega), mi_o _ _ _ (by omega)]⟩
theorem lp_Or_obeyFor_b (X : gx_T) (d : Nat) {G : mm_T} {w L : Nat} {ai da td : Int} {s0 : Int × Int × Int} {f : Nat → Int} {le : Nat → Nat} {dd : Nat → Int} {N : Int → Int → Int → Int → Int} (hF : fx_R G) (hw : w < 40) (ht : 0 ≤ td ∧ td ≤ 100000) (hm : 0 ≤ mm_I G (300 + w) 2 ∧ mm_I G (300 + w) 2 ≤ 100000) (hW : pg_W f le dd L) (hP : xp_R_b G f le dd L) (hL : mm_I G 48 6 = L) (hN : N = nv_v (mm_I G (300 + w) 1) (td - mm_I G (300 + w) 2) (mm_I G (300 + w) 6) ai da (mm_I G (300 + w) 4) td) (hsr : sr_I s0) : ∀ n j G1, j + n = L → xo_F_b G G1 w (dy_v N (mm_I G (300 + w) 1) f le dd s0 j) ai da td → aw_W X mt_Or_obeyFor (d + 4) 31 [(0, some (av_r (some 48))), (1, some (av_r (some (300 + w)))), (4, some (av_i td)), (5, some (av_i (le j : Int))), (6, some (av_i (j : Int)))] [] G1 0 0 (fun r G' => r = none ∧ xo_F_b G G' w (dy_v N (mm_I G (300 + w) 1) f le dd s0 L) ai da td) := by
  intro n
  induction n with
  | zero =>
    intro j G1 hj hM
    have hj : j = L := by omega
    subst hj
    have e6 : mm_I G1 48 6 = (j : Int) := by rw [hM.2.1 48 6 (by omega) (by omega) (by omega) (by omega)]; exact hL
    refine ar_iload (pc := 31) d_Or_obeyFor_31 rfl ?_
    refine ar_aload_n (pc := 33) d_Or_obeyFor_33 rfl ?_
    refine ar_getIv (pc := 34) gf_Or_31 d_Or_obeyFor_34 (by first | rfl | exact sh_wheel (by omega) | exact sh_milk (by omega)) e6 (fun r_34 => ?_)
    refine ar_icmp_ge (pc := 37) 89 d_Or_obeyFor_37 (by decide) ⟨by omega, by omega⟩ ⟨by omega, by omega⟩ (fun h_37 => ?_) (fun h_37 => by exfalso; omega)
    refine ar_ret (pc := 89) d_Or_obeyFor_89 rfl ?_
    rotate_left
    -- leaves: ret 89
    · exact ⟨rfl, hM⟩
  | succ n ih =>
    intro j G1 hj hM
    have e6 : mm_I G1 48 6 = (L : Int) := by rw [hM.2.1 48 6 (by omega) (by omega) (by omega) (by omega)]; exact hL
    have hF1 : fx_R G1 := fun a k b h => by rw [hM.1.1]; exact hF a k b h
    obtain ⟨G2, G3, c1, c2, hM3, hF3, hF2, e2⟩ := xd_line_b X d hF hw ht hm hM hW hP (show j < L by omega)
    rw [← hN] at c2
    have hL8 := hW.1
    have hl5 := (hW.2.2 j (by omega)).2.1
    have hdd := (hW.2.2 j (by omega)).2.2.2
    have e3 : mm_I G3 51 j = dd j := by rw [hM3.2.1 51 j (by omega) (by omega) (by omega) (by omega)]; exact hP.2.2 j (by omega)
    have e32 : mm_I G3 50 j = (le (j + 1) : Int) := by rw [hM3.2.1 50 j (by omega) (by omega) (by omega) (by omega)]; exact hP.2.1 j (by omega)
    have i1 := fun G4 => ih (j + 1) G4 (by omega)
    rw [dy_v] at i1
    have hsj := dy_I (N := N) (kd := mm_I G (300 + w) 1) (f := f) (le := le) (dd := dd) hsr j
    generalize dy_v N (mm_I G (300 + w) 1) f le dd s0 j = u at *
    generalize (fun (r : Option av_T) G' => r = none ∧ xo_F_b G G' w (dy_v N (mm_I G (300 + w) 1) f le dd s0 L) ai da td) = Q at *
    obtain ⟨G4, c3, hM4, r4, e42⟩ := xo_dd_b X d hw hM3 hsj hdd
    have hF4 : fx_R G4 := fun a k b h => by rw [r4]; exact hF3 a k b h
    have e42 : mm_I G4 50 j = (le (j + 1) : Int) := by rw [e42]; exact e32
    clear ih hW hP hN hM hF
    have hF := hF1
    generalize hV : ln_v N f le j u = V at *
    by_cases hl : V = 0
    · rw [if_pos hl] at i1
      have k1 := i1 G3 hM3
      refine ar_iload (pc := 31) d_Or_obeyFor_31 rfl ?_
      refine ar_aload_n (pc := 33) d_Or_obeyFor_33 rfl ?_
      refine ar_getIv (pc := 34) gf_Or_31 d_Or_obeyFor_34 (by first | rfl | exact sh_wheel (by omega) | exact sh_milk (by omega)) e6 (fun r_34 => ?_)
      refine ar_icmp_ge (pc := 37) 89 d_Or_obeyFor_37 (by decide) ⟨by omega, by omega⟩ ⟨by omega, by omega⟩ (fun h_37 => by exfalso; omega) (fun h_37 => ?_)
      refine ar_aload_n (pc := 40) d_Or_obeyFor_40 rfl ?_
      refine ar_aload_n (pc := 41) d_Or_obeyFor_41 rfl ?_
      refine ar_iload (pc := 42) d_Or_obeyFor_42 rfl ?_
      refine ac_virt (pc := 44) (N := mt_Or_nameThings) _ _ mv_Or_nameThings ml_Or_34 ck_3 d_Or_obeyFor_44 c1 (by first | rfl | exact sh_wheel (by omega) | exact sh_milk (by omega)) rfl rfl (Nat.le_of_ble_eq_true rfl) (Nat.le_of_eq (Nat.zero_add _)) (Nat.le_of_eq (Nat.zero_add _)) (fun r_44 G_44 h_44 => ?_)
      obtain ⟨rfl, e_44⟩ := h_44
      subst G_44
      have hF := hF2
      refine ar_aload_n (pc := 47) d_Or_obeyFor_47 rfl ?_
      refine ar_iload (pc := 48) d_Or_obeyFor_48 rfl ?_
      refine ar_aload_n (pc := 50) d_Or_obeyFor_50 rfl ?_
      refine ar_getR (pc := 51) gf_Or_15 d_Or_obeyFor_51 (by first | rfl | exact sh_wheel (by omega) | exact sh_milk (by omega)) (hF _ _ _ rfl) ?_
      refine ar_iload (pc := 54) d_Or_obeyFor_54 rfl ?_
      refine ar_ialdv (pc := 56) d_Or_obeyFor_56 rfl (j) (by omega) (by omega) e2 (fun r_56 => ?_)
      refine ac_virt (pc := 57) (N := mt_Or_workOut) _ _ mv_Or_workOut ml_Or_38 ck_3 d_Or_obeyFor_57 c2 (by first | rfl | exact sh_wheel (by omega) | exact sh_milk (by omega)) rfl rfl (Nat.le_of_ble_eq_true rfl) (Nat.le_of_eq (Nat.zero_add _)) (Nat.le_of_eq (Nat.zero_add _)) (fun r_57 G_57 h_57 => ?_)
      obtain ⟨⟨rfl, q57⟩, e57⟩ := h_57
      subst G_57; have hF := hF3
      refine ar_if_eq (pc := 60) 74 d_Or_obeyFor_60 (by decide) ⟨by omega, by omega⟩ (fun h_60 => ?_) (fun h_60 => by exfalso; omega)
      refine ar_aload_n (pc := 74) d_Or_obeyFor_74 rfl ?_
      refine ar_getR (pc := 75) gf_Or_15 d_Or_obeyFor_75 (by first | rfl | exact sh_wheel (by omega) | exact sh_milk (by omega)) (hF _ _ _ rfl) ?_
      refine ar_iload (pc := 78) d_Or_obeyFor_78 rfl ?_
      refine ar_ialdv (pc := 80) d_Or_obeyFor_80 rfl (j) (by omega) (by omega) e32 (fun r_80 => ?_)
      refine ar_istore (pc := 81) d_Or_obeyFor_81 rfl (by decide) ?_
      refine ar_iinc (pc := 83) d_Or_obeyFor_83 rfl rfl (by decide) ?_
      refine ar_goto (pc := 86) 31 d_Or_obeyFor_86 (by decide) ?_
      rotate_left
      -- leaves: stop 31
      · exact ar_loc k1 ⟨rfl, rfl, rfl, rfl, li_i rfl (by omega), trivial⟩
    · rw [if_neg hl] at i1
      have k1 := i1 G4 hM4
      refine ar_iload (pc := 31) d_Or_obeyFor_31 rfl ?_
      refine ar_aload_n (pc := 33) d_Or_obeyFor_33 rfl ?_
      refine ar_getIv (pc := 34) gf_Or_31 d_Or_obeyFor_34 (by first | rfl | exact sh_wheel (by omega) | exact sh_milk (by omega)) e6 (fun r_34 => ?_)
      refine ar_icmp_ge (pc := 37) 89 d_Or_obeyFor_37 (by decide) ⟨by omega, by omega⟩ ⟨by omega, by omega⟩ (fun h_37 => by exfalso; omega) (fun h_37 => ?_)
      refine ar_aload_n (pc := 40) d_Or_obeyFor_40 rfl ?_
      refine ar_aload_n (pc := 41) d_Or_obeyFor_41 rfl ?_
      refine ar_iload (pc := 42) d_Or_obeyFor_42 rfl ?_
      refine ac_virt (pc := 44) (N := mt_Or_nameThings) _ _ mv_Or_nameThings ml_Or_34 ck_3 d_Or_obeyFor_44 c1 (by first | rfl | exact sh_wheel (by omega) | exact sh_milk (by omega)) rfl rfl (Nat.le_of_ble_eq_true rfl) (Nat.le_of_eq (Nat.zero_add _)) (Nat.le_of_eq (Nat.zero_add _)) (fun r_44 G_44 h_44 => ?_)
      obtain ⟨rfl, e_44⟩ := h_44
      subst G_44
      have hF := hF2
      refine ar_aload_n (pc := 47) d_Or_obeyFor_47 rfl ?_
      refine ar_iload (pc := 48) d_Or_obeyFor_48 rfl ?_
      refine ar_aload_n (pc := 50) d_Or_obeyFor_50 rfl ?_
      refine ar_getR (pc := 51) gf_Or_15 d_Or_obeyFor_51 (by first | rfl | exact sh_wheel (by omega) | exact sh_milk (by omega)) (hF _ _ _ rfl) ?_
      refine ar_iload (pc := 54) d_Or_obeyFor_54 rfl ?_
      refine ar_ialdv (pc := 56) d_Or_obeyFor_56 rfl (j) (by omega) (by omega) e2 (fun r_56 => ?_)
      refine ac_virt (pc := 57) (N := mt_Or_workOut) _ _ mv_Or_workOut ml_Or_38 ck_3 d_Or_obeyFor_57 c2 (by first | rfl | exact sh_wheel (by omega) | exact sh_milk (by omega)) rfl rfl (Nat.le_of_ble_eq_true rfl) (Nat.le_of_eq (Nat.zero_add _)) (Nat.le_of_eq (Nat.zero_add _)) (fun r_57 G_57 h_57 => ?_)
      obtain ⟨⟨rfl, q57⟩, e57⟩ := h_57
      subst G_57; have hF := hF3
      refine ar_if_eq (pc := 60) 74 d_Or_obeyFor_60 (by decide) ⟨by omega, by omega⟩ (fun h_60 => by exfalso; omega) (fun h_60 => ?_)
      refine ar_aload_n (pc := 63) d_Or_obeyFor_63 rfl ?_
      refine ar_aload_n (pc := 64) d_Or_obeyFor_64 rfl ?_
      refine ar_getR (pc := 65) gf_Or_18 d_Or_obeyFor_65 (by first | rfl | exact sh_wheel (by omega) | exact sh_milk (by omega)) (hF _ _ _ rfl) ?_
      refine ar_iload (pc := 68) d_Or_obeyFor_68 rfl ?_
      refine ar_ialdv (pc := 70) d_Or_obeyFor_70 rfl (j) (by omega) (by omega) e3 (fun r_70 => ?_)
      refine ac_virt (pc := 71) (N := mt_Wh_doDeed) _ _ mv_Wh_doDeed ml_Or_42 ck_10 d_Or_obeyFor_71 c3 (by first | rfl | exact sh_wheel (by omega) | exact sh_milk (by omega)) rfl rfl (Nat.le_of_ble_eq_true rfl) (Nat.le_of_eq (Nat.zero_add _)) (Nat.le_of_eq (Nat.zero_add _)) (fun r_71 G_71 h_71 => ?_)
      obtain ⟨rfl, e_71⟩ := h_71
      subst G_71
      have hF := hF4
      refine ar_aload_n (pc := 74) d_Or_obeyFor_74 rfl ?_
      refine ar_getR (pc := 75) gf_Or_15 d_Or_obeyFor_75 (by first | rfl | exact sh_wheel (by omega) | exact sh_milk (by omega)) (hF _ _ _ rfl) ?_
      refine ar_iload (pc := 78) d_Or_obeyFor_78 rfl ?_
      refine ar_ialdv (pc := 80) d_Or_obeyFor_80 rfl (j) (by omega) (by omega) e42 (fun r_80 => ?_)
      refine ar_istore (pc := 81) d_Or_obeyFor_81 rfl (by decide) ?_
      refine ar_iinc (pc := 83) d_Or_obeyFor_83 rfl rfl (by decide) ?_
      refine ar_goto (pc := 86) 31 d_Or_obeyFor_86 (by decide) ?_
      rotate_left
      -- leaves: stop 31
      · exact ar_loc k1 ⟨rfl, rfl, rfl, rfl, li_i rfl (by omega), trivial⟩
