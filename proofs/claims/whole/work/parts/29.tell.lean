/-! ===== one line for both ===== -/
theorem cm_Mo_holds (X : gx_T) (d : Nat) (G : mm_T) {f : Nat → Int} {i a n e : Nat} (hF : fx_R G) (hi : i < 8) (ha : mm_I G 81 i = a) (he : mm_I G 81 (i + 1) = e) (he5 : e ≤ 500) (hn : a + n = e) (hw : wf_p f n a 0) (hit : ∀ k, a ≤ k → k < e → it_R (f k) (mm_I G 79 k) (mm_I G 80 k)) : aw_M X (d + 1) mt_Mo_holds [av_r (some 60), av_i (i : Int)] G 0 0 (hv_Q G f n a (mm_I G 89) 0) := by
  have h := lp_Mo_holds X d G hF hi he he5 n a (mm_I G 89) 0 hn (by omega) hw hit
  rw [row_id] at h
  refine aw_enter pf_Mo_holds (Nat.le_of_ble_eq_true rfl) ?_
  refine ar_iconst (pc := 0) d_Mo_holds_0 ?_
  refine ar_istore_n (pc := 1) d_Mo_holds_1 rfl (by decide) ?_
  refine ar_aload_n (pc := 2) d_Mo_holds_2 rfl ?_
  refine ar_getR (pc := 3) gf_Mo_71 d_Mo_holds_3 (by first | rfl | exact sh_wheel (by omega) | exact sh_milk (by omega)) (hF _ _ _ rfl) ?_
  refine ar_iload_n (pc := 6) d_Mo_holds_6 rfl ?_
  refine ar_ialdv (pc := 7) d_Mo_holds_7 rfl (i) (by omega) (by omega) ha (fun r_7 => ?_)
  refine ar_istore_n (pc := 8) d_Mo_holds_8 rfl (by decide) ?_
  rotate_left
  -- leaves: stop 9
  · exact ar_loc h ⟨rfl, rfl, rfl, rfl, trivial⟩
theorem ev_s_ag {nm nm' : Int → Int} (hnm : ∀ z, -18 ≤ z → z ≤ -9 → nm z = nm' z) {z : Int} {p q : Nat → Int} {h : Nat} (hp : ∀ k, k < h → p k = q k) (hw : ((0 ≤ z ∨ (-18 ≤ z ∧ z ≤ -9)) ∧ h < 80) ∨ (z = -8 ∧ 1 ≤ h) ∨ (wf_b z ∧ 2 ≤ h)) : (ev_s nm z p h).2 = (ev_s nm' z q h).2 ∧ ∀ k, k < (ev_s nm z p h).2 → (ev_s nm z p h).1 k = (ev_s nm' z q h).1 k := by
  unfold ev_s
  by_cases h0 : 0 ≤ z
  · rw [if_pos h0, if_pos h0]
    refine ⟨rfl, fun k hk => ?_⟩
    show upp p h z k = upp q h z k
    unfold upp
    have hk : k < h + 1 := hk
    split
    · rfl
    · exact hp k (by omega)
  · rw [if_neg h0, if_neg h0]
    by_cases h1 : z = -8
    · rw [if_pos h1, if_pos h1]
      refine ⟨rfl, fun k hk => ?_⟩
      have hk : k < h := hk
      have e1 := hp (h - 1) (by omega)
      show upp p (h - 1) (if p (h - 1) = 0 then 1 else 0) k = upp q (h - 1) (if q (h - 1) = 0 then 1 else 0) k
      rw [e1]
      unfold upp
      split
      · rfl
      · exact hp k (by omega)
    · rw [if_neg h1, if_neg h1]
      by_cases h2 : -18 ≤ z ∧ z ≤ -9
      · rw [if_pos h2, if_pos h2]
        refine ⟨rfl, fun k hk => ?_⟩
        have hk : k < h + 1 := hk
        show upp p h (nm z) k = upp q h (nm' z) k
        rw [hnm z h2.1 h2.2]
        unfold upp
        split
        · rfl
        · exact hp k (by omega)
      · rw [if_neg h2, if_neg h2]
        have hh : 2 ≤ h := by omega
        refine ⟨rfl, fun k hk => ?_⟩
        have hk : k < h - 1 := hk
        show upp p (h - 2) (jn_v (-1 - z) (p (h - 2)) (p (h - 1))) k = upp q (h - 2) (jn_v (-1 - z) (q (h - 2)) (q (h - 1))) k
        rw [hp (h - 2) (by omega), hp (h - 1) (by omega)]
        unfold upp
        split
        · rfl
        · exact hp k (by omega)
theorem ev_ag {nm nm' : Int → Int} (hnm : ∀ z, -18 ≤ z → z ≤ -9 → nm z = nm' z) (f : Nat → Int) : ∀ n a h (p q : Nat → Int), (∀ k, k < h → p k = q k) → wf_p f n a h → ev_n nm f n a p h 0 = ev_n nm' f n a q h 0 := by
  intro n
  induction n with
  | zero =>
    intro a h p q hp hw
    have hw : h = 1 := hw
    exact hp 0 (by omega)
  | succ n ih =>
    intro a h p q hp hw
    rw [wf_p] at hw
    rw [ev_n, ev_n]
    have key := ev_s_ag hnm (z := f a) hp (by rcases hw with ⟨a1, a2, -⟩ | ⟨a1, a2, -⟩ | ⟨a1, a2, -⟩; exact Or.inl ⟨a1, a2⟩; exact Or.inr (Or.inl ⟨a1, a2⟩); exact Or.inr (Or.inr ⟨a1, a2⟩))
    rw [← key.1]
    refine ih (a + 1) _ _ _ key.2 ?_
    rcases hw with ⟨h1, h2, h3⟩ | ⟨h1, h2, h3⟩ | ⟨h1, h2, h3⟩
    · unfold ev_s
      by_cases hz : 0 ≤ f a
      · rw [if_pos hz]; exact h3
      · rw [if_neg hz, if_neg (by omega), if_pos (by omega)]; exact h3
    · unfold ev_s
      rw [if_neg (by omega), if_pos h1]; exact h3
    · unfold wf_b at h1
      unfold ev_s
      rw [if_neg (by omega), if_neg (by omega), if_neg (by omega)]; exact h3
def tl_v (G : mm_T) (w : Nat) (s : Nat) : mm_T := ms_I (ms_I (ms_I (ms_I (ms_I (ms_I (ms_I (ms_I (ms_I (ms_I G 90 0 (mm_I G 66 w)) 90 1 (mm_I G 60 0 - mm_I G 71 w)) 90 2 (mm_I G 68 w)) 90 3 (mm_I G 69 w)) 90 4 (mm_I G 70 w)) 90 5 (mm_I G 61 s)) 90 6 (mm_I G 62 (s / 6))) 90 7 (mm_I G 72 w)) 90 8 (s : Int)) 90 9 (mm_I G 60 0)
theorem cm_Mo_tell (X : gx_T) (d : Nat) (G : mm_T) {w s : Nat} (hF : fx_R G) (hw : w < 40) (hs : mm_I G 67 w = s) (hs2 : s < 24) (ht : 0 ≤ mm_I G 60 0 ∧ mm_I G 60 0 ≤ 100000) (hm : 0 ≤ mm_I G 71 w ∧ mm_I G 71 w ≤ 100000) : aw_M X (d + 1) mt_Mo_tell [av_r (some 60), av_i (w : Int)] G 0 0 (fun r G' => r = none ∧ G' = tl_v G w s) := by
  refine aw_enter pf_Mo_tell (Nat.le_of_ble_eq_true rfl) ?_
  refine ar_aload_n (pc := 0) d_Mo_tell_0 rfl ?_
  refine ar_getR (pc := 1) gf_Mo_28 d_Mo_tell_1 (by first | rfl | exact sh_wheel (by omega) | exact sh_milk (by omega)) (hF _ _ _ rfl) ?_
  refine ar_iload_n (pc := 4) d_Mo_tell_4 rfl ?_
  refine ar_ialdv (pc := 5) d_Mo_tell_5 rfl (w) (by omega) (by omega) hs (fun r_5 => ?_)
  refine ar_istore_n (pc := 6) d_Mo_tell_6 rfl (by decide) ?_
  refine ar_aload_n (pc := 7) d_Mo_tell_7 rfl ?_
  refine ar_getR (pc := 8) gf_Mo_102 d_Mo_tell_8 (by first | rfl | exact sh_wheel (by omega) | exact sh_milk (by omega)) (hF _ _ _ rfl) ?_
  refine ar_iconst (pc := 11) d_Mo_tell_11 ?_
  refine ar_aload_n (pc := 12) d_Mo_tell_12 rfl ?_
  refine ar_getR (pc := 13) gf_Mo_25 d_Mo_tell_13 (by first | rfl | exact sh_wheel (by omega) | exact sh_milk (by omega)) (hF _ _ _ rfl) ?_
  refine ar_iload_n (pc := 16) d_Mo_tell_16 rfl ?_
  refine ar_ialdv (pc := 17) d_Mo_tell_17 rfl (w) (by omega) (by omega) (show _ = mm_I G 66 w from rfl) (fun r_17 => ?_)
  refine ar_iast (pc := 18) d_Mo_tell_18 rfl (0) (by omega) (by omega) r_17 ?_
  refine ar_aload_n (pc := 19) d_Mo_tell_19 rfl ?_
  refine ar_getR (pc := 20) gf_Mo_102 d_Mo_tell_20 (by first | rfl | exact sh_wheel (by omega) | exact sh_milk (by omega)) (hF _ _ _ rfl) ?_
  refine ar_iconst (pc := 23) d_Mo_tell_23 ?_
  refine ar_aload_n (pc := 24) d_Mo_tell_24 rfl ?_
  refine ar_getIv (pc := 25) gf_Mo_171 d_Mo_tell_25 (by first | rfl | exact sh_wheel (by omega) | exact sh_milk (by omega)) (show _ = mm_I G 60 0 from rfl) (fun r_25 => ?_)
  refine ar_aload_n (pc := 28) d_Mo_tell_28 rfl ?_
  refine ar_getR (pc := 29) gf_Mo_40 d_Mo_tell_29 (by first | rfl | exact sh_wheel (by omega) | exact sh_milk (by omega)) (hF _ _ _ rfl) ?_
  refine ar_iload_n (pc := 32) d_Mo_tell_32 rfl ?_
  refine ar_ialdv (pc := 33) d_Mo_tell_33 rfl (w) (by omega) (by omega) (show _ = mm_I G 71 w from rfl) (fun r_33 => ?_)
  refine ar_isub (pc := 34) d_Mo_tell_34 ?_
  refine ar_iast (pc := 35) d_Mo_tell_35 rfl (1) (by omega) (by omega) ⟨by omega, by omega⟩ ?_
  refine ar_aload_n (pc := 36) d_Mo_tell_36 rfl ?_
  refine ar_getR (pc := 37) gf_Mo_102 d_Mo_tell_37 (by first | rfl | exact sh_wheel (by omega) | exact sh_milk (by omega)) (hF _ _ _ rfl) ?_
  refine ar_iconst (pc := 40) d_Mo_tell_40 ?_
  refine ar_aload_n (pc := 41) d_Mo_tell_41 rfl ?_
  refine ar_getR (pc := 42) gf_Mo_31 d_Mo_tell_42 (by first | rfl | exact sh_wheel (by omega) | exact sh_milk (by omega)) (hF _ _ _ rfl) ?_
  refine ar_iload_n (pc := 45) d_Mo_tell_45 rfl ?_
  refine ar_ialdv (pc := 46) d_Mo_tell_46 rfl (w) (by omega) (by omega) (show _ = mm_I G 68 w from rfl) (fun r_46 => ?_)
  refine ar_iast (pc := 47) d_Mo_tell_47 rfl (2) (by omega) (by omega) r_46 ?_
  refine ar_aload_n (pc := 48) d_Mo_tell_48 rfl ?_
  refine ar_getR (pc := 49) gf_Mo_102 d_Mo_tell_49 (by first | rfl | exact sh_wheel (by omega) | exact sh_milk (by omega)) (hF _ _ _ rfl) ?_
  refine ar_iconst (pc := 52) d_Mo_tell_52 ?_
  refine ar_aload_n (pc := 53) d_Mo_tell_53 rfl ?_
  refine ar_getR (pc := 54) gf_Mo_34 d_Mo_tell_54 (by first | rfl | exact sh_wheel (by omega) | exact sh_milk (by omega)) (hF _ _ _ rfl) ?_
  refine ar_iload_n (pc := 57) d_Mo_tell_57 rfl ?_
  refine ar_ialdv (pc := 58) d_Mo_tell_58 rfl (w) (by omega) (by omega) (show _ = mm_I G 69 w from rfl) (fun r_58 => ?_)
  refine ar_iast (pc := 59) d_Mo_tell_59 rfl (3) (by omega) (by omega) r_58 ?_
  refine ar_aload_n (pc := 60) d_Mo_tell_60 rfl ?_
  refine ar_getR (pc := 61) gf_Mo_102 d_Mo_tell_61 (by first | rfl | exact sh_wheel (by omega) | exact sh_milk (by omega)) (hF _ _ _ rfl) ?_
  refine ar_iconst (pc := 64) d_Mo_tell_64 ?_
  refine ar_aload_n (pc := 65) d_Mo_tell_65 rfl ?_
  refine ar_getR (pc := 66) gf_Mo_37 d_Mo_tell_66 (by first | rfl | exact sh_wheel (by omega) | exact sh_milk (by omega)) (hF _ _ _ rfl) ?_
  refine ar_iload_n (pc := 69) d_Mo_tell_69 rfl ?_
  refine ar_ialdv (pc := 70) d_Mo_tell_70 rfl (w) (by omega) (by omega) (show _ = mm_I G 70 w from rfl) (fun r_70 => ?_)
  refine ar_iast (pc := 71) d_Mo_tell_71 rfl (4) (by omega) (by omega) r_70 ?_
  refine ar_aload_n (pc := 72) d_Mo_tell_72 rfl ?_
  refine ar_getR (pc := 73) gf_Mo_102 d_Mo_tell_73 (by first | rfl | exact sh_wheel (by omega) | exact sh_milk (by omega)) (hF _ _ _ rfl) ?_
  refine ar_iconst (pc := 76) d_Mo_tell_76 ?_
  refine ar_aload_n (pc := 77) d_Mo_tell_77 rfl ?_
  refine ar_getR (pc := 78) gf_Mo_7 d_Mo_tell_78 (by first | rfl | exact sh_wheel (by omega) | exact sh_milk (by omega)) (hF _ _ _ rfl) ?_
  refine ar_iload_n (pc := 81) d_Mo_tell_81 rfl ?_
  refine ar_ialdv (pc := 82) d_Mo_tell_82 rfl (s) (by omega) (by omega) (show _ = mm_I G 61 s from rfl) (fun r_82 => ?_)
  refine ar_iast (pc := 83) d_Mo_tell_83 rfl (5) (by omega) (by omega) r_82 ?_
  refine ar_aload_n (pc := 84) d_Mo_tell_84 rfl ?_
  refine ar_getR (pc := 85) gf_Mo_102 d_Mo_tell_85 (by first | rfl | exact sh_wheel (by omega) | exact sh_milk (by omega)) (hF _ _ _ rfl) ?_
  refine ar_bipush (pc := 88) d_Mo_tell_88 (by decide) ?_
  refine ar_aload_n (pc := 90) d_Mo_tell_90 rfl ?_
  refine ar_getR (pc := 91) gf_Mo_13 d_Mo_tell_91 (by first | rfl | exact sh_wheel (by omega) | exact sh_milk (by omega)) (hF _ _ _ rfl) ?_
  refine ar_iload_n (pc := 94) d_Mo_tell_94 rfl ?_
  refine ar_bipush (pc := 95) d_Mo_tell_95 (by decide) ?_
  refine ar_idivp (pc := 97) d_Mo_tell_97 (by omega) (by omega) (by omega) (by omega) ?_
  refine ar_ialdv (pc := 98) d_Mo_tell_98 rfl (s/6) (by omega) (by omega) (show _ = mm_I G 62 (s / 6) from rfl) (fun r_98 => ?_)
  refine ar_iast (pc := 99) d_Mo_tell_99 rfl (6) (by omega) (by omega) r_98 ?_
  refine ar_aload_n (pc := 100) d_Mo_tell_100 rfl ?_
  refine ar_getR (pc := 101) gf_Mo_102 d_Mo_tell_101 (by first | rfl | exact sh_wheel (by omega) | exact sh_milk (by omega)) (hF _ _ _ rfl) ?_
  refine ar_bipush (pc := 104) d_Mo_tell_104 (by decide) ?_
  refine ar_aload_n (pc := 106) d_Mo_tell_106 rfl ?_
  refine ar_getR (pc := 107) gf_Mo_43 d_Mo_tell_107 (by first | rfl | exact sh_wheel (by omega) | exact sh_milk (by omega)) (hF _ _ _ rfl) ?_
  refine ar_iload_n (pc := 110) d_Mo_tell_110 rfl ?_
  refine ar_ialdv (pc := 111) d_Mo_tell_111 rfl (w) (by omega) (by omega) (show _ = mm_I G 72 w from rfl) (fun r_111 => ?_)
  refine ar_iast (pc := 112) d_Mo_tell_112 rfl (7) (by omega) (by omega) r_111 ?_
  refine ar_aload_n (pc := 113) d_Mo_tell_113 rfl ?_
  refine ar_getR (pc := 114) gf_Mo_102 d_Mo_tell_114 (by first | rfl | exact sh_wheel (by omega) | exact sh_milk (by omega)) (hF _ _ _ rfl) ?_
  refine ar_bipush (pc := 117) d_Mo_tell_117 (by decide) ?_
  refine ar_iload_n (pc := 119) d_Mo_tell_119 rfl ?_
  refine ar_iast (pc := 120) d_Mo_tell_120 rfl (8) (by omega) (by omega) ⟨by omega, by omega⟩ ?_
  refine ar_aload_n (pc := 121) d_Mo_tell_121 rfl ?_
  refine ar_getR (pc := 122) gf_Mo_102 d_Mo_tell_122 (by first | rfl | exact sh_wheel (by omega) | exact sh_milk (by omega)) (hF _ _ _ rfl) ?_
  refine ar_bipush (pc := 125) d_Mo_tell_125 (by decide) ?_
  refine ar_aload_n (pc := 127) d_Mo_tell_127 rfl ?_
  refine ar_getIv (pc := 128) gf_Mo_171 d_Mo_tell_128 (by first | rfl | exact sh_wheel (by omega) | exact sh_milk (by omega)) (show _ = mm_I G 60 0 from rfl) (fun r_128 => ?_)
  refine ar_iast (pc := 131) d_Mo_tell_131 rfl (9) (by omega) (by omega) ⟨by omega, by omega⟩ ?_
  refine ar_ret (pc := 132) d_Mo_tell_132 rfl ?_
  rotate_left
  -- leaves: ret 132
  · exact ⟨rfl, rfl⟩
def nt_a (G : mm_T) (w : Nat) (t : Int) : mm_T := ms_I (ms_I (ms_I (ms_I (ms_I (ms_I (ms_I G 46 8 (mm_I G (300 + w) 1)) 46 9 (t - mm_I G (300 + w) 2)) 46 10 (mm_I G (300 + w) 6)) 46 11 (mm_I G (300 + w) 7)) 46 12 (mm_I G (300 + w) 8)) 46 15 (mm_I G (300 + w) 9)) 46 16 (mm_I G (300 + w) 4)
theorem nt_w_a (G : mm_T) (j : Nat) (v : Int) (w : Nat) : mm_I (ms_I G 46 j v) (300 + w) = mm_I G (300 + w) := mi_o _ _ _ (by omega)
theorem cm_Or_nameThings_a (X : gx_T) (d : Nat) (G : mm_T) {w : Nat} {t : Int} (hF : fx_R G) (hw : w < 40) (ht : 0 ≤ t ∧ t ≤ 100000) (hm : 0 ≤ mm_I G (300 + w) 2 ∧ mm_I G (300 + w) 2 ≤ 100000) : aw_M X (d + 1) mt_Or_nameThings [av_r (some 42), av_r (some (300 + w)), av_i t] G 0 0 (fun r G' => r = none ∧ G' = nt_a G w t) := by
  unfold nt_a
  refine aw_enter pf_Or_nameThings (Nat.le_of_ble_eq_true rfl) ?_
  refine ar_aload_n (pc := 0) d_Or_nameThings_0 rfl ?_
  refine ar_getR (pc := 1) gf_Or_21 d_Or_nameThings_1 (by first | rfl | exact sh_wheel (by omega) | exact sh_milk (by omega)) (hF _ _ _ rfl) ?_
  refine ar_bipush (pc := 4) d_Or_nameThings_4 (by decide) ?_
  refine ar_aload_n (pc := 6) d_Or_nameThings_6 rfl ?_
  refine ar_getI (pc := 7) gf_Or_48 d_Or_nameThings_7 (by first | rfl | exact sh_wheel (by omega) | exact sh_milk (by omega)) (fun r_7 => ?_)
  refine ar_iast (pc := 10) d_Or_nameThings_10 rfl (8) (by omega) (by omega) ⟨by omega, by omega⟩ ?_
  refine ar_aload_n (pc := 11) d_Or_nameThings_11 rfl ?_
  refine ar_getR (pc := 12) gf_Or_21 d_Or_nameThings_12 (by first | rfl | exact sh_wheel (by omega) | exact sh_milk (by omega)) (hF _ _ _ rfl) ?_
  refine ar_bipush (pc := 15) d_Or_nameThings_15 (by decide) ?_
  refine ar_iload_n (pc := 17) d_Or_nameThings_17 rfl ?_
  refine ar_aload_n (pc := 18) d_Or_nameThings_18 rfl ?_
  refine ar_getIv (pc := 19) gf_Or_51 d_Or_nameThings_19 (by first | rfl | exact sh_wheel (by omega) | exact sh_milk (by omega)) (show _ = mm_I G (300 + w) 2 by rw [nt_w_a]) (fun r_19 => ?_)
  refine ar_isub (pc := 22) d_Or_nameThings_22 ?_
  refine ar_iast (pc := 23) d_Or_nameThings_23 rfl (9) (by omega) (by omega) ⟨by omega, by omega⟩ ?_
  refine ar_aload_n (pc := 24) d_Or_nameThings_24 rfl ?_
  refine ar_getR (pc := 25) gf_Or_21 d_Or_nameThings_25 (by first | rfl | exact sh_wheel (by omega) | exact sh_milk (by omega)) (hF _ _ _ rfl) ?_
  refine ar_bipush (pc := 28) d_Or_nameThings_28 (by decide) ?_
  refine ar_aload_n (pc := 30) d_Or_nameThings_30 rfl ?_
  refine ar_getIv (pc := 31) gf_Or_54 d_Or_nameThings_31 (by first | rfl | exact sh_wheel (by omega) | exact sh_milk (by omega)) (show _ = mm_I G (300 + w) 6 by rw [nt_w_a, nt_w_a]) (fun r_31 => ?_)
  refine ar_iast (pc := 34) d_Or_nameThings_34 rfl (10) (by omega) (by omega) ⟨by omega, by omega⟩ ?_
  refine ar_aload_n (pc := 35) d_Or_nameThings_35 rfl ?_
  refine ar_getR (pc := 36) gf_Or_21 d_Or_nameThings_36 (by first | rfl | exact sh_wheel (by omega) | exact sh_milk (by omega)) (hF _ _ _ rfl) ?_
  refine ar_bipush (pc := 39) d_Or_nameThings_39 (by decide) ?_
  refine ar_aload_n (pc := 41) d_Or_nameThings_41 rfl ?_
  refine ar_getIv (pc := 42) gf_Or_57 d_Or_nameThings_42 (by first | rfl | exact sh_wheel (by omega) | exact sh_milk (by omega)) (show _ = mm_I G (300 + w) 7 by rw [nt_w_a, nt_w_a, nt_w_a]) (fun r_42 => ?_)
  refine ar_iast (pc := 45) d_Or_nameThings_45 rfl (11) (by omega) (by omega) ⟨by omega, by omega⟩ ?_
  refine ar_aload_n (pc := 46) d_Or_nameThings_46 rfl ?_
  refine ar_getR (pc := 47) gf_Or_21 d_Or_nameThings_47 (by first | rfl | exact sh_wheel (by omega) | exact sh_milk (by omega)) (hF _ _ _ rfl) ?_
  refine ar_bipush (pc := 50) d_Or_nameThings_50 (by decide) ?_
  refine ar_aload_n (pc := 52) d_Or_nameThings_52 rfl ?_
  refine ar_getIv (pc := 53) gf_Or_60 d_Or_nameThings_53 (by first | rfl | exact sh_wheel (by omega) | exact sh_milk (by omega)) (show _ = mm_I G (300 + w) 8 by rw [nt_w_a, nt_w_a, nt_w_a, nt_w_a]) (fun r_53 => ?_)
  refine ar_iast (pc := 56) d_Or_nameThings_56 rfl (12) (by omega) (by omega) ⟨by omega, by omega⟩ ?_
  refine ar_aload_n (pc := 57) d_Or_nameThings_57 rfl ?_
  refine ar_getR (pc := 58) gf_Or_21 d_Or_nameThings_58 (by first | rfl | exact sh_wheel (by omega) | exact sh_milk (by omega)) (hF _ _ _ rfl) ?_
  refine ar_bipush (pc := 61) d_Or_nameThings_61 (by decide) ?_
  refine ar_aload_n (pc := 63) d_Or_nameThings_63 rfl ?_
  refine ar_getIv (pc := 64) gf_Or_63 d_Or_nameThings_64 (by first | rfl | exact sh_wheel (by omega) | exact sh_milk (by omega)) (show _ = mm_I G (300 + w) 9 by rw [nt_w_a, nt_w_a, nt_w_a, nt_w_a, nt_w_a]) (fun r_64 => ?_)
  refine ar_iast (pc := 67) d_Or_nameThings_67 rfl (15) (by omega) (by omega) ⟨by omega, by omega⟩ ?_
  refine ar_aload_n (pc := 68) d_Or_nameThings_68 rfl ?_
  refine ar_getR (pc := 69) gf_Or_21 d_Or_nameThings_69 (by first | rfl | exact sh_wheel (by omega) | exact sh_milk (by omega)) (hF _ _ _ rfl) ?_
  refine ar_bipush (pc := 72) d_Or_nameThings_72 (by decide) ?_
  refine ar_aload_n (pc := 74) d_Or_nameThings_74 rfl ?_
  refine ar_getIv (pc := 75) gf_Or_66 d_Or_nameThings_75 (by first | rfl | exact sh_wheel (by omega) | exact sh_milk (by omega)) (show _ = mm_I G (300 + w) 4 by rw [nt_w_a, nt_w_a, nt_w_a, nt_w_a, nt_w_a, nt_w_a]) (fun r_75 => ?_)
  refine ar_iast (pc := 78) d_Or_nameThings_78 rfl (16) (by omega) (by omega) ⟨by omega, by omega⟩ ?_
  refine ar_ret (pc := 79) d_Or_nameThings_79 rfl ?_
  rotate_left
  -- leaves: ret 79
  · exact ⟨rfl, rfl⟩
def nt_b (G : mm_T) (w : Nat) (t : Int) : mm_T := ms_I (ms_I (ms_I (ms_I (ms_I (ms_I (ms_I G 52 8 (mm_I G (300 + w) 1)) 52 9 (t - mm_I G (300 + w) 2)) 52 10 (mm_I G (300 + w) 6)) 52 11 (mm_I G (300 + w) 7)) 52 12 (mm_I G (300 + w) 8)) 52 15 (mm_I G (300 + w) 9)) 52 16 (mm_I G (300 + w) 4)
theorem nt_w_b (G : mm_T) (j : Nat) (v : Int) (w : Nat) : mm_I (ms_I G 52 j v) (300 + w) = mm_I G (300 + w) := mi_o _ _ _ (by omega)
theorem cm_Or_nameThings_b (X : gx_T) (d : Nat) (G : mm_T) {w : Nat} {t : Int} (hF : fx_R G) (hw : w < 40) (ht : 0 ≤ t ∧ t ≤ 100000) (hm : 0 ≤ mm_I G (300 + w) 2 ∧ mm_I G (300 + w) 2 ≤ 100000) : aw_M X (d + 1) mt_Or_nameThings [av_r (some 48), av_r (some (300 + w)), av_i t] G 0 0 (fun r G' => r = none ∧ G' = nt_b G w t) := by
  unfold nt_b
  refine aw_enter pf_Or_nameThings (Nat.le_of_ble_eq_true rfl) ?_
  refine ar_aload_n (pc := 0) d_Or_nameThings_0 rfl ?_
  refine ar_getR (pc := 1) gf_Or_21 d_Or_nameThings_1 (by first | rfl | exact sh_wheel (by omega) | exact sh_milk (by omega)) (hF _ _ _ rfl) ?_
  refine ar_bipush (pc := 4) d_Or_nameThings_4 (by decide) ?_
  refine ar_aload_n (pc := 6) d_Or_nameThings_6 rfl ?_
  refine ar_getI (pc := 7) gf_Or_48 d_Or_nameThings_7 (by first | rfl | exact sh_wheel (by omega) | exact sh_milk (by omega)) (fun r_7 => ?_)
  refine ar_iast (pc := 10) d_Or_nameThings_10 rfl (8) (by omega) (by omega) ⟨by omega, by omega⟩ ?_
  refine ar_aload_n (pc := 11) d_Or_nameThings_11 rfl ?_
  refine ar_getR (pc := 12) gf_Or_21 d_Or_nameThings_12 (by first | rfl | exact sh_wheel (by omega) | exact sh_milk (by omega)) (hF _ _ _ rfl) ?_
  refine ar_bipush (pc := 15) d_Or_nameThings_15 (by decide) ?_
  refine ar_iload_n (pc := 17) d_Or_nameThings_17 rfl ?_
  refine ar_aload_n (pc := 18) d_Or_nameThings_18 rfl ?_
  refine ar_getIv (pc := 19) gf_Or_51 d_Or_nameThings_19 (by first | rfl | exact sh_wheel (by omega) | exact sh_milk (by omega)) (show _ = mm_I G (300 + w) 2 by rw [nt_w_b]) (fun r_19 => ?_)
  refine ar_isub (pc := 22) d_Or_nameThings_22 ?_
  refine ar_iast (pc := 23) d_Or_nameThings_23 rfl (9) (by omega) (by omega) ⟨by omega, by omega⟩ ?_
  refine ar_aload_n (pc := 24) d_Or_nameThings_24 rfl ?_
  refine ar_getR (pc := 25) gf_Or_21 d_Or_nameThings_25 (by first | rfl | exact sh_wheel (by omega) | exact sh_milk (by omega)) (hF _ _ _ rfl) ?_
  refine ar_bipush (pc := 28) d_Or_nameThings_28 (by decide) ?_
  refine ar_aload_n (pc := 30) d_Or_nameThings_30 rfl ?_
  refine ar_getIv (pc := 31) gf_Or_54 d_Or_nameThings_31 (by first | rfl | exact sh_wheel (by omega) | exact sh_milk (by omega)) (show _ = mm_I G (300 + w) 6 by rw [nt_w_b, nt_w_b]) (fun r_31 => ?_)
  refine ar_iast (pc := 34) d_Or_nameThings_34 rfl (10) (by omega) (by omega) ⟨by omega, by omega⟩ ?_
  refine ar_aload_n (pc := 35) d_Or_nameThings_35 rfl ?_
  refine ar_getR (pc := 36) gf_Or_21 d_Or_nameThings_36 (by first | rfl | exact sh_wheel (by omega) | exact sh_milk (by omega)) (hF _ _ _ rfl) ?_
  refine ar_bipush (pc := 39) d_Or_nameThings_39 (by decide) ?_
  refine ar_aload_n (pc := 41) d_Or_nameThings_41 rfl ?_
  refine ar_getIv (pc := 42) gf_Or_57 d_Or_nameThings_42 (by first | rfl | exact sh_wheel (by omega) | exact sh_milk (by omega)) (show _ = mm_I G (300 + w) 7 by rw [nt_w_b, nt_w_b, nt_w_b]) (fun r_42 => ?_)
  refine ar_iast (pc := 45) d_Or_nameThings_45 rfl (11) (by omega) (by omega) ⟨by omega, by omega⟩ ?_
  refine ar_aload_n (pc := 46) d_Or_nameThings_46 rfl ?_
  refine ar_getR (pc := 47) gf_Or_21 d_Or_nameThings_47 (by first | rfl | exact sh_wheel (by omega) | exact sh_milk (by omega)) (hF _ _ _ rfl) ?_
  refine ar_bipush (pc := 50) d_Or_nameThings_50 (by decide) ?_
  refine ar_aload_n (pc := 52) d_Or_nameThings_52 rfl ?_
  refine ar_getIv (pc := 53) gf_Or_60 d_Or_nameThings_53 (by first | rfl | exact sh_wheel (by omega) | exact sh_milk (by omega)) (show _ = mm_I G (300 + w) 8 by rw [nt_w_b, nt_w_b, nt_w_b, nt_w_b]) (fun r_53 => ?_)
  refine ar_iast (pc := 56) d_Or_nameThings_56 rfl (12) (by omega) (by omega) ⟨by omega, by omega⟩ ?_
  refine ar_aload_n (pc := 57) d_Or_nameThings_57 rfl ?_
  refine ar_getR (pc := 58) gf_Or_21 d_Or_nameThings_58 (by first | rfl | exact sh_wheel (by omega) | exact sh_milk (by omega)) (hF _ _ _ rfl) ?_
  refine ar_bipush (pc := 61) d_Or_nameThings_61 (by decide) ?_
  refine ar_aload_n (pc := 63) d_Or_nameThings_63 rfl ?_
  refine ar_getIv (pc := 64) gf_Or_63 d_Or_nameThings_64 (by first | rfl | exact sh_wheel (by omega) | exact sh_milk (by omega)) (show _ = mm_I G (300 + w) 9 by rw [nt_w_b, nt_w_b, nt_w_b, nt_w_b, nt_w_b]) (fun r_64 => ?_)
  refine ar_iast (pc := 67) d_Or_nameThings_67 rfl (15) (by omega) (by omega) ⟨by omega, by omega⟩ ?_
  refine ar_aload_n (pc := 68) d_Or_nameThings_68 rfl ?_
  refine ar_getR (pc := 69) gf_Or_21 d_Or_nameThings_69 (by first | rfl | exact sh_wheel (by omega) | exact sh_milk (by omega)) (hF _ _ _ rfl) ?_
  refine ar_bipush (pc := 72) d_Or_nameThings_72 (by decide) ?_
  refine ar_aload_n (pc := 74) d_Or_nameThings_74 rfl ?_
  refine ar_getIv (pc := 75) gf_Or_66 d_Or_nameThings_75 (by first | rfl | exact sh_wheel (by omega) | exact sh_milk (by omega)) (show _ = mm_I G (300 + w) 4 by rw [nt_w_b, nt_w_b, nt_w_b, nt_w_b, nt_w_b, nt_w_b]) (fun r_75 => ?_)
  refine ar_iast (pc := 78) d_Or_nameThings_78 rfl (16) (by omega) (by omega) ⟨by omega, by omega⟩ ?_
  refine ar_ret (pc := 79) d_Or_nameThings_79 rfl ?_
  rotate_left
  -- leaves: ret 79
  · exact ⟨rfl, rfl⟩
