def mw_G (G : mm_T) (k : Nat) : Prop := mm_I G 67 k ≤ 23 ∧ (0 ≤ mm_I G 71 k ∧ mm_I G 71 k ≤ 100000) ∧ (0 ≤ mm_I G 68 k ∧ mm_I G 68 k ≤ 1000000) ∧ sr_I (mm_I G 69 k, mm_I G 70 k, mm_I G 72 k)
def mh_G (G : mm_T) : Prop := (∀ k, k < 24 → 0 ≤ mm_I G 61 k ∧ mm_I G 61 k ≤ 9) ∧ (∀ k, k < 4 → 0 ≤ mm_I G 62 k ∧ mm_I G 62 k ≤ 99)
theorem lp_Mo_day (X : gx_T) (d : Nat) {G : mm_T} {wc L : Nat} {nn tt : Int} {f : Nat → Int} {le : Nat → Nat} {dd : Nat → Int} {Q : Option av_T → mm_T → Prop} (hF : fx_R G) (hwc : mm_I G 60 4 = wc) (hwc2 : wc ≤ 40) (ht : 0 ≤ mm_I G 60 0 ∧ mm_I G 60 0 ≤ 100000) (hg : ∀ k, k < wc → 0 ≤ mm_I G 67 k → mw_G G k) (hsh : mh_G G) (hW : pg_W f le dd L) (hP : mp_R G f le dd L) (h26 : mm_I G 60 26 = L)
    (kk : ∀ G1, me_F G G1 f le dd L wc → aw_W X mt_Mo_days (d + 3) 60 [(0, some (av_r (some 60))), (1, some (av_i nn)), (2, some (av_i tt))] [] G1 0 0 Q) : ∀ n j G1, j + n = wc → me_F G G1 f le dd L j → aw_W X mt_Mo_days (d + 3) 32 [(0, some (av_r (some 60))), (1, some (av_i nn)), (2, some (av_i tt)), (3, some (av_i (j : Int)))] [] G1 0 0 Q := by
  intro n
  induction n with
  | zero =>
    intro j G1 hj hM
    have hj : j = wc := by omega
    subst hj
    have l0 := me_lo hM (b := 60) (by omega) (by omega) (by omega)
    have e4 : mm_I G1 60 4 = (j : Int) := by rw [l0]; exact hwc
    have k1 := kk G1 hM
    refine ar_iload_n (pc := 32) d_Mo_days_32 rfl ?_
    refine ar_aload_n (pc := 33) d_Mo_days_33 rfl ?_
    refine ar_getIv (pc := 34) gf_Mo_165 d_Mo_days_34 (by first | rfl | exact sh_wheel (by omega) | exact sh_milk (by omega)) e4 (fun r_34 => ?_)
    refine ar_icmp_ge (pc := 37) 60 d_Mo_days_37 (by decide) ⟨by omega, by omega⟩ ⟨by omega, by omega⟩ (fun h_37 => ?_) (fun h_37 => by exfalso; omega)
    rotate_left
    -- leaves: stop 60
    · exact ar_loc k1 ⟨rfl, rfl, rfl, trivial⟩
  | succ n ih =>
    intro j G1 hj hM
    have l0 := me_lo hM (b := 60) (by omega) (by omega) (by omega)
    have l67 := me_lo hM (b := 67) (by omega) (by omega) (by omega)
    have e4 : mm_I G1 60 4 = (wc : Int) := by rw [l0]; exact hwc
    have hF1 : fx_R G1 := fun a k b h => by rw [hM.1.1]; exact hF a k b h
    by_cases hl : 0 ≤ mm_I G1 67 j
    · have hl0 : 0 ≤ mm_I G 67 j := by rw [← l67]; exact hl
      obtain ⟨g4, g2, g6, gs⟩ := hg j (by omega) hl0
      have i1 := fun G2 h => ih (j + 1) G2 (by omega) (me_yes (G2 := G2) hM hl0 h)
      unfold me4 day4 at i1
      have ha := hsh.1 (mm_I G 67 j).toNat (by omega)
      have hd := hsh.2 ((mm_I G 67 j).toNat / 6) (by omega)
      have hP1 : mp_R G1 f le dd L := by
        unfold mp_R
        rw [me_lo hM (b := 81) (by omega) (by omega) (by omega), me_lo hM (b := 82) (by omega) (by omega) (by omega), me_lo hM (b := 79) (by omega) (by omega) (by omega), me_lo hM (b := 80) (by omega) (by omega) (by omega)]; exact hP
      have c51 := cm_Mo_care X d G1 (w := j) (sh := (mm_I G1 67 j).toNat) hF1 (by omega) (by omega) (by rw [l67]; omega) (by rw [l0]; exact ht) (by rw [me_rd hM (by omega) (by omega)]; exact g2) hW hP1 (by rw [l0]; exact h26) rfl (by rw [me_rd hM (by omega) (by omega), me_rd hM (by omega) (by omega), me_rd hM (by omega) (by omega)]; exact gs) (by rw [me_rd hM (by omega) (by omega)]; exact g6) (by rw [l67, me_lo hM (b := 61) (by omega) (by omega) (by omega)]; exact ha) (by rw [l67, me_lo hM (b := 62) (by omega) (by omega) (by omega)]; exact hd) rfl
      clear ih hg hsh hP hW hM l0 l67 kk
      have hF := hF1
      refine ar_iload_n (pc := 32) d_Mo_days_32 rfl ?_
      refine ar_aload_n (pc := 33) d_Mo_days_33 rfl ?_
      refine ar_getIv (pc := 34) gf_Mo_165 d_Mo_days_34 (by first | rfl | exact sh_wheel (by omega) | exact sh_milk (by omega)) e4 (fun r_34 => ?_)
      refine ar_icmp_ge (pc := 37) 60 d_Mo_days_37 (by decide) ⟨by omega, by omega⟩ ⟨by omega, by omega⟩ (fun h_37 => by exfalso; omega) (fun h_37 => ?_)
      refine ar_aload_n (pc := 40) d_Mo_days_40 rfl ?_
      refine ar_getR (pc := 41) gf_Mo_28 d_Mo_days_41 (by first | rfl | exact sh_wheel (by omega) | exact sh_milk (by omega)) (hF _ _ _ rfl) ?_
      refine ar_iload_n (pc := 44) d_Mo_days_44 rfl ?_
      refine ar_iald (pc := 45) d_Mo_days_45 rfl (j) (by omega) (by omega) (fun r_45 => ?_)
      refine ar_if_lt (pc := 46) 54 d_Mo_days_46 (by decide) ⟨by omega, by omega⟩ (fun h_46 => by exfalso; omega) (fun h_46 => ?_)
      refine ar_aload_n (pc := 49) d_Mo_days_49 rfl ?_
      refine ar_iload_n (pc := 50) d_Mo_days_50 rfl ?_
      refine ac_virt (pc := 51) (N := mt_Mo_care) _ _ mv_Mo_care ml_Mo_348 ck_12 d_Mo_days_51 c51 (by first | rfl | exact sh_wheel (by omega) | exact sh_milk (by omega)) rfl rfl (Nat.le_of_ble_eq_true rfl) (Nat.le_of_eq (Nat.zero_add _)) (Nat.le_of_eq (Nat.zero_add _)) (fun r_51 G_51 h_51 => ?_)
      obtain ⟨rfl, q51⟩ := h_51
      refine ar_iinc (pc := 54) d_Mo_days_54 rfl rfl (by decide) ?_
      refine ar_goto (pc := 57) 32 d_Mo_days_57 (by decide) ?_
      rotate_left
      -- leaves: stop 32
      · exact ar_loc (i1 _ q51) ⟨rfl, rfl, rfl, li_i rfl (by omega), trivial⟩
    · have k1 := ih (j + 1) G1 (by omega) (me_no hM (by rw [← l67]; exact hl))
      clear ih hg kk
      have hF := hF1
      refine ar_iload_n (pc := 32) d_Mo_days_32 rfl ?_
      refine ar_aload_n (pc := 33) d_Mo_days_33 rfl ?_
      refine ar_getIv (pc := 34) gf_Mo_165 d_Mo_days_34 (by first | rfl | exact sh_wheel (by omega) | exact sh_milk (by omega)) e4 (fun r_34 => ?_)
      refine ar_icmp_ge (pc := 37) 60 d_Mo_days_37 (by decide) ⟨by omega, by omega⟩ ⟨by omega, by omega⟩ (fun h_37 => by exfalso; omega) (fun h_37 => ?_)
      refine ar_aload_n (pc := 40) d_Mo_days_40 rfl ?_
      refine ar_getR (pc := 41) gf_Mo_28 d_Mo_days_41 (by first | rfl | exact sh_wheel (by omega) | exact sh_milk (by omega)) (hF _ _ _ rfl) ?_
      refine ar_iload_n (pc := 44) d_Mo_days_44 rfl ?_
      refine ar_iald (pc := 45) d_Mo_days_45 rfl (j) (by omega) (by omega) (fun r_45 => ?_)
      refine ar_if_lt (pc := 46) 54 d_Mo_days_46 (by decide) ⟨by omega, by omega⟩ (fun h_46 => ?_) (fun h_46 => by exfalso; omega)
      refine ar_iinc (pc := 54) d_Mo_days_54 rfl rfl (by decide) ?_
      refine ar_goto (pc := 57) 32 d_Mo_days_57 (by decide) ?_
      rotate_left
      -- leaves: stop 32
      · exact ar_loc k1 ⟨rfl, rfl, rfl, li_i rfl (by omega), trivial⟩
