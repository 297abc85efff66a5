/-! ===== plan of the reference ===== -/
theorem sm_pt {f g : Nat → Int} {k : Nat} (h : ∀ j, j ≠ k → f j = g j) : ∀ n, k < n → sm_f g n = sm_f f n + (g k - f k) := by
  intro n
  induction n with
  | zero => intro hk; omega
  | succ n ih =>
    intro hk
    rw [sm_f, sm_f]
    by_cases e : k = n
    · subst e
      rw [sm_cg (f := f) (g := g) k (fun j hj => h j (by omega))]; omega
    · rw [ih (by omega), h n (by omega)]; omega
def pg_F (G G1 : mm_T) (su : Nat → Nat → Int) (sh : Nat → Int) (i : Nat) : Prop := (mm_R G1 = mm_R G ∧ mm_J G1 = mm_J G ∧ mm_A G1 = mm_A G) ∧ (∀ b j, ¬ (b = 60 ∧ j = 54) → b ≠ 95 → mm_I G1 b j = mm_I G b j) ∧ ∀ k, k < gy_c su sh i → k < 10 → mm_I G1 95 k = (gy_w su sh i k : Nat)
def mpl_I (G : mm_T) (wc : Nat) : Prop := fx_R G ∧ (mm_I G 60 4 = wc ∧ wc ≤ 40) ∧ mww_I G wc
theorem lp_Mo_plan1 (X : gx_T) (d : Nat) {G : mm_T} {wc : Nat} {su : Nat → Nat → Int} {sh : Nat → Int} {Q : Option av_T → mm_T → Prop} (H : mpl_I G wc) (hsu : su = su_m G) (hsh : sh = mm_I G 67)
    (kk : ∀ G2, pg_F G G2 su sh wc → aw_W X mt_Mo_plan (d + 4) 65 [(0, some (av_r (some 60))), (1, some (av_i (gy_c su sh wc : Nat)))] [] G2 0 0 Q) : ∀ m i G1, i + m = wc → pg_F G G1 su sh i → gy_c su sh i ≤ i → aw_W X mt_Mo_plan (d + 4) 9 [(0, some (av_r (some 60))), (1, some (av_i (gy_c su sh i : Nat))), (2, some (av_i (i : Int)))] [] G1 0 0 Q := by
  obtain ⟨hFG, ⟨hw1, hw2⟩, HW⟩ := H
  intro m
  induction m with
  | zero =>
    intro i G1 hi h hc
    have hi : i = wc := by omega
    subst hi
    have e4 : mm_I G1 60 4 = (i : Int) := by rw [h.2.1 _ _ (by omega) (by omega)]; exact hw1
    have k1 := kk G1 h
    clear kk
    refine ar_iload_n (pc := 9) d_Mo_plan_9 rfl ?_
    refine ar_aload_n (pc := 10) d_Mo_plan_10 rfl ?_
    refine ar_getIv (pc := 11) gf_Mo_165 d_Mo_plan_11 (by first | rfl | exact sh_wheel (by omega) | exact sh_milk (by omega)) e4 (fun r_11 => ?_)
    refine ar_icmp_ge (pc := 14) 65 d_Mo_plan_14 (by decide) ⟨by omega, by omega⟩ ⟨by omega, by omega⟩ (fun h_14 => ?_) (fun h_14 => by exfalso; omega)
    rotate_left
    -- leaves: stop 65
    · exact ar_loc k1 ⟨rfl, rfl, trivial⟩
  | succ m ih =>
    intro i G1 hi h hc
    obtain ⟨h1, h2, h3⟩ := h
    have hF : fx_R G1 := fun a k b z => by rw [h1.1]; exact hFG a k b z
    have e4 : mm_I G1 60 4 = (wc : Int) := by rw [h2 _ _ (by omega) (by omega)]; exact hw1
    have e67 : mm_I G1 67 i = sh i := by rw [h2 _ _ (by omega) (by omega), hsh]
    have hwi := HW.1 i (by omega)
    have hr : -1 ≤ sh i ∧ sh i ≤ 23 := by rw [hsh]; exact hwi.2.2
    have i1 := fun G2 => ih (i + 1) G2 (by omega)
    rw [gy_c] at i1
    unfold pg_F at i1
    rw [gy_c, gy_w] at i1
    clear ih kk
    by_cases hs1 : sh i = -1
    · rw [if_neg (fun z => z.1 hs1), if_neg (fun z => z.1 hs1)] at i1
      have g := i1 G1 ⟨h1, h2, h3⟩ (by omega)
      clear i1
      refine ar_iload_n (pc := 9) d_Mo_plan_9 rfl ?_
      refine ar_aload_n (pc := 10) d_Mo_plan_10 rfl ?_
      refine ar_getIv (pc := 11) gf_Mo_165 d_Mo_plan_11 (by first | rfl | exact sh_wheel (by omega) | exact sh_milk (by omega)) e4 (fun r_11 => ?_)
      refine ar_icmp_ge (pc := 14) 65 d_Mo_plan_14 (by decide) ⟨by omega, by omega⟩ ⟨by omega, by omega⟩ (fun h_14 => by exfalso; omega) (fun h_14 => ?_)
      refine ar_aload_n (pc := 17) d_Mo_plan_17 rfl ?_
      refine ar_getR (pc := 18) gf_Mo_28 d_Mo_plan_18 (by first | rfl | exact sh_wheel (by omega) | exact sh_milk (by omega)) (hF _ _ _ rfl) ?_
      refine ar_iload_n (pc := 21) d_Mo_plan_21 rfl ?_
      refine ar_ialdv (pc := 22) d_Mo_plan_22 rfl (i) (by omega) (by omega) e67 (fun r_22 => ?_)
      refine ar_if_lt (pc := 23) 59 d_Mo_plan_23 (by decide) ⟨by omega, by omega⟩ (fun h_23 => ?_) (fun h_23 => by exfalso; omega)
      refine ar_iinc (pc := 59) d_Mo_plan_59 rfl rfl (by decide) ?_
      refine ar_goto (pc := 62) 9 d_Mo_plan_62 (by decide) ?_
      rotate_left
      -- leaves: stop 9
      · exact ar_loc g ⟨rfl, rfl, li_i rfl (by omega), trivial⟩
    · obtain ⟨hh, ehh⟩ : ∃ hh : Nat, sh i = hh := ⟨(sh i).toNat, by omega⟩
      have hh24 : hh < 24 := by omega
      have ef : ∀ b, b ≠ 60 → b ≠ 95 → mm_I G1 b = mm_I G b := fun b b1 b2 => funext fun j => h2 b j (by omega) b2
      have e60 : mm_I G1 60 0 = mm_I G 60 0 := h2 _ _ (by omega) (by omega)
      have c34 := cm_Mo_doesSuit X (d + 2) G1 (w := (i : Int)) (s := (hh : Int)) hF ⟨by omega, by omega⟩ ⟨by omega, by omega⟩ (by rw [Int.toNat_natCast, ef 66 (by omega) (by omega)]; exact hwi.1) (by rw [Int.toNat_natCast, e60, ef 71 (by omega) (by omega)]; exact hwi.2.1) (by rw [ef 91 (by omega) (by omega)]; exact HW.2)
      rw [Int.toNat_natCast, Int.toNat_natCast, ef 91 (by omega) (by omega), ef 92 (by omega) (by omega), ef 93 (by omega) (by omega), ef 94 (by omega) (by omega), ef 66 (by omega) (by omega), ef 71 (by omega) (by omega), ef 61 (by omega) (by omega), e60] at c34
      change aw_M X (d + 3) mt_Mo_doesSuit [av_r (some 60), av_i (i : Int), av_i (hh : Int)] G1 0 0 (fun r G' => r = some (av_i (su_m G i hh)) ∧ G' = G1) at c34
      rw [← hsu] at c34
      have s01 : su i hh = 0 ∨ su i hh = 1 := by rw [hsu]; exact su_m01 G i hh
      rw [show (sh i).toNat = hh by omega] at i1
      rw [ehh] at e67
      by_cases hs2 : su i hh = 1
      · rw [if_neg (fun z => z.2 hs2), if_neg (fun z => z.2 hs2)] at i1
        have g := i1 G1 ⟨h1, h2, h3⟩ (by omega)
        clear i1
        rw [hs2] at c34
        refine ar_iload_n (pc := 9) d_Mo_plan_9 rfl ?_
        refine ar_aload_n (pc := 10) d_Mo_plan_10 rfl ?_
        refine ar_getIv (pc := 11) gf_Mo_165 d_Mo_plan_11 (by first | rfl | exact sh_wheel (by omega) | exact sh_milk (by omega)) e4 (fun r_11 => ?_)
        refine ar_icmp_ge (pc := 14) 65 d_Mo_plan_14 (by decide) ⟨by omega, by omega⟩ ⟨by omega, by omega⟩ (fun h_14 => by exfalso; omega) (fun h_14 => ?_)
        refine ar_aload_n (pc := 17) d_Mo_plan_17 rfl ?_
        refine ar_getR (pc := 18) gf_Mo_28 d_Mo_plan_18 (by first | rfl | exact sh_wheel (by omega) | exact sh_milk (by omega)) (hF _ _ _ rfl) ?_
        refine ar_iload_n (pc := 21) d_Mo_plan_21 rfl ?_
        refine ar_ialdv (pc := 22) d_Mo_plan_22 rfl (i) (by omega) (by omega) e67 (fun r_22 => ?_)
        refine ar_if_lt (pc := 23) 59 d_Mo_plan_23 (by decide) ⟨by omega, by omega⟩ (fun h_23 => by exfalso; omega) (fun h_23 => ?_)
        refine ar_aload_n (pc := 26) d_Mo_plan_26 rfl ?_
        refine ar_iload_n (pc := 27) d_Mo_plan_27 rfl ?_
        refine ar_aload_n (pc := 28) d_Mo_plan_28 rfl ?_
        refine ar_getR (pc := 29) gf_Mo_28 d_Mo_plan_29 (by first | rfl | exact sh_wheel (by omega) | exact sh_milk (by omega)) (hF _ _ _ rfl) ?_
        refine ar_iload_n (pc := 32) d_Mo_plan_32 rfl ?_
        refine ar_ialdv (pc := 33) d_Mo_plan_33 rfl (i) (by omega) (by omega) e67 (fun r_33 => ?_)
        refine ac_virt (pc := 34) (N := mt_Mo_doesSuit) _ _ mv_Mo_doesSuit ml_Mo_351 ck_12 d_Mo_plan_34 c34 (by first | rfl | exact sh_wheel (by omega) | exact sh_milk (by omega)) rfl rfl (Nat.le_of_ble_eq_true rfl) (Nat.le_of_eq (Nat.zero_add _)) (Nat.le_of_eq (Nat.zero_add _)) (fun r_34 G_34 h_34 => ?_)
        obtain ⟨rfl, e_34⟩ := h_34
        subst G_34
        refine ar_if_eq (pc := 37) 43 d_Mo_plan_37 (by decide) ⟨by omega, by omega⟩ (fun h_37 => by exfalso; omega) (fun h_37 => ?_)
        refine ar_goto (pc := 40) 59 d_Mo_plan_40 (by decide) ?_
        refine ar_iinc (pc := 59) d_Mo_plan_59 rfl rfl (by decide) ?_
        refine ar_goto (pc := 62) 9 d_Mo_plan_62 (by decide) ?_
        rotate_left
        -- leaves: stop 9
        · exact ar_loc g ⟨rfl, rfl, li_i rfl (by omega), trivial⟩
      · rw [if_pos ⟨hs1, hs2⟩, if_pos ⟨hs1, hs2⟩] at i1
        rw [show su i hh = 0 by omega] at c34
        by_cases h10 : gy_c su sh i < 10
        · have g := i1 (ms_I G1 95 (gy_c su sh i) (i : Int)) ⟨h1, fun b j b1 b2 => by rw [mi_n (by omega)]; exact h2 b j b1 b2, fun k hk hk10 => by
            unfold upn
            by_cases e : k = gy_c su sh i
            · rw [if_pos e, e, mi_s]
            · rw [if_neg e, mi_n (by omega)]; exact h3 k (by omega) hk10⟩ (by omega)
          clear i1
          generalize gy_c su sh i = c at *
          refine ar_iload_n (pc := 9) d_Mo_plan_9 rfl ?_
          refine ar_aload_n (pc := 10) d_Mo_plan_10 rfl ?_
          refine ar_getIv (pc := 11) gf_Mo_165 d_Mo_plan_11 (by first | rfl | exact sh_wheel (by omega) | exact sh_milk (by omega)) e4 (fun r_11 => ?_)
          refine ar_icmp_ge (pc := 14) 65 d_Mo_plan_14 (by decide) ⟨by omega, by omega⟩ ⟨by omega, by omega⟩ (fun h_14 => by exfalso; omega) (fun h_14 => ?_)
          refine ar_aload_n (pc := 17) d_Mo_plan_17 rfl ?_
          refine ar_getR (pc := 18) gf_Mo_28 d_Mo_plan_18 (by first | rfl | exact sh_wheel (by omega) | exact sh_milk (by omega)) (hF _ _ _ rfl) ?_
          refine ar_iload_n (pc := 21) d_Mo_plan_21 rfl ?_
          refine ar_ialdv (pc := 22) d_Mo_plan_22 rfl (i) (by omega) (by omega) e67 (fun r_22 => ?_)
          refine ar_if_lt (pc := 23) 59 d_Mo_plan_23 (by decide) ⟨by omega, by omega⟩ (fun h_23 => by exfalso; omega) (fun h_23 => ?_)
          refine ar_aload_n (pc := 26) d_Mo_plan_26 rfl ?_
          refine ar_iload_n (pc := 27) d_Mo_plan_27 rfl ?_
          refine ar_aload_n (pc := 28) d_Mo_plan_28 rfl ?_
          refine ar_getR (pc := 29) gf_Mo_28 d_Mo_plan_29 (by first | rfl | exact sh_wheel (by omega) | exact sh_milk (by omega)) (hF _ _ _ rfl) ?_
          refine ar_iload_n (pc := 32) d_Mo_plan_32 rfl ?_
          refine ar_ialdv (pc := 33) d_Mo_plan_33 rfl (i) (by omega) (by omega) e67 (fun r_33 => ?_)
          refine ac_virt (pc := 34) (N := mt_Mo_doesSuit) _ _ mv_Mo_doesSuit ml_Mo_351 ck_12 d_Mo_plan_34 c34 (by first | rfl | exact sh_wheel (by omega) | exact sh_milk (by omega)) rfl rfl (Nat.le_of_ble_eq_true rfl) (Nat.le_of_eq (Nat.zero_add _)) (Nat.le_of_eq (Nat.zero_add _)) (fun r_34 G_34 h_34 => ?_)
          obtain ⟨rfl, e_34⟩ := h_34
          subst G_34
          refine ar_if_eq (pc := 37) 43 d_Mo_plan_37 (by decide) ⟨by omega, by omega⟩ (fun h_37 => ?_) (fun h_37 => by exfalso; omega)
          refine ar_iload_n (pc := 43) d_Mo_plan_43 rfl ?_
          refine ar_bipush (pc := 44) d_Mo_plan_44 (by decide) ?_
          refine ar_icmp_ge (pc := 46) 56 d_Mo_plan_46 (by decide) ⟨by omega, by omega⟩ ⟨by omega, by omega⟩ (fun h_46 => by exfalso; omega) (fun h_46 => ?_)
          refine ar_aload_n (pc := 49) d_Mo_plan_49 rfl ?_
          refine ar_getR (pc := 50) gf_Mo_117 d_Mo_plan_50 (by first | rfl | exact sh_wheel (by omega) | exact sh_milk (by omega)) (hF _ _ _ rfl) ?_
          refine ar_iload_n (pc := 53) d_Mo_plan_53 rfl ?_
          refine ar_iload_n (pc := 54) d_Mo_plan_54 rfl ?_
          refine ar_iast (pc := 55) d_Mo_plan_55 rfl (c) (by omega) (by omega) ⟨by omega, by omega⟩ ?_
          refine ar_iinc (pc := 56) d_Mo_plan_56 rfl rfl (by decide) ?_
          refine ar_iinc (pc := 59) d_Mo_plan_59 rfl rfl (by decide) ?_
          refine ar_goto (pc := 62) 9 d_Mo_plan_62 (by decide) ?_
          rotate_left
          -- leaves: stop 9
          · exact ar_loc g ⟨rfl, li_i rfl (by omega), li_i rfl (by omega), trivial⟩
        · have g := i1 G1 ⟨h1, h2, fun k hk hk10 => by
            unfold upn
            rw [if_neg (by omega)]; exact h3 k (by omega) hk10⟩ (by omega)
          clear i1
          generalize gy_c su sh i = c at *
          refine ar_iload_n (pc := 9) d_Mo_plan_9 rfl ?_
          refine ar_aload_n (pc := 10) d_Mo_plan_10 rfl ?_
          refine ar_getIv (pc := 11) gf_Mo_165 d_Mo_plan_11 (by first | rfl | exact sh_wheel (by omega) | exact sh_milk (by omega)) e4 (fun r_11 => ?_)
          refine ar_icmp_ge (pc := 14) 65 d_Mo_plan_14 (by decide) ⟨by omega, by omega⟩ ⟨by omega, by omega⟩ (fun h_14 => by exfalso; omega) (fun h_14 => ?_)
          refine ar_aload_n (pc := 17) d_Mo_plan_17 rfl ?_
          refine ar_getR (pc := 18) gf_Mo_28 d_Mo_plan_18 (by first | rfl | exact sh_wheel (by omega) | exact sh_milk (by omega)) (hF _ _ _ rfl) ?_
          refine ar_iload_n (pc := 21) d_Mo_plan_21 rfl ?_
          refine ar_ialdv (pc := 22) d_Mo_plan_22 rfl (i) (by omega) (by omega) e67 (fun r_22 => ?_)
          refine ar_if_lt (pc := 23) 59 d_Mo_plan_23 (by decide) ⟨by omega, by omega⟩ (fun h_23 => by exfalso; omega) (fun h_23 => ?_)
          refine ar_aload_n (pc := 26) d_Mo_plan_26 rfl ?_
          refine ar_iload_n (pc := 27) d_Mo_plan_27 rfl ?_
          refine ar_aload_n (pc := 28) d_Mo_plan_28 rfl ?_
          refine ar_getR (pc := 29) gf_Mo_28 d_Mo_plan_29 (by first | rfl | exact sh_wheel (by omega) | exact sh_milk (by omega)) (hF _ _ _ rfl) ?_
          refine ar_iload_n (pc := 32) d_Mo_plan_32 rfl ?_
          refine ar_ialdv (pc := 33) d_Mo_plan_33 rfl (i) (by omega) (by omega) e67 (fun r_33 => ?_)
          refine ac_virt (pc := 34) (N := mt_Mo_doesSuit) _ _ mv_Mo_doesSuit ml_Mo_351 ck_12 d_Mo_plan_34 c34 (by first | rfl | exact sh_wheel (by omega) | exact sh_milk (by omega)) rfl rfl (Nat.le_of_ble_eq_true rfl) (Nat.le_of_eq (Nat.zero_add _)) (Nat.le_of_eq (Nat.zero_add _)) (fun r_34 G_34 h_34 => ?_)
          obtain ⟨rfl, e_34⟩ := h_34
          subst G_34
          refine ar_if_eq (pc := 37) 43 d_Mo_plan_37 (by decide) ⟨by omega, by omega⟩ (fun h_37 => ?_) (fun h_37 => by exfalso; omega)
          refine ar_iload_n (pc := 43) d_Mo_plan_43 rfl ?_
          refine ar_bipush (pc := 44) d_Mo_plan_44 (by decide) ?_
          refine ar_icmp_ge (pc := 46) 56 d_Mo_plan_46 (by decide) ⟨by omega, by omega⟩ ⟨by omega, by omega⟩ (fun h_46 => ?_) (fun h_46 => by exfalso; omega)
          refine ar_iinc (pc := 56) d_Mo_plan_56 rfl rfl (by decide) ?_
          refine ar_iinc (pc := 59) d_Mo_plan_59 rfl rfl (by decide) ?_
          refine ar_goto (pc := 62) 9 d_Mo_plan_62 (by decide) ?_
          rotate_left
          -- leaves: stop 9
          · exact ar_loc g ⟨rfl, li_i rfl (by omega), li_i rfl (by omega), trivial⟩
/-- while the plan is told: those not in x have their shelf -/
def tp_F (G G1 : mm_T) (gw b : Nat → Nat) (n x : Nat) : Prop := (mm_R G1 = mm_R G ∧ mm_J G1 = mm_J G ∧ mm_A G1 = mm_A G) ∧ (∀ c j, c ≠ 96 → c ≠ 97 → mm_I G1 c j = mm_I G c j) ∧ ∀ k, k < n → Nat.testBit x k = false → mm_I G1 96 k = (gw k : Nat) ∧ mm_I G1 97 k = (b k : Nat)
def wx_v (h b : Nat → Nat) (x n : Nat) : Int := sm_f (fun k => if Nat.testBit x k = false then wy_v (h k) (b k) else 0) n
/-- within a shelf: of those in p the first k have it -/
def bk_v (b : Nat → Nat) (p s k : Nat) : Nat → Nat := fun j => if j < k ∧ Nat.testBit p j = true then s else b j
theorem rmk_b (x p k j : Nat) : Nat.testBit (rmv x (p % 2 ^ k)) j = (Nat.testBit x j && !(decide (j < k) && Nat.testBit p j)) := by rw [rmv_b, Nat.testBit_mod_two_pow]
theorem rmk_n {x p k : Nat} (h : Nat.testBit p k = false) : rmv x (p % 2 ^ (k + 1)) = rmv x (p % 2 ^ k) := by
  apply Nat.eq_of_testBit_eq
  intro j
  rw [rmk_b, rmk_b]
  by_cases e : j = k
  · rw [e, h, Bool.and_false, Bool.and_false]
  · rw [show decide (j < k + 1) = decide (j < k) from decide_eq_decide.mpr (by omega)]
theorem bk_n {b : Nat → Nat} {p s k : Nat} (h : Nat.testBit p k = false) : bk_v b p s (k + 1) = bk_v b p s k := by
  funext j
  unfold bk_v
  by_cases e : j = k
  · rw [e, if_neg (fun z => by rw [h] at z; exact absurd z.2 (by decide)), if_neg (fun z => by omega)]
  · by_cases e2 : j < k ∧ Nat.testBit p j = true
    · rw [if_pos e2, if_pos ⟨by omega, e2.2⟩]
    · rw [if_neg e2, if_neg (fun z => e2 ⟨by omega, z.2⟩)]
theorem bk_o {b : Nat → Nat} {p s k j : Nat} (h : j ≠ k) : bk_v b p s (k + 1) j = bk_v b p s k j := by
  unfold bk_v
  by_cases e2 : j < k ∧ Nat.testBit p j = true
  · rw [if_pos e2, if_pos ⟨by omega, e2.2⟩]
  · rw [if_neg e2, if_neg (fun z => e2 ⟨by omega, z.2⟩)]
theorem rmk_o {x p k j : Nat} (h : j ≠ k) : Nat.testBit (rmv x (p % 2 ^ (k + 1))) j = Nat.testBit (rmv x (p % 2 ^ k)) j := by
  rw [rmk_b, rmk_b, show decide (j < k + 1) = decide (j < k) from decide_eq_decide.mpr (by omega)]
theorem wx_s {h b : Nat → Nat} {x p s k n : Nat} (hk : k < n) (hp : Nat.testBit p k = true) (hx : Nat.testBit x k = true) : wx_v h (bk_v b p s (k + 1)) (rmv x (p % 2 ^ (k + 1))) n = wx_v h (bk_v b p s k) (rmv x (p % 2 ^ k)) n + wy_v (h k) s := by
  unfold wx_v
  rw [sm_pt (f := fun j => if Nat.testBit (rmv x (p % 2 ^ k)) j = false then wy_v (h j) (bk_v b p s k j) else 0) (g := fun j => if Nat.testBit (rmv x (p % 2 ^ (k + 1))) j = false then wy_v (h j) (bk_v b p s (k + 1) j) else 0) (k := k) (fun j hj => by show (if _ then _ else _) = (if _ then _ else _); rw [rmk_o hj, bk_o hj]) n hk]
  show _ + ((if _ then _ else _) - (if _ then _ else _)) = _
  have e1 : Nat.testBit (rmv x (p % 2 ^ (k + 1))) k = false := by rw [rmk_b, hp, decide_eq_true (show k < k + 1 by omega)]; simp
  have e2 : Nat.testBit (rmv x (p % 2 ^ k)) k = true := by rw [rmk_b, hx, decide_eq_false (show ¬ k < k by omega)]; rfl
  have e3 : bk_v b p s (k + 1) k = s := by unfold bk_v; rw [if_pos ⟨by omega, hp⟩]
  rw [if_pos e1, if_neg (by rw [e2]; decide), e3]; omega
theorem lp_Mo_plan3 (X : gx_T) (d : Nat) {G : mm_T} {wc n x p s : Nat} {gw h b : Nat → Nat} {Q : Option av_T → mm_T → Prop} (H : mgo_I G wc n gw) (hh : ∀ k, k < n → mm_I G 67 (gw k) = (h k : Nat)) (hp : p < 2 ^ n) (hs : s < 24) (hsub : p &&& x = p)
    (kk : ∀ G2, tp_F G G2 gw (bk_v b p s n) n (rmv x p) → aw_W X mt_Mo_plan (d + 4) 226 [(0, some (av_r (some 60))), (1, some (av_i (n : Int))), (2, some (av_i (wx_v h (bk_v b p s n) (rmv x p) n))), (3, some (av_i (x : Int))), (4, some (av_i (s : Int))), (5, some (av_i (p : Int)))] [] G2 0 0 Q) : ∀ m k G1, k + m = n → tp_F G G1 gw (bk_v b p s k) n (rmv x (p % 2 ^ k)) → aw_W X mt_Mo_plan (d + 4) 130 [(0, some (av_r (some 60))), (1, some (av_i (n : Int))), (2, some (av_i (wx_v h (bk_v b p s k) (rmv x (p % 2 ^ k)) n))), (3, some (av_i (x : Int))), (4, some (av_i (s : Int))), (5, some (av_i (p : Int))), (6, some (av_i (k : Int)))] [] G1 0 0 Q := by
  have psub := sb_bits.mp hsub
  obtain ⟨hFG, ⟨hw1, hw2⟩, ⟨hg, hn⟩, hgo⟩ := H
  have hp10 : p < 1024 := Nat.lt_of_lt_of_le hp (p2_10 hn)
  intro m
  induction m with
  | zero =>
    intro k G1 hk h1
    have hk : k = n := by omega
    subst hk
    rw [Nat.mod_eq_of_lt hp] at h1 ⊢
    have k1 := kk G1 h1
    clear kk
    refine ar_iload (pc := 130) d_Mo_plan_130 rfl ?_
    refine ar_iload_n (pc := 132) d_Mo_plan_132 rfl ?_
    refine ar_icmp_ge (pc := 133) 226 d_Mo_plan_133 (by decide) ⟨by omega, by omega⟩ ⟨by omega, by omega⟩ (fun h_133 => ?_) (fun h_133 => by exfalso; omega)
    rotate_left
    -- leaves: stop 226
    · exact ar_loc k1 ⟨rfl, rfl, rfl, rfl, rfl, rfl, trivial⟩
  | succ m ih =>
    intro k G1 hk h1
    have c141 := cm_Mo_isIn X (d + 2) G1 hp10 (show k < 10 by omega)
    have i1 := fun G2 => ih (k + 1) G2 (by omega)
    clear ih kk
    by_cases hb : Nat.testBit p k = true
    · have e1 : tb_i p k = 1 := by unfold tb_i; rw [if_pos hb]
      rw [e1] at c141
      rw [wx_s (by omega) hb (psub k hb)] at i1
      obtain ⟨h1a, h1b, h1c⟩ := h1
      have hF : fx_R G1 := fun a k b z => by rw [h1a.1]; exact hFG a k b z
      obtain ⟨g1, g2, g3, g4⟩ := hgo k (by omega)
      have g5 := hh k (by omega)
      have e95 : mm_I G1 95 k = (gw k : Nat) := by rw [h1b _ _ (by omega) (by omega)]; exact g1
      have e67 : mm_I G1 67 (gw k) = (h k : Nat) := by rw [h1b _ _ (by omega) (by omega)]; exact g5
      have hk24 : h k < 24 := by omega
      have hgw : gw k < 40 := by omega
      have g := i1 (ms_I (ms_I G1 96 k (gw k : Nat)) 97 k (s : Int)) ⟨h1a, fun c j c1 c2 => by rw [mi_n (by omega), mi_n (by omega)]; exact h1b c j c1 c2, fun j hj hjb => by
        by_cases e : j = k
        · subst e
          have e3 : bk_v b p s (j + 1) j = s := by unfold bk_v; rw [if_pos ⟨by omega, hb⟩]
          rw [mi_s, mi_n (by omega), mi_s, e3]; exact ⟨rfl, rfl⟩
        · rw [mi_n (by omega), mi_n (by omega), mi_n (by omega), mi_n (by omega), bk_o e]
          rw [rmk_o e] at hjb
          exact h1c j hj hjb⟩
      clear i1 h1c hgo
      generalize wx_v h (bk_v b p s k) (rmv x (p % 2 ^ k)) n = V at *
      have c200 := cm_Mo_far X (d + 2) (ms_I (ms_I G1 96 k (gw k : Nat)) 97 k (s : Int)) (a := (h k : Int) / 6) (b := (s : Int) / 6) ⟨by omega, by omega⟩ ⟨by omega, by omega⟩
      have c214 := cm_Mo_far X (d + 2) (ms_I (ms_I G1 96 k (gw k : Nat)) 97 k (s : Int)) (a := (h k : Int) % 6) (b := (s : Int) % 6) ⟨by omega, by omega⟩ ⟨by omega, by omega⟩
      have ww := wy_w (h k) s
      have e95b : mm_I (ms_I (ms_I G1 96 k (gw k : Nat)) 97 k (s : Int)) 95 k = (gw k : Nat) := by rw [mi_n (by omega), mi_n (by omega)]; exact e95
      have e67b : mm_I (ms_I (ms_I G1 96 k (gw k : Nat)) 97 k (s : Int)) 67 (gw k) = (h k : Nat) := by rw [mi_n (by omega), mi_n (by omega)]; exact e67
      generalize (if (h k : Int) / 6 < (s : Int) / 6 then (s : Int) / 6 - (h k : Int) / 6 else (h k : Int) / 6 - (s : Int) / 6) = F1 at *
      generalize (if (h k : Int) % 6 < (s : Int) % 6 then (s : Int) % 6 - (h k : Int) % 6 else (h k : Int) % 6 - (s : Int) % 6) = F2 at *
      generalize h k = hk0 at *
      generalize gw k = gk at *
      refine ar_iload (pc := 130) d_Mo_plan_130 rfl ?_
      refine ar_iload_n (pc := 132) d_Mo_plan_132 rfl ?_
      refine ar_icmp_ge (pc := 133) 226 d_Mo_plan_133 (by decide) ⟨by omega, by omega⟩ ⟨by omega, by omega⟩ (fun h_133 => by exfalso; omega) (fun h_133 => ?_)
      refine ar_aload_n (pc := 136) d_Mo_plan_136 rfl ?_
      refine ar_iload (pc := 137) d_Mo_plan_137 rfl ?_
      refine ar_iload (pc := 139) d_Mo_plan_139 rfl ?_
      refine ac_virt (pc := 141) (N := mt_Mo_isIn) _ _ mv_Mo_isIn ml_Mo_366 ck_12 d_Mo_plan_141 c141 (by first | rfl | exact sh_wheel (by omega) | exact sh_milk (by omega)) rfl rfl (Nat.le_of_ble_eq_true rfl) (Nat.le_of_eq (Nat.zero_add _)) (Nat.le_of_eq (Nat.zero_add _)) (fun r_141 G_141 h_141 => ?_)
      obtain ⟨rfl, e_141⟩ := h_141
      subst G_141
      refine ar_if_ne (pc := 144) 150 d_Mo_plan_144 (by decide) ⟨by omega, by omega⟩ (fun h_144 => ?_) (fun h_144 => by exfalso; omega)
      refine ar_aload_n (pc := 150) d_Mo_plan_150 rfl ?_
      refine ar_getR (pc := 151) gf_Mo_120 d_Mo_plan_151 (by first | rfl | exact sh_wheel (by omega) | exact sh_milk (by omega)) (hF _ _ _ rfl) ?_
      refine ar_iload (pc := 154) d_Mo_plan_154 rfl ?_
      refine ar_aload_n (pc := 156) d_Mo_plan_156 rfl ?_
      refine ar_getR (pc := 157) gf_Mo_117 d_Mo_plan_157 (by first | rfl | exact sh_wheel (by omega) | exact sh_milk (by omega)) (hF _ _ _ rfl) ?_
      refine ar_iload (pc := 160) d_Mo_plan_160 rfl ?_
      refine ar_ialdv (pc := 162) d_Mo_plan_162 rfl (k) (by omega) (by omega) e95 (fun r_162 => ?_)
      refine ar_iast (pc := 163) d_Mo_plan_163 rfl (k) (by omega) (by omega) ⟨by omega, by omega⟩ ?_
      refine ar_aload_n (pc := 164) d_Mo_plan_164 rfl ?_
      refine ar_getR (pc := 165) gf_Mo_123 d_Mo_plan_165 (by first | rfl | exact sh_wheel (by omega) | exact sh_milk (by omega)) (hF _ _ _ rfl) ?_
      refine ar_iload (pc := 168) d_Mo_plan_168 rfl ?_
      refine ar_iload (pc := 170) d_Mo_plan_170 rfl ?_
      refine ar_iast (pc := 172) d_Mo_plan_172 rfl (k) (by omega) (by omega) ⟨by omega, by omega⟩ ?_
      refine ar_aload_n (pc := 173) d_Mo_plan_173 rfl ?_
      refine ar_getR (pc := 174) gf_Mo_28 d_Mo_plan_174 (by first | rfl | exact sh_wheel (by omega) | exact sh_milk (by omega)) (hF _ _ _ rfl) ?_
      refine ar_aload_n (pc := 177) d_Mo_plan_177 rfl ?_
      refine ar_getR (pc := 178) gf_Mo_117 d_Mo_plan_178 (by first | rfl | exact sh_wheel (by omega) | exact sh_milk (by omega)) (hF _ _ _ rfl) ?_
      refine ar_iload (pc := 181) d_Mo_plan_181 rfl ?_
      refine ar_ialdv (pc := 183) d_Mo_plan_183 rfl (k) (by omega) (by omega) e95b (fun r_183 => ?_)
      refine ar_ialdv (pc := 184) d_Mo_plan_184 rfl (gk) (by omega) (by omega) e67b (fun r_184 => ?_)
      refine ar_istore (pc := 185) d_Mo_plan_185 rfl (by decide) ?_
      refine ar_iload_n (pc := 187) d_Mo_plan_187 rfl ?_
      refine ar_bipush (pc := 188) d_Mo_plan_188 (by decide) ?_
      refine ar_iload (pc := 190) d_Mo_plan_190 rfl ?_
      refine ar_bipush (pc := 192) d_Mo_plan_192 (by decide) ?_
      refine ar_idivp (pc := 194) d_Mo_plan_194 (by omega) (by omega) (by omega) (by omega) ?_
      refine ar_iload (pc := 195) d_Mo_plan_195 rfl ?_
      refine ar_bipush (pc := 197) d_Mo_plan_197 (by decide) ?_
      refine ar_idivp (pc := 199) d_Mo_plan_199 (by omega) (by omega) (by omega) (by omega) ?_
      refine ac_stat (pc := 200) (N := mt_Mo_far) _ _ sv_Mo_far ml_Mo_362 d_Mo_plan_200 c200 rfl rfl (Nat.le_of_ble_eq_true rfl) (Nat.le_of_eq (Nat.zero_add _)) (Nat.le_of_eq (Nat.zero_add _)) (fun r_200 G_200 h_200 => ?_)
      obtain ⟨rfl, e_200⟩ := h_200
      subst G_200
      refine ar_imul (pc := 203) d_Mo_plan_203 ?_
      refine ar_iload (pc := 204) d_Mo_plan_204 rfl ?_
      refine ar_bipush (pc := 206) d_Mo_plan_206 (by decide) ?_
      refine ar_irem (pc := 208) d_Mo_plan_208 (by omega) (by omega) (by omega) (by omega) ?_
      refine ar_iload (pc := 209) d_Mo_plan_209 rfl ?_
      refine ar_bipush (pc := 211) d_Mo_plan_211 (by decide) ?_
      refine ar_irem (pc := 213) d_Mo_plan_213 (by omega) (by omega) (by omega) (by omega) ?_
      refine ac_stat (pc := 214) (N := mt_Mo_far) _ _ sv_Mo_far ml_Mo_362 d_Mo_plan_214 c214 rfl rfl (Nat.le_of_ble_eq_true rfl) (Nat.le_of_eq (Nat.zero_add _)) (Nat.le_of_eq (Nat.zero_add _)) (fun r_214 G_214 h_214 => ?_)
      obtain ⟨rfl, e_214⟩ := h_214
      subst G_214
      refine ar_iadd (pc := 217) d_Mo_plan_217 ?_
      refine ar_iadd (pc := 218) d_Mo_plan_218 ?_
      refine ar_istore_n (pc := 219) d_Mo_plan_219 rfl (by decide) ?_
      refine ar_iinc (pc := 220) d_Mo_plan_220 rfl rfl (by decide) ?_
      refine ar_goto (pc := 223) 130 d_Mo_plan_223 (by decide) ?_
      rotate_left
      -- leaves: stop 130
      · exact ar_loc g ⟨rfl, rfl, li_i rfl (by omega), rfl, rfl, rfl, li_i rfl (by omega), trivial⟩
    · have hb : Nat.testBit p k = false := by simpa using hb
      have e1 : tb_i p k = 0 := by unfold tb_i; rw [hb]; rfl
      rw [e1] at c141
      rw [rmk_n hb, bk_n hb] at i1
      have g := i1 G1 h1
      clear i1
      generalize wx_v h (bk_v b p s k) (rmv x (p % 2 ^ k)) n = V at *
      refine ar_iload (pc := 130) d_Mo_plan_130 rfl ?_
      refine ar_iload_n (pc := 132) d_Mo_plan_132 rfl ?_
      refine ar_icmp_ge (pc := 133) 226 d_Mo_plan_133 (by decide) ⟨by omega, by omega⟩ ⟨by omega, by omega⟩ (fun h_133 => by exfalso; omega) (fun h_133 => ?_)
      refine ar_aload_n (pc := 136) d_Mo_plan_136 rfl ?_
      refine ar_iload (pc := 137) d_Mo_plan_137 rfl ?_
      refine ar_iload (pc := 139) d_Mo_plan_139 rfl ?_
      refine ac_virt (pc := 141) (N := mt_Mo_isIn) _ _ mv_Mo_isIn ml_Mo_366 ck_12 d_Mo_plan_141 c141 (by first | rfl | exact sh_wheel (by omega) | exact sh_milk (by omega)) rfl rfl (Nat.le_of_ble_eq_true rfl) (Nat.le_of_eq (Nat.zero_add _)) (Nat.le_of_eq (Nat.zero_add _)) (fun r_141 G_141 h_141 => ?_)
      obtain ⟨rfl, e_141⟩ := h_141
      subst G_141
      refine ar_if_ne (pc := 144) 150 d_Mo_plan_144 (by decide) ⟨by omega, by omega⟩ (fun h_144 => by exfalso; omega) (fun h_144 => ?_)
      refine ar_goto (pc := 147) 220 d_Mo_plan_147 (by decide) ?_
      refine ar_iinc (pc := 220) d_Mo_plan_220 rfl rfl (by decide) ?_
      refine ar_goto (pc := 223) 130 d_Mo_plan_223 (by decide) ?_
      rotate_left
      -- leaves: stop 130
      · exact ar_loc g ⟨rfl, rfl, rfl, rfl, rfl, rfl, li_i rfl (by omega), trivial⟩
