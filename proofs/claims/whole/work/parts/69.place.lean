/-! ===== the planner: the cheapest with room, the chain ===== -/
theorem lp_cheap (X : gx_T) (d : Nat) {G1 : mm_T} {D rm : Nat → Int} (hF : fx_R G1) (hD : ∀ s, s < 24 → mm_J G1 30 s = D s) (hR : ∀ s, s < 24 → mm_I G1 29 s = rm s) : ∀ m s (bt : Int), s + m = 24 → ((bt = -1 ∧ ∀ x, x < s → ¬ (0 < rm x ∧ D x ≠ 4611686018427387904)) ∨ ∃ t : Nat, t < s ∧ bt = t ∧ 0 < rm t ∧ D t ≠ 4611686018427387904 ∧ ∀ x, x < s → 0 < rm x → D x ≠ 4611686018427387904 → D t ≤ D x) → aw_W X mt_Pl_cheapestWithRoom (d + 1) 4 [(0, some (av_r (some 24))), (1, some (av_i bt)), (2, some (av_i (s : Int)))] [] G1 0 0 (fun r G' => (∃ bt, r = some (av_i bt) ∧ ((bt = -1 ∧ ∀ x, x < 24 → ¬ (0 < rm x ∧ D x ≠ 4611686018427387904)) ∨ ∃ t : Nat, t < 24 ∧ bt = t ∧ 0 < rm t ∧ D t ≠ 4611686018427387904 ∧ ∀ x, x < 24 → 0 < rm x → D x ≠ 4611686018427387904 → D t ≤ D x)) ∧ G' = G1) := by
  intro m
  induction m with
  | zero =>
    intro s bt hs h
    have hs : s = 24 := by omega
    subst hs
    refine ar_iload_n (pc := 4) d_Pl_cheapestWithRoom_4 rfl ?_
    refine ar_bipush (pc := 5) d_Pl_cheapestWithRoom_5 (by decide) ?_
    refine ar_icmp_ge (pc := 7) 61 d_Pl_cheapestWithRoom_7 (by decide) ⟨by omega, by omega⟩ ⟨by omega, by omega⟩ (fun h_7 => ?_) (fun h_7 => by exfalso; omega)
    refine ar_iload_n (pc := 61) d_Pl_cheapestWithRoom_61 rfl ?_
    refine ar_iret (pc := 62) d_Pl_cheapestWithRoom_62 rfl ?_
    rotate_left
    -- leaves: ret 62
    · exact ⟨⟨bt, rfl, h⟩, rfl⟩
  | succ m ih =>
    intro s bt hs h
    have hs24 : s < 24 := by omega
    have eD := hD s hs24
    have eR := hR s hs24
    have i1 := fun bt' h' => ih (s + 1) bt' (by omega) h'
    clear ih
    have btr : -1 ≤ bt ∧ bt ≤ 23 := by rcases h with ⟨q, -⟩ | ⟨t, q1, q2, -⟩ <;> omega
    have keep : ¬ (0 < rm s ∧ D s ≠ 4611686018427387904 ∧ (bt = -1 ∨ D s < D bt.toNat)) → aw_W X mt_Pl_cheapestWithRoom (d + 1) 4 [(0, some (av_r (some 24))), (1, some (av_i bt)), (2, some (av_i ((s + 1 : Nat) : Int)))] [] G1 0 0 (fun r G' => (∃ bt, r = some (av_i bt) ∧ ((bt = -1 ∧ ∀ x, x < 24 → ¬ (0 < rm x ∧ D x ≠ 4611686018427387904)) ∨ ∃ t : Nat, t < 24 ∧ bt = t ∧ 0 < rm t ∧ D t ≠ 4611686018427387904 ∧ ∀ x, x < 24 → 0 < rm x → D x ≠ 4611686018427387904 → D t ≤ D x)) ∧ G' = G1) := by
      intro q
      refine i1 bt ?_
      rcases h with ⟨q1, q2⟩ | ⟨t, q1, q2, q3, q4, q5⟩
      · left
        refine ⟨q1, fun x hx z => ?_⟩
        by_cases e : x = s
        · rw [e] at z; exact q ⟨z.1, z.2, Or.inl q1⟩
        · exact q2 x (by omega) z
      · right
        refine ⟨t, by omega, q2, q3, q4, fun x hx z1 z2 => ?_⟩
        by_cases e : x = s
        · rw [e] at z1 z2 ⊢
          have : ¬ D s < D bt.toNat := fun w => q ⟨z1, z2, Or.inr w⟩
          rw [q2, Int.toNat_natCast] at this; omega
        · exact q5 x (by omega) z1 z2
    have take : 0 < rm s → D s ≠ 4611686018427387904 → (bt = -1 ∨ D s < D bt.toNat) → aw_W X mt_Pl_cheapestWithRoom (d + 1) 4 [(0, some (av_r (some 24))), (1, some (av_i (s : Int))), (2, some (av_i ((s + 1 : Nat) : Int)))] [] G1 0 0 (fun r G' => (∃ bt, r = some (av_i bt) ∧ ((bt = -1 ∧ ∀ x, x < 24 → ¬ (0 < rm x ∧ D x ≠ 4611686018427387904)) ∨ ∃ t : Nat, t < 24 ∧ bt = t ∧ 0 < rm t ∧ D t ≠ 4611686018427387904 ∧ ∀ x, x < 24 → 0 < rm x → D x ≠ 4611686018427387904 → D t ≤ D x)) ∧ G' = G1) := by
      intro z1 z2 z3
      refine i1 (s : Int) (Or.inr ⟨s, by omega, rfl, z1, z2, fun x hx w1 w2 => ?_⟩)
      by_cases e : x = s
      · rw [e]; exact Int.le_refl _
      · rcases h with ⟨q1, q2⟩ | ⟨t, q1, q2, q3, q4, q5⟩
        · exact absurd ⟨w1, w2⟩ (q2 x (by omega))
        · have := q5 x (by omega) w1 w2
          rw [q2, Int.toNat_natCast] at z3; omega
    have eB : 0 ≤ bt → mm_J G1 30 bt.toNat = D bt.toNat := fun q => hD _ (by omega)
    clear i1 h hD hR
    by_cases hb : bt = -1
    · subst hb
      refine ar_iload_n (pc := 4) d_Pl_cheapestWithRoom_4 rfl ?_
      refine ar_bipush (pc := 5) d_Pl_cheapestWithRoom_5 (by decide) ?_
      refine ar_icmp_ge (pc := 7) 61 d_Pl_cheapestWithRoom_7 (by decide) ⟨by omega, by omega⟩ ⟨by omega, by omega⟩ (fun h_7 => by exfalso; omega) (fun h_7 => ?_)
      refine ar_aload_n (pc := 10) d_Pl_cheapestWithRoom_10 rfl ?_
      refine ar_getR (pc := 11) gf_Pl_25 d_Pl_cheapestWithRoom_11 (by first | rfl | exact sh_wheel (by omega) | exact sh_milk (by omega)) (hF _ _ _ rfl) ?_
      refine ar_iload_n (pc := 14) d_Pl_cheapestWithRoom_14 rfl ?_
      refine ar_ialdv (pc := 15) d_Pl_cheapestWithRoom_15 rfl (s) (by omega) (by omega) eR (fun r_15 => ?_)
      refine ar_if_le (pc := 16) 55 d_Pl_cheapestWithRoom_16 (by decide) ⟨by omega, by omega⟩ (fun h_16 => ?_) (fun h_16 => ?_)
      refine ar_iinc (pc := 55) d_Pl_cheapestWithRoom_55 rfl rfl (by decide) ?_
      refine ar_goto (pc := 58) 4 d_Pl_cheapestWithRoom_58 (by decide) ?_
      rotate_left
      refine ar_aload_n (pc := 19) d_Pl_cheapestWithRoom_19 rfl ?_
      refine ar_getR (pc := 20) gf_Pl_28 d_Pl_cheapestWithRoom_20 (by first | rfl | exact sh_wheel (by omega) | exact sh_milk (by omega)) (hF _ _ _ rfl) ?_
      refine ar_iload_n (pc := 23) d_Pl_cheapestWithRoom_23 rfl ?_
      refine ar_laldv (pc := 24) d_Pl_cheapestWithRoom_24 rfl (s) (by omega) (by omega) eD (fun r_24 => ?_)
      refine ar_ldc2 (pc := 25) (4611686018427387904) kj_Pl_41 d_Pl_cheapestWithRoom_25 (by decide) ?_
      refine ar_leq (pc := 28) 55 d_Pl_cheapestWithRoom_28 d_Pl_cheapestWithRoom_29 (by decide) r_24 ⟨by omega, by omega⟩ (fun h_28 => ?_) (fun h_28 => ?_)
      refine ar_iinc (pc := 55) d_Pl_cheapestWithRoom_55 rfl rfl (by decide) ?_
      refine ar_goto (pc := 58) 4 d_Pl_cheapestWithRoom_58 (by decide) ?_
      rotate_left
      refine ar_iload_n (pc := 32) d_Pl_cheapestWithRoom_32 rfl ?_
      refine ar_iconst (pc := 33) d_Pl_cheapestWithRoom_33 ?_
      refine ar_icmp_eq (pc := 34) 53 d_Pl_cheapestWithRoom_34 (by decide) ⟨by omega, by omega⟩ ⟨by omega, by omega⟩ (fun h_34 => ?_) (fun h_34 => by exfalso; omega)
      refine ar_iload_n (pc := 53) d_Pl_cheapestWithRoom_53 rfl ?_
      refine ar_istore_n (pc := 54) d_Pl_cheapestWithRoom_54 rfl (by decide) ?_
      refine ar_iinc (pc := 55) d_Pl_cheapestWithRoom_55 rfl rfl (by decide) ?_
      refine ar_goto (pc := 58) 4 d_Pl_cheapestWithRoom_58 (by decide) ?_
      rotate_left
      -- leaves: stop 4, stop 4, stop 4
      · exact ar_loc (keep (by omega)) ⟨rfl, rfl, li_i rfl (by omega), trivial⟩
      · exact ar_loc (keep (fun q => q.2.1 h_28)) ⟨rfl, rfl, li_i rfl (by omega), trivial⟩
      · exact ar_loc (take (by omega) h_28 (Or.inl rfl)) ⟨rfl, rfl, li_i rfl (by omega), trivial⟩
    · have eB := eB (by omega)
      refine ar_iload_n (pc := 4) d_Pl_cheapestWithRoom_4 rfl ?_
      refine ar_bipush (pc := 5) d_Pl_cheapestWithRoom_5 (by decide) ?_
      refine ar_icmp_ge (pc := 7) 61 d_Pl_cheapestWithRoom_7 (by decide) ⟨by omega, by omega⟩ ⟨by omega, by omega⟩ (fun h_7 => by exfalso; omega) (fun h_7 => ?_)
      refine ar_aload_n (pc := 10) d_Pl_cheapestWithRoom_10 rfl ?_
      refine ar_getR (pc := 11) gf_Pl_25 d_Pl_cheapestWithRoom_11 (by first | rfl | exact sh_wheel (by omega) | exact sh_milk (by omega)) (hF _ _ _ rfl) ?_
      refine ar_iload_n (pc := 14) d_Pl_cheapestWithRoom_14 rfl ?_
      refine ar_ialdv (pc := 15) d_Pl_cheapestWithRoom_15 rfl (s) (by omega) (by omega) eR (fun r_15 => ?_)
      refine ar_if_le (pc := 16) 55 d_Pl_cheapestWithRoom_16 (by decide) ⟨by omega, by omega⟩ (fun h_16 => ?_) (fun h_16 => ?_)
      refine ar_iinc (pc := 55) d_Pl_cheapestWithRoom_55 rfl rfl (by decide) ?_
      refine ar_goto (pc := 58) 4 d_Pl_cheapestWithRoom_58 (by decide) ?_
      rotate_left
      refine ar_aload_n (pc := 19) d_Pl_cheapestWithRoom_19 rfl ?_
      refine ar_getR (pc := 20) gf_Pl_28 d_Pl_cheapestWithRoom_20 (by first | rfl | exact sh_wheel (by omega) | exact sh_milk (by omega)) (hF _ _ _ rfl) ?_
      refine ar_iload_n (pc := 23) d_Pl_cheapestWithRoom_23 rfl ?_
      refine ar_laldv (pc := 24) d_Pl_cheapestWithRoom_24 rfl (s) (by omega) (by omega) eD (fun r_24 => ?_)
      refine ar_ldc2 (pc := 25) (4611686018427387904) kj_Pl_41 d_Pl_cheapestWithRoom_25 (by decide) ?_
      refine ar_leq (pc := 28) 55 d_Pl_cheapestWithRoom_28 d_Pl_cheapestWithRoom_29 (by decide) r_24 ⟨by omega, by omega⟩ (fun h_28 => ?_) (fun h_28 => ?_)
      refine ar_iinc (pc := 55) d_Pl_cheapestWithRoom_55 rfl rfl (by decide) ?_
      refine ar_goto (pc := 58) 4 d_Pl_cheapestWithRoom_58 (by decide) ?_
      rotate_left
      refine ar_iload_n (pc := 32) d_Pl_cheapestWithRoom_32 rfl ?_
      refine ar_iconst (pc := 33) d_Pl_cheapestWithRoom_33 ?_
      refine ar_icmp_eq (pc := 34) 53 d_Pl_cheapestWithRoom_34 (by decide) ⟨by omega, by omega⟩ ⟨by omega, by omega⟩ (fun h_34 => by exfalso; omega) (fun h_34 => ?_)
      refine ar_aload_n (pc := 37) d_Pl_cheapestWithRoom_37 rfl ?_
      refine ar_getR (pc := 38) gf_Pl_28 d_Pl_cheapestWithRoom_38 (by first | rfl | exact sh_wheel (by omega) | exact sh_milk (by omega)) (hF _ _ _ rfl) ?_
      refine ar_iload_n (pc := 41) d_Pl_cheapestWithRoom_41 rfl ?_
      refine ar_laldv (pc := 42) d_Pl_cheapestWithRoom_42 rfl (s) (by omega) (by omega) eD (fun r_42 => ?_)
      refine ar_aload_n (pc := 43) d_Pl_cheapestWithRoom_43 rfl ?_
      refine ar_getR (pc := 44) gf_Pl_28 d_Pl_cheapestWithRoom_44 (by first | rfl | exact sh_wheel (by omega) | exact sh_milk (by omega)) (hF _ _ _ rfl) ?_
      refine ar_iload_n (pc := 47) d_Pl_cheapestWithRoom_47 rfl ?_
      refine ar_laldv (pc := 48) d_Pl_cheapestWithRoom_48 rfl (bt.toNat) (by omega) (by omega) eB (fun r_48 => ?_)
      refine ar_lge (pc := 49) 55 d_Pl_cheapestWithRoom_49 d_Pl_cheapestWithRoom_50 (by decide) r_42 r_48 (fun h_49 => ?_) (fun h_49 => ?_)
      refine ar_iinc (pc := 55) d_Pl_cheapestWithRoom_55 rfl rfl (by decide) ?_
      refine ar_goto (pc := 58) 4 d_Pl_cheapestWithRoom_58 (by decide) ?_
      rotate_left
      refine ar_iload_n (pc := 53) d_Pl_cheapestWithRoom_53 rfl ?_
      refine ar_istore_n (pc := 54) d_Pl_cheapestWithRoom_54 rfl (by decide) ?_
      refine ar_iinc (pc := 55) d_Pl_cheapestWithRoom_55 rfl rfl (by decide) ?_
      refine ar_goto (pc := 58) 4 d_Pl_cheapestWithRoom_58 (by decide) ?_
      rotate_left
      -- leaves: stop 4, stop 4, stop 4, stop 4
      · exact ar_loc (keep (by omega)) ⟨rfl, rfl, li_i rfl (by omega), trivial⟩
      · exact ar_loc (keep (fun q => q.2.1 h_28)) ⟨rfl, rfl, li_i rfl (by omega), trivial⟩
      · exact ar_loc (keep (by omega)) ⟨rfl, rfl, li_i rfl (by omega), trivial⟩
      · exact ar_loc (take (by omega) h_28 (Or.inr h_49)) ⟨rfl, rfl, li_i rfl (by omega), trivial⟩
theorem cm_Pl_cheap (X : gx_T) (d : Nat) {G1 : mm_T} {D rm : Nat → Int} (hF : fx_R G1) (hD : ∀ s, s < 24 → mm_J G1 30 s = D s) (hR : ∀ s, s < 24 → mm_I G1 29 s = rm s) : aw_M X (d + 1) mt_Pl_cheapestWithRoom [av_r (some 24)] G1 0 0 (fun r G' => (∃ bt, r = some (av_i bt) ∧ ((bt = -1 ∧ ∀ x, x < 24 → ¬ (0 < rm x ∧ D x ≠ 4611686018427387904)) ∨ ∃ t : Nat, t < 24 ∧ bt = t ∧ 0 < rm t ∧ D t ≠ 4611686018427387904 ∧ ∀ x, x < 24 → 0 < rm x → D x ≠ 4611686018427387904 → D t ≤ D x)) ∧ G' = G1) := by
  have lp := lp_cheap X d hF hD hR 24 0 (-1) (by omega) (Or.inl ⟨rfl, fun x hx => by omega⟩)
  refine aw_enter pf_Pl_cheapestWithRoom (Nat.le_of_ble_eq_true rfl) ?_
  refine ar_iconst (pc := 0) d_Pl_cheapestWithRoom_0 ?_
  refine ar_istore_n (pc := 1) d_Pl_cheapestWithRoom_1 rfl (by decide) ?_
  refine ar_iconst (pc := 2) d_Pl_cheapestWithRoom_2 ?_
  refine ar_istore_n (pc := 3) d_Pl_cheapestWithRoom_3 rfl (by decide) ?_
  rotate_left
  -- leaves: stop 4
  · exact ar_loc lp ⟨rfl, rfl, rfl, trivial⟩
/-- shelves of the rows as they stand -/
def sf_F (G G1 : mm_T) (a : Nat → Nat) (n : Nat) : Prop := (mm_R G1 = mm_R G ∧ mm_J G1 = mm_J G ∧ mm_A G1 = mm_A G) ∧ (∀ b j, b ≠ 27 → mm_I G1 b j = mm_I G b j) ∧ ∀ o, o < n → mm_I G1 27 o = (a o : Nat)
theorem sf_u {G G1 : mm_T} {a : Nat → Nat} {n o s m : Nat} (h : sf_F G G1 a n) (hm : m = n ∨ (m = n + 1 ∧ o = n)) : sf_F G (ms_I G1 27 o (s : Int)) (upn a o s) m := by
  obtain ⟨h1, h2, h3⟩ := h
  refine ⟨h1, fun b j hb => by rw [mi_n (fun q => hb q.1)]; exact h2 b j hb, fun x hx => ?_⟩
  unfold upn
  by_cases e : x = o
  · rw [if_pos e, e, mi_s]
  · rw [if_neg e, mi_n (by omega)]; exact h3 x (by omega)
theorem lp_shift (X : gx_T) (d : Nat) {G : mm_T} {p : Nat → Nat → Int} {r : Nat → Int} {a : Nat → Nat} {n : Nat} {y D C : Nat → Int} {T : Nat → Nat} {t : Nat} {Dt tt : Int} (hF : fx_R G) (n9 : n ≤ 9) (ha : as_F p r a n) (hy : as_Y p r a n y) (hX : bf_X p a n D) (hC : bf_C p a n y D C T) (hCm : ∀ s, s < 24 → mm_I G 31 s = C s) : ∀ m i s a1 G1, rk_n a y D T s n + i ≤ n → m = n - i → ch_I p a n y D T t Dt a1 s → sf_F G G1 a1 n → aw_W X mt_Pl_shiftChain (d + 1) 5 [(0, some (av_r (some 24))), (1, some (av_i (n : Int))), (3, some (av_i (s : Int))), (4, some (av_i (i : Int)))] [] G1 0 0 (fun r G' => r = none ∧ ∃ a2 s2, ch_I p a n y D T t Dt a2 s2 ∧ D s2 = p n s2 ∧ sf_F G G' (upn a2 n s2) (n + 1)) := by
  intro m
  induction m with
  | zero =>
    intro i s a1 G1 hk hm hI hw
    have hc1 := hI.1
    have hF1 : fx_R G1 := fun x k b q => by rw [hw.1.1]; exact hF x k b q
    rcases hC s hc1 hI.2.1 with ⟨q1, q2⟩ | ⟨o, o1, o2, o3, o4, o5, o6⟩
    · have e31 : mm_I G1 31 s = (n : Int) := by rw [hw.2.1 _ _ (by omega), hCm s hc1]; exact q1
      have fin := sf_u (o := n) (s := s) hw (Or.inr ⟨rfl, rfl⟩)
      have hF := hF1
      refine ar_iload (pc := 5) d_Pl_shiftChain_5 rfl ?_
      refine ar_iload_n (pc := 7) d_Pl_shiftChain_7 rfl ?_
      refine ar_icmp_gt (pc := 8) 52 d_Pl_shiftChain_8 (by decide) ⟨by omega, by omega⟩ ⟨by omega, by omega⟩ (fun h_8 => by exfalso; omega) (fun h_8 => ?_)
      refine ar_aload_n (pc := 11) d_Pl_shiftChain_11 rfl ?_
      refine ar_getR (pc := 12) gf_Pl_31 d_Pl_shiftChain_12 (by first | rfl | exact sh_wheel (by omega) | exact sh_milk (by omega)) (hF _ _ _ rfl) ?_
      refine ar_iload_n (pc := 15) d_Pl_shiftChain_15 rfl ?_
      refine ar_ialdv (pc := 16) d_Pl_shiftChain_16 rfl (s) (by omega) (by omega) e31 (fun r_16 => ?_)
      refine ar_istore (pc := 17) d_Pl_shiftChain_17 rfl (by decide) ?_
      refine ar_aload_n (pc := 19) d_Pl_shiftChain_19 rfl ?_
      refine ar_getR (pc := 20) gf_Pl_18 d_Pl_shiftChain_20 (by first | rfl | exact sh_wheel (by omega) | exact sh_milk (by omega)) (hF _ _ _ rfl) ?_
      refine ar_iload (pc := 23) d_Pl_shiftChain_23 rfl ?_
      refine ar_iald (pc := 25) d_Pl_shiftChain_25 rfl (n) (by omega) (by omega) (fun r_25 => ?_)
      refine ar_istore (pc := 26) d_Pl_shiftChain_26 rfl (by decide) ?_
      refine ar_aload_n (pc := 28) d_Pl_shiftChain_28 rfl ?_
      refine ar_getR (pc := 29) gf_Pl_18 d_Pl_shiftChain_29 (by first | rfl | exact sh_wheel (by omega) | exact sh_milk (by omega)) (hF _ _ _ rfl) ?_
      refine ar_iload (pc := 32) d_Pl_shiftChain_32 rfl ?_
      refine ar_iload_n (pc := 34) d_Pl_shiftChain_34 rfl ?_
      refine ar_iast (pc := 35) d_Pl_shiftChain_35 rfl (n) (by omega) (by omega) ⟨by omega, by omega⟩ ?_
      refine ar_iload (pc := 36) d_Pl_shiftChain_36 rfl ?_
      refine ar_iload_n (pc := 38) d_Pl_shiftChain_38 rfl ?_
      refine ar_icmp_ne (pc := 39) 43 d_Pl_shiftChain_39 (by decide) ⟨by omega, by omega⟩ ⟨by omega, by omega⟩ (fun h_39 => by exfalso; omega) (fun h_39 => ?_)
      refine ar_ret (pc := 42) d_Pl_shiftChain_42 rfl ?_
      rotate_left
      -- leaves: ret 42
      · exact ⟨rfl, a1, s, hI, q2, fin⟩
    · have := rk_lt (a := a) (y := y) (D := D) (T := T) (s := s) n o o1 o6
      omega
  | succ m ih =>
    intro i s a1 G1 hk hm hI hw
    have hc1 := hI.1
    have hF1 : fx_R G1 := fun x k b q => by rw [hw.1.1]; exact hF x k b q
    rcases hC s hc1 hI.2.1 with ⟨q1, q2⟩ | ⟨o, o1, o2, o3, o4, o5, o6⟩
    · have e31 : mm_I G1 31 s = (n : Int) := by rw [hw.2.1 _ _ (by omega), hCm s hc1]; exact q1
      have fin := sf_u (o := n) (s := s) hw (Or.inr ⟨rfl, rfl⟩)
      clear ih
      have hF := hF1
      refine ar_iload (pc := 5) d_Pl_shiftChain_5 rfl ?_
      refine ar_iload_n (pc := 7) d_Pl_shiftChain_7 rfl ?_
      refine ar_icmp_gt (pc := 8) 52 d_Pl_shiftChain_8 (by decide) ⟨by omega, by omega⟩ ⟨by omega, by omega⟩ (fun h_8 => by exfalso; omega) (fun h_8 => ?_)
      refine ar_aload_n (pc := 11) d_Pl_shiftChain_11 rfl ?_
      refine ar_getR (pc := 12) gf_Pl_31 d_Pl_shiftChain_12 (by first | rfl | exact sh_wheel (by omega) | exact sh_milk (by omega)) (hF _ _ _ rfl) ?_
      refine ar_iload_n (pc := 15) d_Pl_shiftChain_15 rfl ?_
      refine ar_ialdv (pc := 16) d_Pl_shiftChain_16 rfl (s) (by omega) (by omega) e31 (fun r_16 => ?_)
      refine ar_istore (pc := 17) d_Pl_shiftChain_17 rfl (by decide) ?_
      refine ar_aload_n (pc := 19) d_Pl_shiftChain_19 rfl ?_
      refine ar_getR (pc := 20) gf_Pl_18 d_Pl_shiftChain_20 (by first | rfl | exact sh_wheel (by omega) | exact sh_milk (by omega)) (hF _ _ _ rfl) ?_
      refine ar_iload (pc := 23) d_Pl_shiftChain_23 rfl ?_
      refine ar_iald (pc := 25) d_Pl_shiftChain_25 rfl (n) (by omega) (by omega) (fun r_25 => ?_)
      refine ar_istore (pc := 26) d_Pl_shiftChain_26 rfl (by decide) ?_
      refine ar_aload_n (pc := 28) d_Pl_shiftChain_28 rfl ?_
      refine ar_getR (pc := 29) gf_Pl_18 d_Pl_shiftChain_29 (by first | rfl | exact sh_wheel (by omega) | exact sh_milk (by omega)) (hF _ _ _ rfl) ?_
      refine ar_iload (pc := 32) d_Pl_shiftChain_32 rfl ?_
      refine ar_iload_n (pc := 34) d_Pl_shiftChain_34 rfl ?_
      refine ar_iast (pc := 35) d_Pl_shiftChain_35 rfl (n) (by omega) (by omega) ⟨by omega, by omega⟩ ?_
      refine ar_iload (pc := 36) d_Pl_shiftChain_36 rfl ?_
      refine ar_iload_n (pc := 38) d_Pl_shiftChain_38 rfl ?_
      refine ar_icmp_ne (pc := 39) 43 d_Pl_shiftChain_39 (by decide) ⟨by omega, by omega⟩ ⟨by omega, by omega⟩ (fun h_39 => by exfalso; omega) (fun h_39 => ?_)
      refine ar_ret (pc := 42) d_Pl_shiftChain_42 rfl ?_
      rotate_left
      -- leaves: ret 42
      · exact ⟨rfl, a1, s, hI, q2, fin⟩
    · have hr := rk_lt (a := a) (y := y) (D := D) (T := T) (s := s) n o o1 o6
      obtain ⟨e0, hI2⟩ := ch_s ha hy hX hI o1 o3 o4 o5 o6
      have e31 : mm_I G1 31 s = (o : Int) := by rw [hw.2.1 _ _ (by omega), hCm s hc1]; exact o2
      have e27 : mm_I G1 27 o = (a o : Nat) := by rw [hw.2.2 o o1, e0]
      have ha1 := (ha.1 o o1).1
      have fin := sf_u (o := o) (s := s) hw (Or.inl rfl)
      have i1 := ih (i + 1) (a o) (upn a1 o s) _ (by omega) (by omega) hI2 fin
      clear ih
      have hF := hF1
      refine ar_iload (pc := 5) d_Pl_shiftChain_5 rfl ?_
      refine ar_iload_n (pc := 7) d_Pl_shiftChain_7 rfl ?_
      refine ar_icmp_gt (pc := 8) 52 d_Pl_shiftChain_8 (by decide) ⟨by omega, by omega⟩ ⟨by omega, by omega⟩ (fun h_8 => by exfalso; omega) (fun h_8 => ?_)
      refine ar_aload_n (pc := 11) d_Pl_shiftChain_11 rfl ?_
      refine ar_getR (pc := 12) gf_Pl_31 d_Pl_shiftChain_12 (by first | rfl | exact sh_wheel (by omega) | exact sh_milk (by omega)) (hF _ _ _ rfl) ?_
      refine ar_iload_n (pc := 15) d_Pl_shiftChain_15 rfl ?_
      refine ar_ialdv (pc := 16) d_Pl_shiftChain_16 rfl (s) (by omega) (by omega) e31 (fun r_16 => ?_)
      refine ar_istore (pc := 17) d_Pl_shiftChain_17 rfl (by decide) ?_
      refine ar_aload_n (pc := 19) d_Pl_shiftChain_19 rfl ?_
      refine ar_getR (pc := 20) gf_Pl_18 d_Pl_shiftChain_20 (by first | rfl | exact sh_wheel (by omega) | exact sh_milk (by omega)) (hF _ _ _ rfl) ?_
      refine ar_iload (pc := 23) d_Pl_shiftChain_23 rfl ?_
      refine ar_ialdv (pc := 25) d_Pl_shiftChain_25 rfl (o) (by omega) (by omega) e27 (fun r_25 => ?_)
      refine ar_istore (pc := 26) d_Pl_shiftChain_26 rfl (by decide) ?_
      refine ar_aload_n (pc := 28) d_Pl_shiftChain_28 rfl ?_
      refine ar_getR (pc := 29) gf_Pl_18 d_Pl_shiftChain_29 (by first | rfl | exact sh_wheel (by omega) | exact sh_milk (by omega)) (hF _ _ _ rfl) ?_
      refine ar_iload (pc := 32) d_Pl_shiftChain_32 rfl ?_
      refine ar_iload_n (pc := 34) d_Pl_shiftChain_34 rfl ?_
      refine ar_iast (pc := 35) d_Pl_shiftChain_35 rfl (o) (by omega) (by omega) ⟨by omega, by omega⟩ ?_
      refine ar_iload (pc := 36) d_Pl_shiftChain_36 rfl ?_
      refine ar_iload_n (pc := 38) d_Pl_shiftChain_38 rfl ?_
      refine ar_icmp_ne (pc := 39) 43 d_Pl_shiftChain_39 (by decide) ⟨by omega, by omega⟩ ⟨by omega, by omega⟩ (fun h_39 => ?_) (fun h_39 => by exfalso; omega)
      refine ar_iload (pc := 43) d_Pl_shiftChain_43 rfl ?_
      refine ar_istore_n (pc := 45) d_Pl_shiftChain_45 rfl (by decide) ?_
      refine ar_iinc (pc := 46) d_Pl_shiftChain_46 rfl rfl (by decide) ?_
      refine ar_goto (pc := 49) 5 d_Pl_shiftChain_49 (by decide) ?_
      rotate_left
      -- leaves: stop 5
      · exact ar_loc i1 ⟨rfl, rfl, rfl, li_i rfl (by omega), trivial⟩
theorem cm_Pl_shift (X : gx_T) (d : Nat) {G : mm_T} {p : Nat → Nat → Int} {r : Nat → Int} {a : Nat → Nat} {n : Nat} {y D C : Nat → Int} {T : Nat → Nat} {t : Nat} (hF : fx_R G) (n9 : n ≤ 9) (ha : as_F p r a n) (hy : as_Y p r a n y) (hX : bf_X p a n D) (hC : bf_C p a n y D C T) (hCm : ∀ s, s < 24 → mm_I G 31 s = C s) (ham : ∀ o, o < n → mm_I G 27 o = (a o : Nat)) (ht : t < 24) (htM : D t ≠ 4611686018427387904) (hy0 : y t = 0) : aw_M X (d + 1) mt_Pl_shiftChain [av_r (some 24), av_i (n : Int), av_i (t : Int)] G 0 0 (fun r G' => r = none ∧ ∃ a2 s2, ch_I p a n y D T t (D t) a2 s2 ∧ D s2 = p n s2 ∧ sf_F G G' (upn a2 n s2) (n + 1)) := by
  have lp := lp_shift X d (t := t) (Dt := D t) (tt := 0) hF n9 ha hy hX hC hCm n 0 t a G (by have := rk_le a y D T t n; omega) (by omega) ⟨ht, htM, by omega, fun o ho => Or.inl rfl, fun x => rfl⟩ ⟨⟨rfl, rfl, rfl⟩, fun _ _ _ => rfl, ham⟩
  refine aw_enter pf_Pl_shiftChain (Nat.le_of_ble_eq_true rfl) ?_
  refine ar_iload_n (pc := 0) d_Pl_shiftChain_0 rfl ?_
  refine ar_istore_n (pc := 1) d_Pl_shiftChain_1 rfl (by decide) ?_
  refine ar_iconst (pc := 2) d_Pl_shiftChain_2 ?_
  refine ar_istore (pc := 3) d_Pl_shiftChain_3 rfl (by decide) ?_
  rotate_left
  -- leaves: stop 5
  · exact ar_loc lp ⟨rfl, rfl, rfl, rfl, trivial⟩
