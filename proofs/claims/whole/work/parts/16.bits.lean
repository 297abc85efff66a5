/-! ===== bits of longs and ints; stays beside one another ===== -/
def lb_b (x : Int) (i : Nat) : Bool := (Int64.ofInt x).toBitVec.getLsbD i
theorem lb_lor (x y : Int) (i : Nat) : lb_b (b_lor x y) i = (lb_b x i || lb_b y i) := by
  unfold lb_b b_lor
  rw [Int64.ofInt_toInt, Int64.toBitVec_or, BitVec.getLsbD_or]
theorem lb_0 (i : Nat) : lb_b 0 i = false := by
  unfold lb_b
  rw [show (Int64.ofInt 0).toBitVec = 0#64 from rfl, BitVec.getLsbD_zero]
theorem lb_shl_t : ∀ w : Fin 64, (Int64.ofInt 1 <<< ((Int32.ofInt ((w.val : Nat) : Int)).toInt64 &&& 63)).toBitVec = BitVec.twoPow 64 w.val := by decide +kernel
theorem lb_shl {w i : Nat} (hw : w < 64) : lb_b (b_lshl 1 (w : Int)) i = decide (w = i) := by
  unfold lb_b b_lshl
  rw [Int64.ofInt_toInt, lb_shl_t ⟨w, hw⟩, BitVec.getLsbD_twoPow]
  simp [hw]
theorem lb_ushr_t : ∀ w : Fin 64, ((Int32.ofInt ((w.val : Nat) : Int)).toInt64.toUInt64 &&& Int64.toUInt64 63).toNat = w.val := by decide +kernel
theorem lb_bit {z : Int64} {s : UInt64} {j : Nat} (hj : j < 64) (hs : s.toNat = j) : ((z.toUInt64 >>> s).toInt64 &&& Int64.ofInt 1).toInt = 0 ↔ z.toBitVec.getLsbD j = false := by
  have e : (z.toUInt64 >>> s).toInt64.toBitVec = z.toBitVec >>> j := by
    apply BitVec.eq_of_toNat_eq
    show (z.toUInt64 >>> s).toNat = _
    rw [UInt64.toNat_shiftRight, hs, Nat.mod_eq_of_lt hj, BitVec.toNat_ushiftRight]
    rfl
  rw [show (0 : Int) = (0 : Int64).toInt from rfl, Int64.toInt_inj, ← Int64.toBitVec_inj, Int64.toBitVec_and, e]
  show z.toBitVec >>> j &&& 1#64 = 0#64 ↔ _
  rw [BitVec.and_one_eq_setWidth_ofBool_getLsbD, BitVec.getLsbD_ushiftRight, Nat.add_zero]
  cases hb : z.toBitVec.getLsbD j
  · exact ⟨fun _ => rfl, fun _ => by decide⟩
  · exact ⟨fun q => absurd q (by decide), fun q => by cases q⟩
theorem lb_test {w : Nat} (hw : w < 64) (x : Int) : b_land (b_lushr x (w : Int)) 1 = 0 ↔ lb_b x w = false := by
  unfold b_land b_lushr lb_b
  rw [Int64.ofInt_toInt]
  exact lb_bit hw (lb_ushr_t ⟨w, hw⟩)
theorem lb_in (z : Int64) : j6_in z.toInt := ⟨z.le_toInt, by have := z.toInt_lt; omega⟩
theorem lb_in_lor (x y : Int) : j6_in (b_lor x y) := lb_in _
theorem lb_in_land (x y : Int) : j6_in (b_land x y) := lb_in _
theorem lb_in_lshl (x y : Int) : j6_in (b_lshl x y) := lb_in _
theorem lb_ext {x y : Int} (hx : j6_in x) (hy : j6_in y) (h : ∀ i, i < 64 → lb_b x i = lb_b y i) : x = y := by
  apply (j6_eq hx hy).mp
  apply Int64.toBitVec.inj
  apply BitVec.eq_of_getLsbD_eq
  intro i hi
  exact h i hi
def ib_b (x : Int) (i : Nat) : Bool := (Int32.ofInt x).toBitVec.getLsbD i
theorem ib_ior (x y : Int) (i : Nat) : ib_b (b_ior x y) i = (ib_b x i || ib_b y i) := by
  unfold ib_b b_ior
  rw [Int32.ofInt_toInt, Int32.toBitVec_or, BitVec.getLsbD_or]
theorem ib_0 (i : Nat) : ib_b 0 i = false := by
  unfold ib_b
  rw [show (Int32.ofInt 0).toBitVec = 0#32 from rfl, BitVec.getLsbD_zero]
theorem ib_shl_t : ∀ w : Fin 32, (Int32.ofInt 1 <<< (Int32.ofInt ((w.val : Nat) : Int) &&& 31)).toBitVec = BitVec.twoPow 32 w.val := by decide +kernel
theorem ib_shl {w i : Nat} (hw : w < 32) : ib_b (b_ishl 1 (w : Int)) i = decide (w = i) := by
  unfold ib_b b_ishl
  rw [Int32.ofInt_toInt, ib_shl_t ⟨w, hw⟩, BitVec.getLsbD_twoPow]
  simp [hw]
theorem ib_ushr_t : ∀ w : Fin 32, ((Int32.ofInt ((w.val : Nat) : Int)).toUInt32 &&& Int32.toUInt32 31).toNat = w.val := by decide +kernel
theorem ib_bit {z : Int32} {s : UInt32} {j : Nat} (hj : j < 32) (hs : s.toNat = j) : ((z.toUInt32 >>> s).toInt32 &&& Int32.ofInt 1).toInt = 0 ↔ z.toBitVec.getLsbD j = false := by
  have e : (z.toUInt32 >>> s).toInt32.toBitVec = z.toBitVec >>> j := by
    apply BitVec.eq_of_toNat_eq
    show (z.toUInt32 >>> s).toNat = _
    rw [UInt32.toNat_shiftRight, hs, Nat.mod_eq_of_lt hj, BitVec.toNat_ushiftRight]
    rfl
  rw [show (0 : Int) = (0 : Int32).toInt from rfl, Int32.toInt_inj, ← Int32.toBitVec_inj, Int32.toBitVec_and, e]
  show z.toBitVec >>> j &&& 1#32 = 0#32 ↔ _
  rw [BitVec.and_one_eq_setWidth_ofBool_getLsbD, BitVec.getLsbD_ushiftRight, Nat.add_zero]
  cases hb : z.toBitVec.getLsbD j
  · exact ⟨fun _ => rfl, fun _ => by decide⟩
  · exact ⟨fun q => absurd q (by decide), fun q => by cases q⟩
theorem ib_test {w : Nat} (hw : w < 32) (x : Int) : b_iand (b_iushr x (w : Int)) 1 = 0 ↔ ib_b x w = false := by
  unfold b_iand b_iushr ib_b
  rw [Int32.ofInt_toInt]
  exact ib_bit hw (ib_ushr_t ⟨w, hw⟩)
theorem ib_in (z : Int32) : i3_in z.toInt := ⟨z.le_toInt, by have := z.toInt_lt; omega⟩
/-- wheels on one shelf in stays j, k, with a night shared -/
def sy_P (w s b l : Nat → Int) (t a e : Int) (j k : Nat) : Prop := w j = a ∧ w k = e ∧ s j = s k ∧ sy_sh b l t j k
theorem sy_sh_c (b l : Nat → Int) (t : Int) (j k : Nat) : sy_sh b l t j k ↔ sy_sh b l t k j := by unfold sy_sh; omega
/-- what a bit of a stay's neighbours says -/
def sy_B (w s b l : Nat → Int) (t : Int) (q k i : Nat) : Prop := w k = i ∧ w k ≠ w q ∧ s k = s q ∧ sy_sh b l t k q
theorem lp_St_besideStay (X : gx_T) (d : Nat) (G : mm_T) {t : Int} {q c : Nat} (hF : fx_R G) (hq : q < 200) (ht : i3_in t) (hc : mm_I G 12 4 = c) (hc2 : c ≤ 200) (hw : ∀ k, k < c → 0 ≤ mm_I G 13 k ∧ mm_I G 13 k < 40) : ∀ n i x, i + n = c → j6_in x → (∀ e, e < 64 → (lb_b x e = true ↔ ∃ k, k < i ∧ sy_B (mm_I G 13) (mm_I G 14) (mm_I G 15) (mm_I G 16) t q k e)) → aw_W X mt_St_besideStay (d + 3) 5 [(0, some (av_r (some 12))), (1, some (av_i (q : Int))), (2, some (av_i t)), (3, some (av_l x)), (5, some (av_i (i : Int)))] [] G 0 0 (fun r G' => (∃ y, r = some (av_l y) ∧ j6_in y ∧ ∀ e, e < 64 → (lb_b y e = true ↔ ∃ k, k < c ∧ sy_B (mm_I G 13) (mm_I G 14) (mm_I G 15) (mm_I G 16) t q k e)) ∧ G' = G) := by
  intro n
  induction n with
  | zero =>
    intro i x hi hx hb
    have hi : i = c := by omega
    subst hi
    refine ar_iload (pc := 5) d_St_besideStay_5 rfl ?_
    refine ar_aload_n (pc := 7) d_St_besideStay_7 rfl ?_
    refine ar_getIv (pc := 8) gf_St_24 d_St_besideStay_8 (by first | rfl | exact sh_wheel (by omega) | exact sh_milk (by omega)) hc (fun r_8 => ?_)
    refine ar_icmp_ge (pc := 11) 75 d_St_besideStay_11 (by decide) ⟨by omega, by omega⟩ ⟨by omega, by omega⟩ (fun h_11 => ?_) (fun h_11 => by exfalso; omega)
    refine ar_lload_n (pc := 75) d_St_besideStay_75 rfl ?_
    refine ar_lret (pc := 76) d_St_besideStay_76 rfl ?_
    rotate_left
    -- leaves: ret 76
    · exact ⟨⟨x, rfl, hx, hb⟩, rfl⟩
  | succ n ih =>
    intro i x hi hx hb
    have hwi := hw i (by omega)
    obtain ⟨v, hv⟩ : ∃ v : Nat, mm_I G 13 i = v := ⟨(mm_I G 13 i).toNat, by omega⟩
    have keep : ¬ (mm_I G 13 i ≠ mm_I G 13 q ∧ mm_I G 14 i = mm_I G 14 q ∧ sy_sh (mm_I G 15) (mm_I G 16) t i q) → ∀ e, e < 64 → (lb_b x e = true ↔ ∃ k, k < i + 1 ∧ sy_B (mm_I G 13) (mm_I G 14) (mm_I G 15) (mm_I G 16) t q k e) := by
      intro hno e he
      rw [hb e he]
      constructor
      · rintro ⟨k, h1, h2⟩; exact ⟨k, by omega, h2⟩
      · rintro ⟨k, h1, h2⟩
        by_cases hk : k = i
        · subst hk; exact absurd h2.2 hno
        · exact ⟨k, by omega, h2⟩
    have hbv := bv_c (sy_sh (mm_I G 15) (mm_I G 16) t i q)
    refine ar_iload (pc := 5) d_St_besideStay_5 rfl ?_
    refine ar_aload_n (pc := 7) d_St_besideStay_7 rfl ?_
    refine ar_getIv (pc := 8) gf_St_24 d_St_besideStay_8 (by first | rfl | exact sh_wheel (by omega) | exact sh_milk (by omega)) hc (fun r_8 => ?_)
    refine ar_icmp_ge (pc := 11) 75 d_St_besideStay_11 (by decide) ⟨by omega, by omega⟩ ⟨by omega, by omega⟩ (fun h_11 => by exfalso; omega) (fun h_11 => ?_)
    refine ar_aload_n (pc := 14) d_St_besideStay_14 rfl ?_
    refine ar_getR (pc := 15) gf_St_9 d_St_besideStay_15 (by first | rfl | exact sh_wheel (by omega) | exact sh_milk (by omega)) (hF _ _ _ rfl) ?_
    refine ar_iload (pc := 18) d_St_besideStay_18 rfl ?_
    refine ar_iald (pc := 20) d_St_besideStay_20 rfl (i) (by omega) (by omega) (fun r_20 => ?_)
    refine ar_aload_n (pc := 21) d_St_besideStay_21 rfl ?_
    refine ar_getR (pc := 22) gf_St_9 d_St_besideStay_22 (by first | rfl | exact sh_wheel (by omega) | exact sh_milk (by omega)) (hF _ _ _ rfl) ?_
    refine ar_iload_n (pc := 25) d_St_besideStay_25 rfl ?_
    refine ar_iald (pc := 26) d_St_besideStay_26 rfl (q) (by omega) (by omega) (fun r_26 => ?_)
    refine ar_icmp_eq (pc := 27) 69 d_St_besideStay_27 (by decide) ⟨by omega, by omega⟩ ⟨by omega, by omega⟩ (fun h_27 => ?_) (fun h_27 => ?_)
    refine ar_iinc (pc := 69) d_St_besideStay_69 rfl rfl (by decide) ?_
    refine ar_goto (pc := 72) 5 d_St_besideStay_72 (by decide) ?_
    rotate_left
    refine ar_aload_n (pc := 30) d_St_besideStay_30 rfl ?_
    refine ar_getR (pc := 31) gf_St_15 d_St_besideStay_31 (by first | rfl | exact sh_wheel (by omega) | exact sh_milk (by omega)) (hF _ _ _ rfl) ?_
    refine ar_iload (pc := 34) d_St_besideStay_34 rfl ?_
    refine ar_iald (pc := 36) d_St_besideStay_36 rfl (i) (by omega) (by omega) (fun r_36 => ?_)
    refine ar_aload_n (pc := 37) d_St_besideStay_37 rfl ?_
    refine ar_getR (pc := 38) gf_St_15 d_St_besideStay_38 (by first | rfl | exact sh_wheel (by omega) | exact sh_milk (by omega)) (hF _ _ _ rfl) ?_
    refine ar_iload_n (pc := 41) d_St_besideStay_41 rfl ?_
    refine ar_iald (pc := 42) d_St_besideStay_42 rfl (q) (by omega) (by omega) (fun r_42 => ?_)
    refine ar_icmp_ne (pc := 43) 69 d_St_besideStay_43 (by decide) ⟨by omega, by omega⟩ ⟨by omega, by omega⟩ (fun h_43 => ?_) (fun h_43 => ?_)
    refine ar_iinc (pc := 69) d_St_besideStay_69 rfl rfl (by decide) ?_
    refine ar_goto (pc := 72) 5 d_St_besideStay_72 (by decide) ?_
    rotate_left
    refine ar_aload_n (pc := 46) d_St_besideStay_46 rfl ?_
    refine ar_iload (pc := 47) d_St_besideStay_47 rfl ?_
    refine ar_iload_n (pc := 49) d_St_besideStay_49 rfl ?_
    refine ar_iload_n (pc := 50) d_St_besideStay_50 rfl ?_
    refine ac_virt (pc := 51) (N := mt_St_shareNight) _ _ mv_St_shareNight ml_St_32 ck_7 d_St_besideStay_51 (cm_St_shareNight _ _ _ hF (by omega) (by omega) ht) (by first | rfl | exact sh_wheel (by omega) | exact sh_milk (by omega)) rfl rfl (Nat.le_of_ble_eq_true rfl) (Nat.le_of_eq (Nat.zero_add _)) (Nat.le_of_eq (Nat.zero_add _)) (fun r_51 G_51 h_51 => ?_)
    obtain ⟨rfl, e51⟩ := h_51
    subst G_51; simp only [Int.toNat_natCast]
    refine ar_if_eq (pc := 54) 69 d_St_besideStay_54 (by decide) ⟨by omega, by omega⟩ (fun h_54 => ?_) (fun h_54 => ?_)
    refine ar_iinc (pc := 69) d_St_besideStay_69 rfl rfl (by decide) ?_
    refine ar_goto (pc := 72) 5 d_St_besideStay_72 (by decide) ?_
    rotate_left
    refine ar_lload_n (pc := 57) d_St_besideStay_57 rfl ?_
    refine ar_lconst (pc := 58) 1 d_St_besideStay_58 (by decide) ?_
    refine ar_aload_n (pc := 59) d_St_besideStay_59 rfl ?_
    refine ar_getR (pc := 60) gf_St_9 d_St_besideStay_60 (by first | rfl | exact sh_wheel (by omega) | exact sh_milk (by omega)) (hF _ _ _ rfl) ?_
    refine ar_iload (pc := 63) d_St_besideStay_63 rfl ?_
    refine ar_ialdv (pc := 65) d_St_besideStay_65 rfl (i) (by omega) (by omega) hv (fun r_65 => ?_)
    refine ar_lshl (pc := 66) d_St_besideStay_66 ?_
    refine ar_lor (pc := 67) d_St_besideStay_67 ?_
    refine ar_lstore_n (pc := 68) d_St_besideStay_68 rfl (by decide) ?_
    refine ar_iinc (pc := 69) d_St_besideStay_69 rfl rfl (by decide) ?_
    refine ar_goto (pc := 72) 5 d_St_besideStay_72 (by decide) ?_
    rotate_left
    -- leaves: stop 5, stop 5, stop 5, stop 5
    · exact ar_loc (ih (i + 1) x (by omega) hx (keep (by omega))) ⟨rfl, rfl, rfl, rfl, li_i rfl (by omega), trivial⟩
    · exact ar_loc (ih (i + 1) x (by omega) hx (keep (by omega))) ⟨rfl, rfl, rfl, rfl, li_i rfl (by omega), trivial⟩
    · refine ar_loc (ih (i + 1) x (by omega) hx (keep (fun z => ?_))) ⟨rfl, rfl, rfl, rfl, li_i rfl (by omega), trivial⟩
      rcases hbv with h | h
      · omega
      · exact h.2 z.2.2
    · have hsh : sy_sh (mm_I G 15) (mm_I G 16) t i q := by
        rcases hbv with h | h
        · exact h.2
        · omega
      refine ar_loc (ih (i + 1) (b_lor x (b_lshl 1 v)) (by omega) (lb_in_lor _ _) (fun e he => ?_)) ⟨rfl, rfl, rfl, rfl, li_i rfl (by omega), trivial⟩
      rw [lb_lor, lb_shl (by omega), Bool.or_eq_true, hb e he, decide_eq_true_iff]
      constructor
      · rintro (⟨k, h1, h2⟩ | h)
        · exact ⟨k, by omega, h2⟩
        · exact ⟨i, by omega, by rw [hv, h], by omega, by omega, hsh⟩
      · rintro ⟨k, h1, h2⟩
        by_cases hk : k = i
        · subst hk
          right
          have := h2.1
          omega
        · exact Or.inl ⟨k, by omega, h2⟩
theorem cm_St_besideStay (X : gx_T) (d : Nat) (G : mm_T) {t : Int} {q c : Nat} (hF : fx_R G) (hq : q < 200) (ht : i3_in t) (hc : mm_I G 12 4 = c) (hc2 : c ≤ 200) (hw : ∀ k, k < c → 0 ≤ mm_I G 13 k ∧ mm_I G 13 k < 40) : aw_M X (d + 3) mt_St_besideStay [av_r (some 12), av_i (q : Int), av_i t] G 0 0 (fun r G' => (∃ y, r = some (av_l y) ∧ j6_in y ∧ ∀ e, e < 64 → (lb_b y e = true ↔ ∃ k, k < c ∧ sy_B (mm_I G 13) (mm_I G 14) (mm_I G 15) (mm_I G 16) t q k e)) ∧ G' = G) := by
  refine aw_enter pf_St_besideStay (Nat.le_of_ble_eq_true rfl) ?_
  refine ar_lconst (pc := 0) 0 d_St_besideStay_0 (by decide) ?_
  refine ar_lstore_n (pc := 1) d_St_besideStay_1 rfl (by decide) ?_
  refine ar_iconst (pc := 2) d_St_besideStay_2 ?_
  refine ar_istore (pc := 3) d_St_besideStay_3 rfl (by decide) ?_
  rotate_left
  -- leaves: stop 5
  · exact ar_loc (lp_St_besideStay X d G hF hq ht hc hc2 hw c 0 0 (by omega) ⟨by omega, by omega⟩ (fun e he => by rw [lb_0]; simp)) ⟨rfl, rfl, rfl, rfl, rfl, trivial⟩
theorem lp_St_besideAny (X : gx_T) (d : Nat) (G : mm_T) {t z : Int} {c : Nat} (hF : fx_R G) (ht : i3_in t) (hc : mm_I G 12 4 = c) (hc2 : c ≤ 200) (hw : ∀ k, k < c → 0 ≤ mm_I G 13 k ∧ mm_I G 13 k < 40) : ∀ n i x, i + n = c → j6_in x → (∀ e, e < 64 → (lb_b x e = true ↔ ∃ q, q < i ∧ lb_b z (mm_I G 13 q).toNat = true ∧ ∃ k, k < c ∧ sy_B (mm_I G 13) (mm_I G 14) (mm_I G 15) (mm_I G 16) t q k e)) → aw_W X mt_St_besideAny (d + 4) 6 [(0, some (av_r (some 12))), (1, some (av_l z)), (3, some (av_i t)), (4, some (av_l x)), (6, some (av_i (i : Int)))] [] G 0 0 (fun r G' => (∃ y, r = some (av_l y) ∧ j6_in y ∧ ∀ e, e < 64 → (lb_b y e = true ↔ ∃ q, q < c ∧ lb_b z (mm_I G 13 q).toNat = true ∧ ∃ k, k < c ∧ sy_B (mm_I G 13) (mm_I G 14) (mm_I G 15) (mm_I G 16) t q k e)) ∧ G' = G) := by
  intro n
  induction n with
  | zero =>
    intro i x hi hx hb
    have hi : i = c := by omega
    subst hi
    refine ar_iload (pc := 6) d_St_besideAny_6 rfl ?_
    refine ar_aload_n (pc := 8) d_St_besideAny_8 rfl ?_
    refine ar_getIv (pc := 9) gf_St_24 d_St_besideAny_9 (by first | rfl | exact sh_wheel (by omega) | exact sh_milk (by omega)) hc (fun r_9 => ?_)
    refine ar_icmp_ge (pc := 12) 49 d_St_besideAny_12 (by decide) ⟨by omega, by omega⟩ ⟨by omega, by omega⟩ (fun h_12 => ?_) (fun h_12 => by exfalso; omega)
    refine ar_lload (pc := 49) d_St_besideAny_49 rfl ?_
    refine ar_lret (pc := 51) d_St_besideAny_51 rfl ?_
    rotate_left
    -- leaves: ret 51
    · exact ⟨⟨x, rfl, hx, hb⟩, rfl⟩
  | succ n ih =>
    intro i x hi hx hb
    have hwi := hw i (by omega)
    obtain ⟨v, hv⟩ : ∃ v : Nat, mm_I G 13 i = v := ⟨(mm_I G 13 i).toNat, by omega⟩
    have hlt := lb_test (w := v) (by omega) z
    refine ar_iload (pc := 6) d_St_besideAny_6 rfl ?_
    refine ar_aload_n (pc := 8) d_St_besideAny_8 rfl ?_
    refine ar_getIv (pc := 9) gf_St_24 d_St_besideAny_9 (by first | rfl | exact sh_wheel (by omega) | exact sh_milk (by omega)) hc (fun r_9 => ?_)
    refine ar_icmp_ge (pc := 12) 49 d_St_besideAny_12 (by decide) ⟨by omega, by omega⟩ ⟨by omega, by omega⟩ (fun h_12 => by exfalso; omega) (fun h_12 => ?_)
    refine ar_lload_n (pc := 15) d_St_besideAny_15 rfl ?_
    refine ar_aload_n (pc := 16) d_St_besideAny_16 rfl ?_
    refine ar_getR (pc := 17) gf_St_9 d_St_besideAny_17 (by first | rfl | exact sh_wheel (by omega) | exact sh_milk (by omega)) (hF _ _ _ rfl) ?_
    refine ar_iload (pc := 20) d_St_besideAny_20 rfl ?_
    refine ar_ialdv (pc := 22) d_St_besideAny_22 rfl (i) (by omega) (by omega) hv (fun r_22 => ?_)
    refine ar_lushr (pc := 23) d_St_besideAny_23 ?_
    refine ar_lconst (pc := 24) 1 d_St_besideAny_24 (by decide) ?_
    refine ar_land (pc := 25) d_St_besideAny_25 ?_
    refine ar_lconst (pc := 26) 0 d_St_besideAny_26 (by decide) ?_
    refine ar_lcmp (pc := 27) d_St_besideAny_27 (lb_in_land _ _) ⟨by omega, by omega⟩ ?_
    refine ar_if_eq (pc := 28) 43 d_St_besideAny_28 (by decide) ⟨by omega, by omega⟩ (fun h_28 => ?_) (fun h_28 => ?_)
    refine ar_iinc (pc := 43) d_St_besideAny_43 rfl rfl (by decide) ?_
    refine ar_goto (pc := 46) 6 d_St_besideAny_46 (by decide) ?_
    rotate_left
    refine ar_lload (pc := 31) d_St_besideAny_31 rfl ?_
    refine ar_aload_n (pc := 33) d_St_besideAny_33 rfl ?_
    refine ar_iload (pc := 34) d_St_besideAny_34 rfl ?_
    refine ar_iload_n (pc := 36) d_St_besideAny_36 rfl ?_
    refine ac_virt (pc := 37) (N := mt_St_besideStay) _ _ mv_St_besideStay ml_St_28 ck_7 d_St_besideAny_37 (cm_St_besideStay _ _ _ hF (by omega) ht hc hc2 hw) (by first | rfl | exact sh_wheel (by omega) | exact sh_milk (by omega)) rfl rfl (Nat.le_of_ble_eq_true rfl) (Nat.le_of_eq (Nat.zero_add _)) (Nat.le_of_eq (Nat.zero_add _)) (fun r_37 G_37 h_37 => ?_)
    obtain ⟨⟨y, rfl, hy, hyb⟩, e37⟩ := h_37
    subst G_37
    refine ar_lor (pc := 40) d_St_besideAny_40 ?_
    refine ar_lstore (pc := 41) d_St_besideAny_41 rfl (by decide) ?_
    refine ar_iinc (pc := 43) d_St_besideAny_43 rfl rfl (by decide) ?_
    refine ar_goto (pc := 46) 6 d_St_besideAny_46 (by decide) ?_
    rotate_left
    -- leaves: stop 6, stop 6
    · have hz : lb_b z v = false := hlt.mp (by omega)
      refine ar_loc (ih (i + 1) x (by omega) hx (fun e he => ?_)) ⟨rfl, rfl, rfl, rfl, li_i rfl (by omega), trivial⟩
      rw [hb e he]
      constructor
      · rintro ⟨q, h1, h2⟩; exact ⟨q, by omega, h2⟩
      · rintro ⟨q, h1, h2⟩
        by_cases hk : q = i
        · subst hk; rw [hv, Int.toNat_natCast, hz] at h2; exact absurd h2.1 (by simp)
        · exact ⟨q, by omega, h2⟩
    · have hz : lb_b z v = true := by
        cases hzz : lb_b z v with
        | true => rfl
        | false => have := hlt.mpr hzz; omega
      refine ar_loc (ih (i + 1) (b_lor x y) (by omega) (lb_in_lor _ _) (fun e he => ?_)) ⟨rfl, rfl, rfl, rfl, li_i rfl (by omega), trivial⟩
      rw [lb_lor, Bool.or_eq_true, hb e he, hyb e he]
      constructor
      · rintro (⟨q, h1, h2⟩ | h)
        · exact ⟨q, by omega, h2⟩
        · exact ⟨i, by omega, by rw [hv, Int.toNat_natCast]; exact hz, h⟩
      · rintro ⟨q, h1, h2⟩
        by_cases hk : q = i
        · subst hk; exact Or.inr h2.2
        · exact Or.inl ⟨q, by omega, h2⟩
theorem cm_St_besideAny (X : gx_T) (d : Nat) (G : mm_T) {t z : Int} {c : Nat} (hF : fx_R G) (ht : i3_in t) (hc : mm_I G 12 4 = c) (hc2 : c ≤ 200) (hw : ∀ k, k < c → 0 ≤ mm_I G 13 k ∧ mm_I G 13 k < 40) : aw_M X (d + 4) mt_St_besideAny [av_r (some 12), av_l z, av_i t] G 0 0 (fun r G' => (∃ y, r = some (av_l y) ∧ j6_in y ∧ ∀ e, e < 64 → (lb_b y e = true ↔ ∃ q, q < c ∧ lb_b z (mm_I G 13 q).toNat = true ∧ ∃ k, k < c ∧ sy_B (mm_I G 13) (mm_I G 14) (mm_I G 15) (mm_I G 16) t q k e)) ∧ G' = G) := by
  refine aw_enter pf_St_besideAny (Nat.le_of_ble_eq_true rfl) ?_
  refine ar_lconst (pc := 0) 0 d_St_besideAny_0 (by decide) ?_
  refine ar_lstore (pc := 1) d_St_besideAny_1 rfl (by decide) ?_
  refine ar_iconst (pc := 3) d_St_besideAny_3 ?_
  refine ar_istore (pc := 4) d_St_besideAny_4 rfl (by decide) ?_
  rotate_left
  -- leaves: stop 6
  · exact ar_loc (lp_St_besideAny X d G hF ht hc hc2 hw c 0 0 (by omega) ⟨by omega, by omega⟩ (fun e he => by rw [lb_0]; simp)) ⟨rfl, rfl, rfl, rfl, rfl, trivial⟩
theorem sy_key {w s b l : Nat → Int} {t : Int} {c p q : Nat} (hw : ∀ k, k < c → 0 ≤ w k ∧ w k < 40) (hp : p < 64) (hpq : p ≠ q) : (∃ q', q' < c ∧ lb_b (b_lshl 1 (p : Int)) (w q').toNat = true ∧ ∃ k, k < c ∧ sy_B w s b l t q' k q) ↔ (∃ j, j < c ∧ ∃ k, k < c ∧ sy_P w s b l t (p : Int) (q : Int) j k) := by
  constructor
  · rintro ⟨j, hj, hb, k, hk, g1, g2, g3, g4⟩
    rw [lb_shl hp, decide_eq_true_iff] at hb
    have := hw j hj
    exact ⟨j, hj, k, hk, by omega, g1, g3.symm, (sy_sh_c _ _ _ _ _).mp g4⟩
  · rintro ⟨j, hj, k, hk, g1, g2, g3, g4⟩
    refine ⟨j, hj, ?_, k, hk, g2, by omega, g3.symm, (sy_sh_c _ _ _ _ _).mp g4⟩
    rw [lb_shl hp, decide_eq_true_iff]
    omega
theorem cm_K_beside (X : gx_T) (d : Nat) (G : mm_T) {a e : Int} {c : Nat} (hF : fx_R G) (hW : fx_W G) (ha : i3_in a) (he : i3_in e) (hc : mm_I G 12 4 = c) (hc2 : c ≤ 200) (hw : ∀ k, k < c → 0 ≤ mm_I G 13 k ∧ mm_I G 13 k < 40) : aw_M X (d + 5) mt_K_beside [av_r (some 0), av_i a, av_i e] G 0 0 (fun r G' => r = some (av_i (if (0 ≤ a ∧ a < mm_I G 0 14) ∧ (0 ≤ e ∧ e < mm_I G 0 14) ∧ a ≠ e then bv_p (∃ j, j < c ∧ ∃ k, k < c ∧ sy_P (mm_I G 13) (mm_I G 14) (mm_I G 15) (mm_I G 16) (mm_I G 0 15) a e j k) else -1)) ∧ G' = G) := by
  have hW2 := hW.2.1
  have h1 := cm_K_wheelAt X (d + 3) G hF hW ha
  have h2 := cm_K_wheelAt X (d + 3) G hF hW he
  by_cases hin : 0 ≤ a ∧ a < mm_I G 0 14
  · rw [if_pos hin] at h1
    by_cases hin2 : 0 ≤ e ∧ e < mm_I G 0 14
    · rw [if_pos hin2] at h2
      obtain ⟨p, rfl⟩ : ∃ p : Nat, a = p := ⟨a.toNat, by omega⟩
      obtain ⟨q, rfl⟩ : ∃ q : Nat, e = q := ⟨e.toNat, by omega⟩
      refine aw_enter pf_K_beside (Nat.le_of_ble_eq_true rfl) (ar_rngI fun rg => ?_)
      have ht := rg 0 15
      refine ar_iload_n (pc := 0) d_K_beside_0 rfl ?_
      refine ar_iload_n (pc := 1) d_K_beside_1 rfl ?_
      refine ar_icmp_eq (pc := 2) 21 d_K_beside_2 (by decide) ⟨by omega, by omega⟩ ⟨by omega, by omega⟩ (fun h_2 => ?_) (fun h_2 => ?_)
      refine ar_iconst (pc := 21) d_K_beside_21 ?_
      refine ar_iret (pc := 22) d_K_beside_22 rfl ?_
      rotate_left
      refine ar_aload_n (pc := 5) d_K_beside_5 rfl ?_
      refine ar_iload_n (pc := 6) d_K_beside_6 rfl ?_
      refine ac_virt (pc := 7) (N := mt_K_wheelAt) _ _ mv_K_wheelAt ml_K_173 ck_11 d_K_beside_7 h1 (by first | rfl | exact sh_wheel (by omega) | exact sh_milk (by omega)) rfl rfl (Nat.le_of_ble_eq_true rfl) (Nat.le_of_eq (Nat.zero_add _)) (Nat.le_of_eq (Nat.zero_add _)) (fun r_7 G_7 h_7 => ?_)
      obtain ⟨rfl, e_7⟩ := h_7
      subst G_7
      refine ar_ifnull (pc := 10) 21 d_K_beside_10 (by decide) (fun h => by cases h) (fun _ _ => ?_)
      refine ar_aload_n (pc := 13) d_K_beside_13 rfl ?_
      refine ar_iload_n (pc := 14) d_K_beside_14 rfl ?_
      refine ac_virt (pc := 15) (N := mt_K_wheelAt) _ _ mv_K_wheelAt ml_K_173 ck_11 d_K_beside_15 h2 (by first | rfl | exact sh_wheel (by omega) | exact sh_milk (by omega)) rfl rfl (Nat.le_of_ble_eq_true rfl) (Nat.le_of_eq (Nat.zero_add _)) (Nat.le_of_eq (Nat.zero_add _)) (fun r_15 G_15 h_15 => ?_)
      obtain ⟨rfl, e_15⟩ := h_15
      subst G_15
      refine ar_ifnonnull (pc := 18) 23 d_K_beside_18 (by decide) (fun _ _ => ?_) (fun h => by cases h)
      refine ar_aload_n (pc := 23) d_K_beside_23 rfl ?_
      refine ar_getR (pc := 24) gf_K_38 d_K_beside_24 (by first | rfl | exact sh_wheel (by omega) | exact sh_milk (by omega)) (hF _ _ _ rfl) ?_
      refine ar_lconst (pc := 27) 1 d_K_beside_27 (by decide) ?_
      refine ar_iload_n (pc := 28) d_K_beside_28 rfl ?_
      refine ar_lshl (pc := 29) d_K_beside_29 ?_
      refine ar_aload_n (pc := 30) d_K_beside_30 rfl ?_
      refine ar_getI (pc := 31) gf_K_132 d_K_beside_31 (by first | rfl | exact sh_wheel (by omega) | exact sh_milk (by omega)) (fun r_31 => ?_)
      refine ac_virt (pc := 34) (N := mt_St_besideAny) _ _ mv_St_besideAny ml_K_259 ck_7 d_K_beside_34 (cm_St_besideAny _ _ _ hF ht hc hc2 hw) (by first | rfl | exact sh_wheel (by omega) | exact sh_milk (by omega)) rfl rfl (Nat.le_of_ble_eq_true rfl) (Nat.le_of_eq (Nat.zero_add _)) (Nat.le_of_eq (Nat.zero_add _)) (fun r_34 G_34 h_34 => ?_)
      obtain ⟨⟨y, rfl, hy, hyb⟩, e34⟩ := h_34
      subst G_34
      refine ar_lstore_n (pc := 37) d_K_beside_37 rfl (by decide) ?_
      refine ar_lload_n (pc := 38) d_K_beside_38 rfl ?_
      refine ar_iload_n (pc := 39) d_K_beside_39 rfl ?_
      refine ar_lushr (pc := 40) d_K_beside_40 ?_
      refine ar_lconst (pc := 41) 1 d_K_beside_41 (by decide) ?_
      refine ar_land (pc := 42) d_K_beside_42 ?_
      refine ar_lconst (pc := 43) 0 d_K_beside_43 (by decide) ?_
      refine ar_lcmp (pc := 44) d_K_beside_44 (lb_in_land _ _) ⟨by omega, by omega⟩ ?_
      refine ar_if_eq (pc := 45) 52 d_K_beside_45 (by decide) ⟨by omega, by omega⟩ (fun h_45 => ?_) (fun h_45 => ?_)
      refine ar_iconst (pc := 52) d_K_beside_52 ?_
      refine ar_iret (pc := 53) d_K_beside_53 rfl ?_
      rotate_left
      refine ar_iconst (pc := 48) d_K_beside_48 ?_
      refine ar_goto (pc := 49) 53 d_K_beside_49 (by decide) ?_
      refine ar_iret (pc := 53) d_K_beside_53 rfl ?_
      rotate_left
      -- leaves: ret 22, ret 53, ret 53
      · refine ⟨congrArg (fun x => some (av_i x)) ?_, rfl⟩
        rw [if_neg (by omega)]
      · have hlt := lb_test (w := q) (by omega) y
        have h6 : lb_b y q = false := hlt.mp (by omega)
        refine ⟨congrArg (fun x => some (av_i x)) ?_, rfl⟩
        rw [if_pos (by omega)]
        have key := sy_key (s := mm_I G 14) (b := mm_I G 15) (l := mm_I G 16) (t := mm_I G 0 15) (p := p) (q := q) hw (by omega) (by omega)
        refine bv_0 (fun z => ?_)
        have h5 := (hyb q (by omega)).mpr (key.mpr z)
        rw [h5] at h6; cases h6
      · have hlt := lb_test (w := q) (by omega) y
        have h6 : lb_b y q = true := by
          cases hzz : lb_b y q with
          | true => rfl
          | false => have := hlt.mpr hzz; omega
        refine ⟨congrArg (fun x => some (av_i x)) ?_, rfl⟩
        rw [if_pos (by omega)]
        have key := sy_key (s := mm_I G 14) (b := mm_I G 15) (l := mm_I G 16) (t := mm_I G 0 15) (p := p) (q := q) hw (by omega) (by omega)
        exact bv_1 (key.mp ((hyb q (by omega)).mp h6))
    · rw [if_neg hin2] at h2
      refine aw_enter pf_K_beside (Nat.le_of_ble_eq_true rfl) ?_
      refine ar_iload_n (pc := 0) d_K_beside_0 rfl ?_
      refine ar_iload_n (pc := 1) d_K_beside_1 rfl ?_
      refine ar_icmp_eq (pc := 2) 21 d_K_beside_2 (by decide) ⟨by omega, by omega⟩ ⟨by omega, by omega⟩ (fun h_2 => ?_) (fun h_2 => ?_)
      refine ar_iconst (pc := 21) d_K_beside_21 ?_
      refine ar_iret (pc := 22) d_K_beside_22 rfl ?_
      rotate_left
      refine ar_aload_n (pc := 5) d_K_beside_5 rfl ?_
      refine ar_iload_n (pc := 6) d_K_beside_6 rfl ?_
      refine ac_virt (pc := 7) (N := mt_K_wheelAt) _ _ mv_K_wheelAt ml_K_173 ck_11 d_K_beside_7 h1 (by first | rfl | exact sh_wheel (by omega) | exact sh_milk (by omega)) rfl rfl (Nat.le_of_ble_eq_true rfl) (Nat.le_of_eq (Nat.zero_add _)) (Nat.le_of_eq (Nat.zero_add _)) (fun r_7 G_7 h_7 => ?_)
      obtain ⟨rfl, e_7⟩ := h_7
      subst G_7
      refine ar_ifnull (pc := 10) 21 d_K_beside_10 (by decide) (fun h => by cases h) (fun _ _ => ?_)
      refine ar_aload_n (pc := 13) d_K_beside_13 rfl ?_
      refine ar_iload_n (pc := 14) d_K_beside_14 rfl ?_
      refine ac_virt (pc := 15) (N := mt_K_wheelAt) _ _ mv_K_wheelAt ml_K_173 ck_11 d_K_beside_15 h2 (by first | rfl | exact sh_wheel (by omega) | exact sh_milk (by omega)) rfl rfl (Nat.le_of_ble_eq_true rfl) (Nat.le_of_eq (Nat.zero_add _)) (Nat.le_of_eq (Nat.zero_add _)) (fun r_15 G_15 h_15 => ?_)
      obtain ⟨rfl, e_15⟩ := h_15
      subst G_15
      refine ar_ifnonnull (pc := 18) 23 d_K_beside_18 (by decide) (fun _ h => by cases h) (fun _ => ?_)
      refine ar_iconst (pc := 21) d_K_beside_21 ?_
      refine ar_iret (pc := 22) d_K_beside_22 rfl ?_
      rotate_left
      -- leaves: ret 22, ret 22
      all_goals (refine ⟨congrArg (fun x => some (av_i x)) ?_, rfl⟩)
      all_goals rw [if_neg (by omega)]
  · rw [if_neg hin] at h1
    refine aw_enter pf_K_beside (Nat.le_of_ble_eq_true rfl) ?_
    refine ar_iload_n (pc := 0) d_K_beside_0 rfl ?_
    refine ar_iload_n (pc := 1) d_K_beside_1 rfl ?_
    refine ar_icmp_eq (pc := 2) 21 d_K_beside_2 (by decide) ⟨by omega, by omega⟩ ⟨by omega, by omega⟩ (fun h_2 => ?_) (fun h_2 => ?_)
    refine ar_iconst (pc := 21) d_K_beside_21 ?_
    refine ar_iret (pc := 22) d_K_beside_22 rfl ?_
    rotate_left
    refine ar_aload_n (pc := 5) d_K_beside_5 rfl ?_
    refine ar_iload_n (pc := 6) d_K_beside_6 rfl ?_
    refine ac_virt (pc := 7) (N := mt_K_wheelAt) _ _ mv_K_wheelAt ml_K_173 ck_11 d_K_beside_7 h1 (by first | rfl | exact sh_wheel (by omega) | exact sh_milk (by omega)) rfl rfl (Nat.le_of_ble_eq_true rfl) (Nat.le_of_eq (Nat.zero_add _)) (Nat.le_of_eq (Nat.zero_add _)) (fun r_7 G_7 h_7 => ?_)
    obtain ⟨rfl, e_7⟩ := h_7
    subst G_7
    refine ar_ifnull (pc := 10) 21 d_K_beside_10 (by decide) (fun _ => ?_) (fun _ h => by cases h)
    refine ar_iconst (pc := 21) d_K_beside_21 ?_
    refine ar_iret (pc := 22) d_K_beside_22 rfl ?_
    rotate_left
    -- leaves: ret 22, ret 22
    all_goals (refine ⟨congrArg (fun x => some (av_i x)) ?_, rfl⟩)
    all_goals rw [if_neg (by omega)]
