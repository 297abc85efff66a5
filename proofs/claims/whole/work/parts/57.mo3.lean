/-! ===== the reference's reader: settling ===== -/
def wz_I (W : List Int) : Prop := ∀ x ∈ W, 40 ≤ x ∧ x ≤ 48
theorem wz_c {w : Int} {t : List Int} (h : wz_I (w :: t)) : (40 ≤ w ∧ w ≤ 48) ∧ wz_I t := ⟨h w List.mem_cons_self, fun x hx => h x (List.mem_cons_of_mem _ hx)⟩
theorem cm_Mo_settle (X : gx_T) (d : Nat) {B : Nat → Int} {z : Nat} {G : mm_T} {i v : Nat} {l : Int} (hF : fx_R G) (hl : 0 ≤ l ∧ l ≤ 100) : ∀ (W o : List Int) (G1 : mm_T), mo_F B z G G1 i v W o → wz_I W → W.length ≤ 399 → o.length + W.length ≤ 500 → aw_W X mt_Mo_settle (d + 3) 0 [(0, some (av_r (some 60))), (1, some (av_i l))] [] G1 0 0 (fun r G' => r = none ∧ mo_F B z G G' i v (pp_s l W o).1 (pp_s l W o).2) := by
  intro W
  induction W with
  | nil =>
    intro o G1 h hz h4 h5
    have e45 : mm_I G1 60 45 = 0 := h.2.2.2.2.2.1.1
    refine ar_aload_n (pc := 0) d_Mo_settle_0 rfl ?_
    refine ar_getIv (pc := 1) gf_Mo_276 d_Mo_settle_1 (by first | rfl | exact sh_wheel (by omega) | exact sh_milk (by omega)) e45 (fun r_1 => ?_)
    refine ar_if_le (pc := 4) 45 d_Mo_settle_4 (by decide) ⟨by omega, by omega⟩ (fun h_4 => ?_) (fun h_4 => by exfalso; omega)
    refine ar_ret (pc := 45) d_Mo_settle_45 rfl ?_
    rotate_left
    -- leaves: ret 45
    · exact ⟨rfl, h⟩
  | cons w t ih =>
    intro o G1 h hz h4 h5
    obtain ⟨hw, hz'⟩ := wz_c hz
    rw [List.length_cons] at h4 h5
    have e45 : mm_I G1 60 45 = (t.length : Nat) + 1 := by rw [h.2.2.2.2.2.1.1]; simp
    have e88 : mm_I G1 88 t.length = w := h.2.2.2.2.2.1.2.1.1
    have hF1 : fx_R G1 := fun a k b q => by rw [h.1.1]; exact hF a k b q
    rw [pp_s]
    by_cases hq : w ≠ 48 ∧ l ≤ w
    · rw [if_pos hq]
      have c39 := cm_Mo_pop X d hF h (by omega) (by omega) (by omega)
      have i1 := fun G2 q => ih (o ++ [oi_v w]) G2 q hz' (by omega) (by rw [List.length_append]; simp; omega)
      clear ih h hz
      have hF := hF1
      refine ar_aload_n (pc := 0) d_Mo_settle_0 rfl ?_
      refine ar_getIv (pc := 1) gf_Mo_276 d_Mo_settle_1 (by first | rfl | exact sh_wheel (by omega) | exact sh_milk (by omega)) e45 (fun r_1 => ?_)
      refine ar_if_le (pc := 4) 45 d_Mo_settle_4 (by decide) ⟨by omega, by omega⟩ (fun h_4 => by exfalso; omega) (fun h_4 => ?_)
      refine ar_aload_n (pc := 7) d_Mo_settle_7 rfl ?_
      refine ar_getR (pc := 8) gf_Mo_96 d_Mo_settle_8 (by first | rfl | exact sh_wheel (by omega) | exact sh_milk (by omega)) (hF _ _ _ rfl) ?_
      refine ar_aload_n (pc := 11) d_Mo_settle_11 rfl ?_
      refine ar_getIv (pc := 12) gf_Mo_276 d_Mo_settle_12 (by first | rfl | exact sh_wheel (by omega) | exact sh_milk (by omega)) e45 (fun r_12 => ?_)
      refine ar_iconst (pc := 15) d_Mo_settle_15 ?_
      refine ar_isub (pc := 16) d_Mo_settle_16 ?_
      refine ar_ialdv (pc := 17) d_Mo_settle_17 rfl (t.length) (by omega) (by omega) e88 (fun r_17 => ?_)
      refine ar_bipush (pc := 18) d_Mo_settle_18 (by decide) ?_
      refine ar_icmp_eq (pc := 20) 45 d_Mo_settle_20 (by decide) ⟨by omega, by omega⟩ ⟨by omega, by omega⟩ (fun h_20 => by exfalso; omega) (fun h_20 => ?_)
      refine ar_aload_n (pc := 23) d_Mo_settle_23 rfl ?_
      refine ar_getR (pc := 24) gf_Mo_96 d_Mo_settle_24 (by first | rfl | exact sh_wheel (by omega) | exact sh_milk (by omega)) (hF _ _ _ rfl) ?_
      refine ar_aload_n (pc := 27) d_Mo_settle_27 rfl ?_
      refine ar_getIv (pc := 28) gf_Mo_276 d_Mo_settle_28 (by first | rfl | exact sh_wheel (by omega) | exact sh_milk (by omega)) e45 (fun r_28 => ?_)
      refine ar_iconst (pc := 31) d_Mo_settle_31 ?_
      refine ar_isub (pc := 32) d_Mo_settle_32 ?_
      refine ar_ialdv (pc := 33) d_Mo_settle_33 rfl (t.length) (by omega) (by omega) e88 (fun r_33 => ?_)
      refine ar_iload_n (pc := 34) d_Mo_settle_34 rfl ?_
      refine ar_icmp_lt (pc := 35) 45 d_Mo_settle_35 (by decide) ⟨by omega, by omega⟩ ⟨by omega, by omega⟩ (fun h_35 => by exfalso; omega) (fun h_35 => ?_)
      refine ar_aload_n (pc := 38) d_Mo_settle_38 rfl ?_
      refine ac_virt (pc := 39) (N := mt_Mo_pop) _ _ mv_Mo_pop ml_Mo_285 ck_12 d_Mo_settle_39 c39 (by first | rfl | exact sh_wheel (by omega) | exact sh_milk (by omega)) rfl rfl (Nat.le_of_ble_eq_true rfl) (Nat.le_of_eq (Nat.zero_add _)) (Nat.le_of_eq (Nat.zero_add _)) (fun r_39 G_39 h_39 => ?_)
      obtain ⟨rfl, q39⟩ := h_39
      refine ar_goto (pc := 42) 0 d_Mo_settle_42 (by decide) ?_
      rotate_left
      -- leaves: stop 0
      · exact ar_loc (i1 _ q39) ⟨rfl, rfl, trivial⟩
    · rw [if_neg hq]
      clear ih hz
      have hF := hF1
      by_cases h48 : w = 48
      · skip
        refine ar_aload_n (pc := 0) d_Mo_settle_0 rfl ?_
        refine ar_getIv (pc := 1) gf_Mo_276 d_Mo_settle_1 (by first | rfl | exact sh_wheel (by omega) | exact sh_milk (by omega)) e45 (fun r_1 => ?_)
        refine ar_if_le (pc := 4) 45 d_Mo_settle_4 (by decide) ⟨by omega, by omega⟩ (fun h_4 => by exfalso; omega) (fun h_4 => ?_)
        refine ar_aload_n (pc := 7) d_Mo_settle_7 rfl ?_
        refine ar_getR (pc := 8) gf_Mo_96 d_Mo_settle_8 (by first | rfl | exact sh_wheel (by omega) | exact sh_milk (by omega)) (hF _ _ _ rfl) ?_
        refine ar_aload_n (pc := 11) d_Mo_settle_11 rfl ?_
        refine ar_getIv (pc := 12) gf_Mo_276 d_Mo_settle_12 (by first | rfl | exact sh_wheel (by omega) | exact sh_milk (by omega)) e45 (fun r_12 => ?_)
        refine ar_iconst (pc := 15) d_Mo_settle_15 ?_
        refine ar_isub (pc := 16) d_Mo_settle_16 ?_
        refine ar_ialdv (pc := 17) d_Mo_settle_17 rfl (t.length) (by omega) (by omega) e88 (fun r_17 => ?_)
        refine ar_bipush (pc := 18) d_Mo_settle_18 (by decide) ?_
        refine ar_icmp_eq (pc := 20) 45 d_Mo_settle_20 (by decide) ⟨by omega, by omega⟩ ⟨by omega, by omega⟩ (fun h_20 => ?_) (fun h_20 => by exfalso; omega)
        refine ar_ret (pc := 45) d_Mo_settle_45 rfl ?_
        rotate_left
        -- leaves: ret 45
        · exact ⟨rfl, h⟩
      · skip
        refine ar_aload_n (pc := 0) d_Mo_settle_0 rfl ?_
        refine ar_getIv (pc := 1) gf_Mo_276 d_Mo_settle_1 (by first | rfl | exact sh_wheel (by omega) | exact sh_milk (by omega)) e45 (fun r_1 => ?_)
        refine ar_if_le (pc := 4) 45 d_Mo_settle_4 (by decide) ⟨by omega, by omega⟩ (fun h_4 => by exfalso; omega) (fun h_4 => ?_)
        refine ar_aload_n (pc := 7) d_Mo_settle_7 rfl ?_
        refine ar_getR (pc := 8) gf_Mo_96 d_Mo_settle_8 (by first | rfl | exact sh_wheel (by omega) | exact sh_milk (by omega)) (hF _ _ _ rfl) ?_
        refine ar_aload_n (pc := 11) d_Mo_settle_11 rfl ?_
        refine ar_getIv (pc := 12) gf_Mo_276 d_Mo_settle_12 (by first | rfl | exact sh_wheel (by omega) | exact sh_milk (by omega)) e45 (fun r_12 => ?_)
        refine ar_iconst (pc := 15) d_Mo_settle_15 ?_
        refine ar_isub (pc := 16) d_Mo_settle_16 ?_
        refine ar_ialdv (pc := 17) d_Mo_settle_17 rfl (t.length) (by omega) (by omega) e88 (fun r_17 => ?_)
        refine ar_bipush (pc := 18) d_Mo_settle_18 (by decide) ?_
        refine ar_icmp_eq (pc := 20) 45 d_Mo_settle_20 (by decide) ⟨by omega, by omega⟩ ⟨by omega, by omega⟩ (fun h_20 => by exfalso; omega) (fun h_20 => ?_)
        refine ar_aload_n (pc := 23) d_Mo_settle_23 rfl ?_
        refine ar_getR (pc := 24) gf_Mo_96 d_Mo_settle_24 (by first | rfl | exact sh_wheel (by omega) | exact sh_milk (by omega)) (hF _ _ _ rfl) ?_
        refine ar_aload_n (pc := 27) d_Mo_settle_27 rfl ?_
        refine ar_getIv (pc := 28) gf_Mo_276 d_Mo_settle_28 (by first | rfl | exact sh_wheel (by omega) | exact sh_milk (by omega)) e45 (fun r_28 => ?_)
        refine ar_iconst (pc := 31) d_Mo_settle_31 ?_
        refine ar_isub (pc := 32) d_Mo_settle_32 ?_
        refine ar_ialdv (pc := 33) d_Mo_settle_33 rfl (t.length) (by omega) (by omega) e88 (fun r_33 => ?_)
        refine ar_iload_n (pc := 34) d_Mo_settle_34 rfl ?_
        refine ar_icmp_lt (pc := 35) 45 d_Mo_settle_35 (by decide) ⟨by omega, by omega⟩ ⟨by omega, by omega⟩ (fun h_35 => ?_) (fun h_35 => by exfalso; omega)
        refine ar_ret (pc := 45) d_Mo_settle_45 rfl ?_
        rotate_left
        -- leaves: ret 45
        · exact ⟨rfl, h⟩
theorem cm_Mo_settle' (X : gx_T) (d : Nat) {B : Nat → Int} {z : Nat} {G G1 : mm_T} {i v : Nat} {l : Int} {W o : List Int} (hF : fx_R G) (hl : 0 ≤ l ∧ l ≤ 100) (h : mo_F B z G G1 i v W o) (hz : wz_I W) (h4 : W.length ≤ 399) (h5 : o.length + W.length ≤ 500) : aw_M X (d + 3) mt_Mo_settle [av_r (some 60), av_i l] G1 0 0 (fun r G' => r = none ∧ mo_F B z G G' i v (pp_s l W o).1 (pp_s l W o).2) := by
  refine aw_enter pf_Mo_settle (Nat.le_of_ble_eq_true rfl) ?_
  exact ar_loc (cm_Mo_settle X d hF hl W o G1 h hz h4 h5) ⟨rfl, rfl, trivial⟩
theorem wt_mem {G : mm_T} : ∀ W : List Int, wt_R G W → ((∃ j, j < W.length ∧ mm_I G 88 j = 48) ↔ 48 ∈ W) := by
  intro W
  induction W with
  | nil => intro _; simp
  | cons w t ih =>
    intro h
    rw [List.mem_cons, ← ih h.2, List.length_cons]
    constructor
    · rintro ⟨j, h1, h2⟩
      by_cases e : j = t.length
      · left; rw [e, h.1] at h2; exact h2.symm
      · right; exact ⟨j, by omega, h2⟩
    · rintro (h1 | ⟨j, h1, h2⟩)
      · exact ⟨t.length, by omega, by rw [h.1]; exact h1.symm⟩
      · exact ⟨j, by omega, h2⟩
theorem lp_Mo_isOpen (X : gx_T) (d : Nat) {G1 : mm_T} {n : Nat} (hF : fx_R G1) (hn : n ≤ 400) (e45 : mm_I G1 60 45 = n) : ∀ m k (s : Int), k + m = n → ((s = 1 ∧ ∃ j, j < k ∧ mm_I G1 88 j = 48) ∨ (s = 0 ∧ ¬ ∃ j, j < k ∧ mm_I G1 88 j = 48)) → aw_W X mt_Mo_isOpen (d + 1) 4 [(0, some (av_r (some 60))), (1, some (av_i s)), (2, some (av_i (k : Int)))] [] G1 0 0 (fun r G' => ((r = some (av_i 1) ∧ ∃ j, j < n ∧ mm_I G1 88 j = 48) ∨ (r = some (av_i 0) ∧ ¬ ∃ j, j < n ∧ mm_I G1 88 j = 48)) ∧ G' = G1) := by
  intro m
  induction m with
  | zero =>
    intro k s hk hs
    have hk : k = n := by omega
    subst hk
    have hs01 : s = 0 ∨ s = 1 := by rcases hs with hs | hs; right; exact hs.1; left; exact hs.1
    have fin : (((some (av_i s) : Option av_T) = some (av_i 1) ∧ ∃ j, j < k ∧ mm_I G1 88 j = 48) ∨ ((some (av_i s) : Option av_T) = some (av_i 0) ∧ ¬ ∃ j, j < k ∧ mm_I G1 88 j = 48)) := by
      rcases hs with ⟨rfl, h⟩ | ⟨rfl, h⟩
      · exact Or.inl ⟨rfl, h⟩
      · exact Or.inr ⟨rfl, h⟩
    clear hs
    refine ar_iload_n (pc := 4) d_Mo_isOpen_4 rfl ?_
    refine ar_aload_n (pc := 5) d_Mo_isOpen_5 rfl ?_
    refine ar_getIv (pc := 6) gf_Mo_276 d_Mo_isOpen_6 (by first | rfl | exact sh_wheel (by omega) | exact sh_milk (by omega)) e45 (fun r_6 => ?_)
    refine ar_icmp_ge (pc := 9) 39 d_Mo_isOpen_9 (by decide) ⟨by omega, by omega⟩ ⟨by omega, by omega⟩ (fun h_9 => ?_) (fun h_9 => by exfalso; omega)
    refine ar_iload_n (pc := 39) d_Mo_isOpen_39 rfl ?_
    refine ar_zret (pc := 40) d_Mo_isOpen_40 rfl (by omega) ?_
    rotate_left
    -- leaves: ret 40
    · exact ⟨fin, rfl⟩
  | succ m ih =>
    intro k s hk hs
    have i1 := fun s' h' => ih (k + 1) s' (by omega) h'
    clear ih
    have y1 : s = 1 → ((1 : Int) = 1 ∧ ∃ j, j < k + 1 ∧ mm_I G1 88 j = 48) := fun q => ⟨rfl, by rcases hs with ⟨-, j, j1, j2⟩ | ⟨e, -⟩; exact ⟨j, by omega, j2⟩; omega⟩
    have y2 : mm_I G1 88 k = 48 → ((1 : Int) = 1 ∧ ∃ j, j < k + 1 ∧ mm_I G1 88 j = 48) := fun q => ⟨rfl, k, by omega, q⟩
    have y3 : s = 0 → mm_I G1 88 k ≠ 48 → ((0 : Int) = 0 ∧ ¬ ∃ j, j < k + 1 ∧ mm_I G1 88 j = 48) := fun q q2 => ⟨rfl, by
      rintro ⟨j, j1, j2⟩
      by_cases e : j = k
      · rw [e] at j2; exact q2 j2
      · rcases hs with ⟨e', -⟩ | ⟨-, h⟩
        · omega
        · exact h ⟨j, by omega, j2⟩⟩
    have hs01 : s = 0 ∨ s = 1 := by rcases hs with hs | hs; right; exact hs.1; left; exact hs.1
    clear hs
    generalize hx : mm_I G1 88 k = x at *
    rcases hs01 with rfl | rfl
    · skip
      refine ar_iload_n (pc := 4) d_Mo_isOpen_4 rfl ?_
      refine ar_aload_n (pc := 5) d_Mo_isOpen_5 rfl ?_
      refine ar_getIv (pc := 6) gf_Mo_276 d_Mo_isOpen_6 (by first | rfl | exact sh_wheel (by omega) | exact sh_milk (by omega)) e45 (fun r_6 => ?_)
      refine ar_icmp_ge (pc := 9) 39 d_Mo_isOpen_9 (by decide) ⟨by omega, by omega⟩ ⟨by omega, by omega⟩ (fun h_9 => by exfalso; omega) (fun h_9 => ?_)
      refine ar_iload_n (pc := 12) d_Mo_isOpen_12 rfl ?_
      refine ar_if_ne (pc := 13) 27 d_Mo_isOpen_13 (by decide) ⟨by omega, by omega⟩ (fun h_13 => by exfalso; omega) (fun h_13 => ?_)
      refine ar_aload_n (pc := 16) d_Mo_isOpen_16 rfl ?_
      refine ar_getR (pc := 17) gf_Mo_96 d_Mo_isOpen_17 (by first | rfl | exact sh_wheel (by omega) | exact sh_milk (by omega)) (hF _ _ _ rfl) ?_
      refine ar_iload_n (pc := 20) d_Mo_isOpen_20 rfl ?_
      refine ar_ialdv (pc := 21) d_Mo_isOpen_21 rfl (k) (by omega) (by omega) hx (fun r_21 => ?_)
      refine ar_bipush (pc := 22) d_Mo_isOpen_22 (by decide) ?_
      refine ar_icmp_ne (pc := 24) 31 d_Mo_isOpen_24 (by decide) ⟨by omega, by omega⟩ ⟨by omega, by omega⟩ (fun h_24 => ?_) (fun h_24 => ?_)
      refine ar_iconst (pc := 31) d_Mo_isOpen_31 ?_
      refine ar_istore_n (pc := 32) d_Mo_isOpen_32 rfl (by decide) ?_
      refine ar_iinc (pc := 33) d_Mo_isOpen_33 rfl rfl (by decide) ?_
      refine ar_goto (pc := 36) 4 d_Mo_isOpen_36 (by decide) ?_
      rotate_left
      refine ar_iconst (pc := 27) d_Mo_isOpen_27 ?_
      refine ar_goto (pc := 28) 32 d_Mo_isOpen_28 (by decide) ?_
      refine ar_istore_n (pc := 32) d_Mo_isOpen_32 rfl (by decide) ?_
      refine ar_iinc (pc := 33) d_Mo_isOpen_33 rfl rfl (by decide) ?_
      refine ar_goto (pc := 36) 4 d_Mo_isOpen_36 (by decide) ?_
      rotate_left
      -- leaves: stop 4, stop 4
      · exact ar_loc (i1 0 (Or.inr (y3 rfl h_24))) ⟨rfl, rfl, li_i rfl (by omega), trivial⟩
      · exact ar_loc (i1 1 (Or.inl (y2 (by omega)))) ⟨rfl, rfl, li_i rfl (by omega), trivial⟩
    · skip
      refine ar_iload_n (pc := 4) d_Mo_isOpen_4 rfl ?_
      refine ar_aload_n (pc := 5) d_Mo_isOpen_5 rfl ?_
      refine ar_getIv (pc := 6) gf_Mo_276 d_Mo_isOpen_6 (by first | rfl | exact sh_wheel (by omega) | exact sh_milk (by omega)) e45 (fun r_6 => ?_)
      refine ar_icmp_ge (pc := 9) 39 d_Mo_isOpen_9 (by decide) ⟨by omega, by omega⟩ ⟨by omega, by omega⟩ (fun h_9 => by exfalso; omega) (fun h_9 => ?_)
      refine ar_iload_n (pc := 12) d_Mo_isOpen_12 rfl ?_
      refine ar_if_ne (pc := 13) 27 d_Mo_isOpen_13 (by decide) ⟨by omega, by omega⟩ (fun h_13 => ?_) (fun h_13 => by exfalso; omega)
      refine ar_iconst (pc := 27) d_Mo_isOpen_27 ?_
      refine ar_goto (pc := 28) 32 d_Mo_isOpen_28 (by decide) ?_
      refine ar_istore_n (pc := 32) d_Mo_isOpen_32 rfl (by decide) ?_
      refine ar_iinc (pc := 33) d_Mo_isOpen_33 rfl rfl (by decide) ?_
      refine ar_goto (pc := 36) 4 d_Mo_isOpen_36 (by decide) ?_
      rotate_left
      -- leaves: stop 4
      · exact ar_loc (i1 1 (Or.inl (y1 rfl))) ⟨rfl, rfl, li_i rfl (by omega), trivial⟩
theorem cm_Mo_isOpen (X : gx_T) (d : Nat) {B : Nat → Int} {z : Nat} {G G1 : mm_T} {i v : Nat} {W o : List Int} (hF : fx_R G) (h : mo_F B z G G1 i v W o) (h4 : W.length ≤ 400) : aw_M X (d + 1) mt_Mo_isOpen [av_r (some 60)] G1 0 0 (fun r G' => r = some (av_i (if 48 ∈ W then 1 else 0)) ∧ G' = G1) := by
  have hF1 : fx_R G1 := fun a k b q => by rw [h.1.1]; exact hF a k b q
  have lp := lp_Mo_isOpen X d hF1 h4 h.2.2.2.2.2.1.1 W.length 0 0 (by omega) (Or.inr ⟨rfl, by rintro ⟨j, j1, -⟩; omega⟩)
  have hm := wt_mem W h.2.2.2.2.2.1.2.1
  rw [hm] at lp
  refine aw_enter pf_Mo_isOpen (Nat.le_of_ble_eq_true rfl) ?_
  refine ar_iconst (pc := 0) d_Mo_isOpen_0 ?_
  refine ar_istore_n (pc := 1) d_Mo_isOpen_1 rfl (by decide) ?_
  refine ar_iconst (pc := 2) d_Mo_isOpen_2 ?_
  refine ar_istore_n (pc := 3) d_Mo_isOpen_3 rfl (by decide) ?_
  rotate_left
  -- leaves: stop 4
  · refine ar_mono (fun r G' hr => ⟨?_, hr.2⟩) (ar_loc lp ⟨rfl, rfl, rfl, trivial⟩)
    rcases hr.1 with ⟨rfl, q⟩ | ⟨rfl, q⟩
    · rw [if_pos q]
    · rw [if_neg q]
theorem lp_Mo_settleOnes (X : gx_T) (d : Nat) {B : Nat → Int} {z : Nat} {G : mm_T} {i v : Nat} {a : Int} (hF : fx_R G) (ha : a = 0 ∨ a = 1) : ∀ (W o : List Int) (G1 : mm_T), mo_F B z G G1 i v W o → wz_I W → W.length ≤ 399 → o.length + W.length ≤ 500 → aw_W X mt_Mo_settleOnes (d + 3) 2 [(0, some (av_r (some 60))), (1, some (av_i a)), (2, some (av_i 1))] [] G1 0 0 (fun r G' => r = none ∧ mo_F B z G G' i v (pp_o a W o).1 (pp_o a W o).2) := by
  intro W
  induction W with
  | nil =>
    intro o G1 h hz h4 h5
    have e45 : mm_I G1 60 45 = 0 := h.2.2.2.2.2.1.1
    have fin : aw_W X mt_Mo_settleOnes (d + 3) 2 [(0, some (av_r (some 60))), (1, some (av_i a)), (2, some (av_i 0))] [] G1 0 0 (fun r G' => r = none ∧ mo_F B z G G' i v (pp_o a [] o).1 (pp_o a [] o).2) := by
      refine ar_iload_n (pc := 2) d_Mo_settleOnes_2 rfl ?_
      refine ar_if_eq (pc := 3) 63 d_Mo_settleOnes_3 (by decide) ⟨by omega, by omega⟩ (fun h_3 => ?_) (fun h_3 => by exfalso; omega)
      refine ar_ret (pc := 63) d_Mo_settleOnes_63 rfl ?_
      rotate_left
      -- leaves: ret 63
      · exact ⟨rfl, h⟩
    refine ar_iload_n (pc := 2) d_Mo_settleOnes_2 rfl ?_
    refine ar_if_eq (pc := 3) 63 d_Mo_settleOnes_3 (by decide) ⟨by omega, by omega⟩ (fun h_3 => by exfalso; omega) (fun h_3 => ?_)
    refine ar_aload_n (pc := 6) d_Mo_settleOnes_6 rfl ?_
    refine ar_getIv (pc := 7) gf_Mo_276 d_Mo_settleOnes_7 (by first | rfl | exact sh_wheel (by omega) | exact sh_milk (by omega)) e45 (fun r_7 => ?_)
    refine ar_if_ne (pc := 10) 18 d_Mo_settleOnes_10 (by decide) ⟨by omega, by omega⟩ (fun h_10 => by exfalso; omega) (fun h_10 => ?_)
    refine ar_bipush (pc := 13) d_Mo_settleOnes_13 (by decide) ?_
    refine ar_goto (pc := 15) 29 d_Mo_settleOnes_15 (by decide) ?_
    refine ar_istore_n (pc := 29) d_Mo_settleOnes_29 rfl (by decide) ?_
    refine ar_iload_n (pc := 30) d_Mo_settleOnes_30 rfl ?_
    refine ar_bipush (pc := 31) d_Mo_settleOnes_31 (by decide) ?_
    refine ar_icmp_eq (pc := 33) 50 d_Mo_settleOnes_33 (by decide) ⟨by omega, by omega⟩ ⟨by omega, by omega⟩ (fun h_33 => ?_) (fun h_33 => by exfalso; omega)
    refine ar_iconst (pc := 50) d_Mo_settleOnes_50 ?_
    refine ar_istore_n (pc := 51) d_Mo_settleOnes_51 rfl (by decide) ?_
    refine ar_iload_n (pc := 52) d_Mo_settleOnes_52 rfl ?_
    refine ar_if_eq (pc := 53) 60 d_Mo_settleOnes_53 (by decide) ⟨by omega, by omega⟩ (fun h_53 => ?_) (fun h_53 => by exfalso; omega)
    refine ar_goto (pc := 60) 2 d_Mo_settleOnes_60 (by decide) ?_
    rotate_left
    -- leaves: stop 2
    · exact ar_loc fin ⟨rfl, rfl, rfl, trivial⟩
  | cons w t ih =>
    intro o G1 h hz h4 h5
    obtain ⟨hw, hz'⟩ := wz_c hz
    rw [List.length_cons] at h4 h5
    have e45 : mm_I G1 60 45 = (t.length : Nat) + 1 := by rw [h.2.2.2.2.2.1.1]; simp
    have e88 : mm_I G1 88 t.length = w := h.2.2.2.2.2.1.2.1.1
    have hF1 : fx_R G1 := fun a k b q => by rw [h.1.1]; exact hF a k b q
    rw [pp_o]
    by_cases hq : w ≠ 48 ∧ (a = 0 ∨ w ≠ 41)
    · rw [if_pos hq]
      have c57 := cm_Mo_pop X d hF h (by omega) (by omega) (by omega)
      have i1 := fun G2 q => ih (o ++ [oi_v w]) G2 q hz' (by omega) (by rw [List.length_append]; simp; omega)
      clear ih h hz
      have hF := hF1
      by_cases ha0 : a = 0
      · subst ha0
        refine ar_iload_n (pc := 2) d_Mo_settleOnes_2 rfl ?_
        refine ar_if_eq (pc := 3) 63 d_Mo_settleOnes_3 (by decide) ⟨by omega, by omega⟩ (fun h_3 => by exfalso; omega) (fun h_3 => ?_)
        refine ar_aload_n (pc := 6) d_Mo_settleOnes_6 rfl ?_
        refine ar_getIv (pc := 7) gf_Mo_276 d_Mo_settleOnes_7 (by first | rfl | exact sh_wheel (by omega) | exact sh_milk (by omega)) e45 (fun r_7 => ?_)
        refine ar_if_ne (pc := 10) 18 d_Mo_settleOnes_10 (by decide) ⟨by omega, by omega⟩ (fun h_10 => ?_) (fun h_10 => by exfalso; omega)
        refine ar_aload_n (pc := 18) d_Mo_settleOnes_18 rfl ?_
        refine ar_getR (pc := 19) gf_Mo_96 d_Mo_settleOnes_19 (by first | rfl | exact sh_wheel (by omega) | exact sh_milk (by omega)) (hF _ _ _ rfl) ?_
        refine ar_aload_n (pc := 22) d_Mo_settleOnes_22 rfl ?_
        refine ar_getIv (pc := 23) gf_Mo_276 d_Mo_settleOnes_23 (by first | rfl | exact sh_wheel (by omega) | exact sh_milk (by omega)) e45 (fun r_23 => ?_)
        refine ar_iconst (pc := 26) d_Mo_settleOnes_26 ?_
        refine ar_isub (pc := 27) d_Mo_settleOnes_27 ?_
        refine ar_ialdv (pc := 28) d_Mo_settleOnes_28 rfl (t.length) (by omega) (by omega) e88 (fun r_28 => ?_)
        refine ar_istore_n (pc := 29) d_Mo_settleOnes_29 rfl (by decide) ?_
        refine ar_iload_n (pc := 30) d_Mo_settleOnes_30 rfl ?_
        refine ar_bipush (pc := 31) d_Mo_settleOnes_31 (by decide) ?_
        refine ar_icmp_eq (pc := 33) 50 d_Mo_settleOnes_33 (by decide) ⟨by omega, by omega⟩ ⟨by omega, by omega⟩ (fun h_33 => by exfalso; omega) (fun h_33 => ?_)
        refine ar_iload_n (pc := 36) d_Mo_settleOnes_36 rfl ?_
        refine ar_if_eq (pc := 37) 46 d_Mo_settleOnes_37 (by decide) ⟨by omega, by omega⟩ (fun h_37 => ?_) (fun h_37 => by exfalso; omega)
        refine ar_iconst (pc := 46) d_Mo_settleOnes_46 ?_
        refine ar_goto (pc := 47) 51 d_Mo_settleOnes_47 (by decide) ?_
        refine ar_istore_n (pc := 51) d_Mo_settleOnes_51 rfl (by decide) ?_
        refine ar_iload_n (pc := 52) d_Mo_settleOnes_52 rfl ?_
        refine ar_if_eq (pc := 53) 60 d_Mo_settleOnes_53 (by decide) ⟨by omega, by omega⟩ (fun h_53 => by exfalso; omega) (fun h_53 => ?_)
        refine ar_aload_n (pc := 56) d_Mo_settleOnes_56 rfl ?_
        refine ac_virt (pc := 57) (N := mt_Mo_pop) _ _ mv_Mo_pop ml_Mo_285 ck_12 d_Mo_settleOnes_57 c57 (by first | rfl | exact sh_wheel (by omega) | exact sh_milk (by omega)) rfl rfl (Nat.le_of_ble_eq_true rfl) (Nat.le_of_eq (Nat.zero_add _)) (Nat.le_of_eq (Nat.zero_add _)) (fun r_57 G_57 h_57 => ?_)
        obtain ⟨rfl, q57⟩ := h_57
        refine ar_goto (pc := 60) 2 d_Mo_settleOnes_60 (by decide) ?_
        rotate_left
        -- leaves: stop 2
        · exact ar_loc (i1 _ q57) ⟨rfl, rfl, rfl, trivial⟩
      · have ha1 : a = 1 := by omega
        subst ha1
        refine ar_iload_n (pc := 2) d_Mo_settleOnes_2 rfl ?_
        refine ar_if_eq (pc := 3) 63 d_Mo_settleOnes_3 (by decide) ⟨by omega, by omega⟩ (fun h_3 => by exfalso; omega) (fun h_3 => ?_)
        refine ar_aload_n (pc := 6) d_Mo_settleOnes_6 rfl ?_
        refine ar_getIv (pc := 7) gf_Mo_276 d_Mo_settleOnes_7 (by first | rfl | exact sh_wheel (by omega) | exact sh_milk (by omega)) e45 (fun r_7 => ?_)
        refine ar_if_ne (pc := 10) 18 d_Mo_settleOnes_10 (by decide) ⟨by omega, by omega⟩ (fun h_10 => ?_) (fun h_10 => by exfalso; omega)
        refine ar_aload_n (pc := 18) d_Mo_settleOnes_18 rfl ?_
        refine ar_getR (pc := 19) gf_Mo_96 d_Mo_settleOnes_19 (by first | rfl | exact sh_wheel (by omega) | exact sh_milk (by omega)) (hF _ _ _ rfl) ?_
        refine ar_aload_n (pc := 22) d_Mo_settleOnes_22 rfl ?_
        refine ar_getIv (pc := 23) gf_Mo_276 d_Mo_settleOnes_23 (by first | rfl | exact sh_wheel (by omega) | exact sh_milk (by omega)) e45 (fun r_23 => ?_)
        refine ar_iconst (pc := 26) d_Mo_settleOnes_26 ?_
        refine ar_isub (pc := 27) d_Mo_settleOnes_27 ?_
        refine ar_ialdv (pc := 28) d_Mo_settleOnes_28 rfl (t.length) (by omega) (by omega) e88 (fun r_28 => ?_)
        refine ar_istore_n (pc := 29) d_Mo_settleOnes_29 rfl (by decide) ?_
        refine ar_iload_n (pc := 30) d_Mo_settleOnes_30 rfl ?_
        refine ar_bipush (pc := 31) d_Mo_settleOnes_31 (by decide) ?_
        refine ar_icmp_eq (pc := 33) 50 d_Mo_settleOnes_33 (by decide) ⟨by omega, by omega⟩ ⟨by omega, by omega⟩ (fun h_33 => by exfalso; omega) (fun h_33 => ?_)
        refine ar_iload_n (pc := 36) d_Mo_settleOnes_36 rfl ?_
        refine ar_if_eq (pc := 37) 46 d_Mo_settleOnes_37 (by decide) ⟨by omega, by omega⟩ (fun h_37 => by exfalso; omega) (fun h_37 => ?_)
        refine ar_iload_n (pc := 40) d_Mo_settleOnes_40 rfl ?_
        refine ar_bipush (pc := 41) d_Mo_settleOnes_41 (by decide) ?_
        refine ar_icmp_eq (pc := 43) 50 d_Mo_settleOnes_43 (by decide) ⟨by omega, by omega⟩ ⟨by omega, by omega⟩ (fun h_43 => by exfalso; omega) (fun h_43 => ?_)
        refine ar_iconst (pc := 46) d_Mo_settleOnes_46 ?_
        refine ar_goto (pc := 47) 51 d_Mo_settleOnes_47 (by decide) ?_
        refine ar_istore_n (pc := 51) d_Mo_settleOnes_51 rfl (by decide) ?_
        refine ar_iload_n (pc := 52) d_Mo_settleOnes_52 rfl ?_
        refine ar_if_eq (pc := 53) 60 d_Mo_settleOnes_53 (by decide) ⟨by omega, by omega⟩ (fun h_53 => by exfalso; omega) (fun h_53 => ?_)
        refine ar_aload_n (pc := 56) d_Mo_settleOnes_56 rfl ?_
        refine ac_virt (pc := 57) (N := mt_Mo_pop) _ _ mv_Mo_pop ml_Mo_285 ck_12 d_Mo_settleOnes_57 c57 (by first | rfl | exact sh_wheel (by omega) | exact sh_milk (by omega)) rfl rfl (Nat.le_of_ble_eq_true rfl) (Nat.le_of_eq (Nat.zero_add _)) (Nat.le_of_eq (Nat.zero_add _)) (fun r_57 G_57 h_57 => ?_)
        obtain ⟨rfl, q57⟩ := h_57
        refine ar_goto (pc := 60) 2 d_Mo_settleOnes_60 (by decide) ?_
        rotate_left
        -- leaves: stop 2
        · exact ar_loc (i1 _ q57) ⟨rfl, rfl, rfl, trivial⟩
    · rw [if_neg hq]
      have fin : aw_W X mt_Mo_settleOnes (d + 3) 2 [(0, some (av_r (some 60))), (1, some (av_i a)), (2, some (av_i 0))] [] G1 0 0 (fun r G' => r = none ∧ mo_F B z G G' i v (w :: t, o).1 (w :: t, o).2) := by
        refine ar_iload_n (pc := 2) d_Mo_settleOnes_2 rfl ?_
        refine ar_if_eq (pc := 3) 63 d_Mo_settleOnes_3 (by decide) ⟨by omega, by omega⟩ (fun h_3 => ?_) (fun h_3 => by exfalso; omega)
        refine ar_ret (pc := 63) d_Mo_settleOnes_63 rfl ?_
        rotate_left
        -- leaves: ret 63
        · exact ⟨rfl, h⟩
      clear ih hz h
      have hF := hF1
      by_cases h48 : w = 48
      · skip
        refine ar_iload_n (pc := 2) d_Mo_settleOnes_2 rfl ?_
        refine ar_if_eq (pc := 3) 63 d_Mo_settleOnes_3 (by decide) ⟨by omega, by omega⟩ (fun h_3 => by exfalso; omega) (fun h_3 => ?_)
        refine ar_aload_n (pc := 6) d_Mo_settleOnes_6 rfl ?_
        refine ar_getIv (pc := 7) gf_Mo_276 d_Mo_settleOnes_7 (by first | rfl | exact sh_wheel (by omega) | exact sh_milk (by omega)) e45 (fun r_7 => ?_)
        refine ar_if_ne (pc := 10) 18 d_Mo_settleOnes_10 (by decide) ⟨by omega, by omega⟩ (fun h_10 => ?_) (fun h_10 => by exfalso; omega)
        refine ar_aload_n (pc := 18) d_Mo_settleOnes_18 rfl ?_
        refine ar_getR (pc := 19) gf_Mo_96 d_Mo_settleOnes_19 (by first | rfl | exact sh_wheel (by omega) | exact sh_milk (by omega)) (hF _ _ _ rfl) ?_
        refine ar_aload_n (pc := 22) d_Mo_settleOnes_22 rfl ?_
        refine ar_getIv (pc := 23) gf_Mo_276 d_Mo_settleOnes_23 (by first | rfl | exact sh_wheel (by omega) | exact sh_milk (by omega)) e45 (fun r_23 => ?_)
        refine ar_iconst (pc := 26) d_Mo_settleOnes_26 ?_
        refine ar_isub (pc := 27) d_Mo_settleOnes_27 ?_
        refine ar_ialdv (pc := 28) d_Mo_settleOnes_28 rfl (t.length) (by omega) (by omega) e88 (fun r_28 => ?_)
        refine ar_istore_n (pc := 29) d_Mo_settleOnes_29 rfl (by decide) ?_
        refine ar_iload_n (pc := 30) d_Mo_settleOnes_30 rfl ?_
        refine ar_bipush (pc := 31) d_Mo_settleOnes_31 (by decide) ?_
        refine ar_icmp_eq (pc := 33) 50 d_Mo_settleOnes_33 (by decide) ⟨by omega, by omega⟩ ⟨by omega, by omega⟩ (fun h_33 => ?_) (fun h_33 => by exfalso; omega)
        refine ar_iconst (pc := 50) d_Mo_settleOnes_50 ?_
        refine ar_istore_n (pc := 51) d_Mo_settleOnes_51 rfl (by decide) ?_
        refine ar_iload_n (pc := 52) d_Mo_settleOnes_52 rfl ?_
        refine ar_if_eq (pc := 53) 60 d_Mo_settleOnes_53 (by decide) ⟨by omega, by omega⟩ (fun h_53 => ?_) (fun h_53 => by exfalso; omega)
        refine ar_goto (pc := 60) 2 d_Mo_settleOnes_60 (by decide) ?_
        rotate_left
        -- leaves: stop 2
        · exact ar_loc fin ⟨rfl, rfl, rfl, trivial⟩
      · skip
        refine ar_iload_n (pc := 2) d_Mo_settleOnes_2 rfl ?_
        refine ar_if_eq (pc := 3) 63 d_Mo_settleOnes_3 (by decide) ⟨by omega, by omega⟩ (fun h_3 => by exfalso; omega) (fun h_3 => ?_)
        refine ar_aload_n (pc := 6) d_Mo_settleOnes_6 rfl ?_
        refine ar_getIv (pc := 7) gf_Mo_276 d_Mo_settleOnes_7 (by first | rfl | exact sh_wheel (by omega) | exact sh_milk (by omega)) e45 (fun r_7 => ?_)
        refine ar_if_ne (pc := 10) 18 d_Mo_settleOnes_10 (by decide) ⟨by omega, by omega⟩ (fun h_10 => ?_) (fun h_10 => by exfalso; omega)
        refine ar_aload_n (pc := 18) d_Mo_settleOnes_18 rfl ?_
        refine ar_getR (pc := 19) gf_Mo_96 d_Mo_settleOnes_19 (by first | rfl | exact sh_wheel (by omega) | exact sh_milk (by omega)) (hF _ _ _ rfl) ?_
        refine ar_aload_n (pc := 22) d_Mo_settleOnes_22 rfl ?_
        refine ar_getIv (pc := 23) gf_Mo_276 d_Mo_settleOnes_23 (by first | rfl | exact sh_wheel (by omega) | exact sh_milk (by omega)) e45 (fun r_23 => ?_)
        refine ar_iconst (pc := 26) d_Mo_settleOnes_26 ?_
        refine ar_isub (pc := 27) d_Mo_settleOnes_27 ?_
        refine ar_ialdv (pc := 28) d_Mo_settleOnes_28 rfl (t.length) (by omega) (by omega) e88 (fun r_28 => ?_)
        refine ar_istore_n (pc := 29) d_Mo_settleOnes_29 rfl (by decide) ?_
        refine ar_iload_n (pc := 30) d_Mo_settleOnes_30 rfl ?_
        refine ar_bipush (pc := 31) d_Mo_settleOnes_31 (by decide) ?_
        refine ar_icmp_eq (pc := 33) 50 d_Mo_settleOnes_33 (by decide) ⟨by omega, by omega⟩ ⟨by omega, by omega⟩ (fun h_33 => by exfalso; omega) (fun h_33 => ?_)
        refine ar_iload_n (pc := 36) d_Mo_settleOnes_36 rfl ?_
        refine ar_if_eq (pc := 37) 46 d_Mo_settleOnes_37 (by decide) ⟨by omega, by omega⟩ (fun h_37 => by exfalso; omega) (fun h_37 => ?_)
        refine ar_iload_n (pc := 40) d_Mo_settleOnes_40 rfl ?_
        refine ar_bipush (pc := 41) d_Mo_settleOnes_41 (by decide) ?_
        refine ar_icmp_eq (pc := 43) 50 d_Mo_settleOnes_43 (by decide) ⟨by omega, by omega⟩ ⟨by omega, by omega⟩ (fun h_43 => ?_) (fun h_43 => by exfalso; omega)
        refine ar_iconst (pc := 50) d_Mo_settleOnes_50 ?_
        refine ar_istore_n (pc := 51) d_Mo_settleOnes_51 rfl (by decide) ?_
        refine ar_iload_n (pc := 52) d_Mo_settleOnes_52 rfl ?_
        refine ar_if_eq (pc := 53) 60 d_Mo_settleOnes_53 (by decide) ⟨by omega, by omega⟩ (fun h_53 => ?_) (fun h_53 => by exfalso; omega)
        refine ar_goto (pc := 60) 2 d_Mo_settleOnes_60 (by decide) ?_
        rotate_left
        -- leaves: stop 2
        · exact ar_loc fin ⟨rfl, rfl, rfl, trivial⟩
theorem cm_Mo_settleOnes (X : gx_T) (d : Nat) {B : Nat → Int} {z : Nat} {G G1 : mm_T} {i v : Nat} {a : Int} {W o : List Int} (hF : fx_R G) (ha : a = 0 ∨ a = 1) (h : mo_F B z G G1 i v W o) (hz : wz_I W) (h4 : W.length ≤ 399) (h5 : o.length + W.length ≤ 500) : aw_M X (d + 3) mt_Mo_settleOnes [av_r (some 60), av_i a] G1 0 0 (fun r G' => r = none ∧ mo_F B z G G' i v (pp_o a W o).1 (pp_o a W o).2) := by
  have lp := lp_Mo_settleOnes X d hF ha W o G1 h hz h4 h5
  refine aw_enter pf_Mo_settleOnes (Nat.le_of_ble_eq_true rfl) ?_
  refine ar_iconst (pc := 0) d_Mo_settleOnes_0 ?_
  refine ar_istore_n (pc := 1) d_Mo_settleOnes_1 rfl (by decide) ?_
  rotate_left
  -- leaves: stop 2
  · exact ar_loc lp ⟨rfl, rfl, rfl, trivial⟩
