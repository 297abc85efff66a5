/-! ===== Arrays.fill; bands ===== -/
theorem li_i {L : List (Nat × Option av_T)} {i : Nat} {x y : Int} (h : ll_k L i = some (av_i x)) (e : x = y) : ll_k L i = some (av_i y) := e ▸ h
theorem li_l {L : List (Nat × Option av_T)} {i : Nat} {x y : Int} (h : ll_k L i = some (av_l x)) (e : x = y) : ll_k L i = some (av_l y) := e ▸ h
theorem ar_case {X : gx_T} {M : mt_T} {d pc : Nat} {L : List (Nat × Option av_T)} {st : List av_T} {G : mm_T} {k n : Nat} {Q : Option av_T → mm_T → Prop} (p : Prop) (h1 : p → aw_W X M d pc L st G k n Q) (h2 : ¬ p → aw_W X M d pc L st G k n Q) : aw_W X M d pc L st G k n Q := (Classical.em p).elim h1 h2
theorem ar_getIv {X : gx_T} {M : mt_T} {d pc : Nat} {L : List (Nat × Option av_T)} {st : List av_T} {G : mm_T} {k n : Nat} {Q : Option av_T → mm_T → Prop} {i c0 N kf a : Nat} {C : String} {T : u_T} {v : Int} (gf : gf_ok M.1.cls i c0 N kf C T 0) (hd : decode M.2.1 pc = .ok (.getfield i, 3)) (hs0 : sh_t a = (c0, N)) (hv : mm_I G a kf = v) (kk : i3_in v → aw_W X M d (pc + 3) L (av_i v :: st) G k n Q) : aw_W X M d pc L (av_r (some a) :: st) G k n Q := by
  subst hv; exact ar_getI gf hd hs0 kk
theorem ar_getZv {X : gx_T} {M : mt_T} {d pc : Nat} {L : List (Nat × Option av_T)} {st : List av_T} {G : mm_T} {k n : Nat} {Q : Option av_T → mm_T → Prop} {i c0 N kf a : Nat} {C : String} {T : u_T} {v : Int} (gf : gf_ok M.1.cls i c0 N kf C T 3) (hd : decode M.2.1 pc = .ok (.getfield i, 3)) (hs0 : sh_t a = (c0, N)) (hv : mm_I G a kf = v) (kk : i3_in v → aw_W X M d (pc + 3) L (av_i v :: st) G k n Q) : aw_W X M d pc L (av_r (some a) :: st) G k n Q := by
  subst hv; exact ar_getZ gf hd hs0 kk
theorem ar_getJv {X : gx_T} {M : mt_T} {d pc : Nat} {L : List (Nat × Option av_T)} {st : List av_T} {G : mm_T} {k n : Nat} {Q : Option av_T → mm_T → Prop} {i c0 N kf a : Nat} {C : String} {T : u_T} {v : Int} (gf : gf_ok M.1.cls i c0 N kf C T 1) (hd : decode M.2.1 pc = .ok (.getfield i, 3)) (hs0 : sh_t a = (c0, N)) (hv : mm_J G a kf = v) (kk : j6_in v → aw_W X M d (pc + 3) L (av_l v :: st) G k n Q) : aw_W X M d pc L (av_r (some a) :: st) G k n Q := by
  subst hv; exact ar_getJ gf hd hs0 kk
theorem ar_ialdv {X : gx_T} {M : mt_T} {d pc : Nat} {L : List (Nat × Option av_T)} {st : List av_T} {G : mm_T} {k n : Nat} {Q : Option av_T → mm_T → Prop} {x v : Int} {N a : Nat} (hd : decode M.2.1 pc = .ok (.iaload, 1)) (hs0 : sh_t a = (100, N)) (j : Nat) (hj : x = (j : Int)) (hjN : j < N) (hv : mm_I G a j = v) (kk : i3_in v → aw_W X M d (pc + 1) L (av_i v :: st) G k n Q) : aw_W X M d pc L (av_i x :: av_r (some a) :: st) G k n Q := by
  subst hv; exact ar_iald hd hs0 j hj hjN kk
theorem ar_zaldv {X : gx_T} {M : mt_T} {d pc : Nat} {L : List (Nat × Option av_T)} {st : List av_T} {G : mm_T} {k n : Nat} {Q : Option av_T → mm_T → Prop} {x v : Int} {N a : Nat} (hd : decode M.2.1 pc = .ok (.baload, 1)) (hs0 : sh_t a = (102, N)) (j : Nat) (hj : x = (j : Int)) (hjN : j < N) (hv : mm_I G a j = v) (kk : i3_in v → aw_W X M d (pc + 1) L (av_i v :: st) G k n Q) : aw_W X M d pc L (av_i x :: av_r (some a) :: st) G k n Q := by
  subst hv; exact ar_zald hd hs0 j hj hjN kk
theorem ar_laldv {X : gx_T} {M : mt_T} {d pc : Nat} {L : List (Nat × Option av_T)} {st : List av_T} {G : mm_T} {k n : Nat} {Q : Option av_T → mm_T → Prop} {x v : Int} {N a : Nat} (hd : decode M.2.1 pc = .ok (.laload, 1)) (hs0 : sh_t a = (101, N)) (j : Nat) (hj : x = (j : Int)) (hjN : j < N) (hv : mm_J G a j = v) (kk : j6_in v → aw_W X M d (pc + 1) L (av_l v :: st) G k n Q) : aw_W X M d pc L (av_i x :: av_r (some a) :: st) G k n Q := by
  subst hv; exact ar_lald hd hs0 j hj hjN kk
def ms_FI (G : mm_T) (a n : Nat) (v : Int) : mm_T := (G.1, fun b j => if b = a ∧ j < n then v else G.2.1 b j, G.2.2.1, G.2.2.2)
def ms_FJ (G : mm_T) (a n : Nat) (v : Int) : mm_T := (G.1, G.2.1, fun b j => if b = a ∧ j < n then v else G.2.2.1 b j, G.2.2.2)
theorem ms_FI_0 (G : mm_T) (a : Nat) (v : Int) : ms_FI G a 0 v = G := by
  obtain ⟨A, I, J, R⟩ := G
  simp [ms_FI]
theorem ms_FJ_0 (G : mm_T) (a : Nat) (v : Int) : ms_FJ G a 0 v = G := by
  obtain ⟨A, I, J, R⟩ := G
  simp [ms_FJ]
theorem ms_FI_s (G : mm_T) (a n : Nat) (v : Int) : ms_I (ms_FI G a n v) a n v = ms_FI G a (n + 1) v := by
  obtain ⟨A, I, J, R⟩ := G
  refine congrArg (fun f => (A, f, J, R)) (funext fun b => funext fun j => ?_)
  show (if b = a ∧ j = n then v else if b = a ∧ j < n then v else I b j) = if b = a ∧ j < n + 1 then v else I b j
  split <;> split <;> first | rfl | omega | (split <;> first | rfl | omega)
theorem ms_FJ_s (G : mm_T) (a n : Nat) (v : Int) : ms_J (ms_FJ G a n v) a n v = ms_FJ G a (n + 1) v := by
  obtain ⟨A, I, J, R⟩ := G
  refine congrArg (fun f => (A, I, f, R)) (funext fun b => funext fun j => ?_)
  show (if b = a ∧ j = n then v else if b = a ∧ j < n then v else J b j) = if b = a ∧ j < n + 1 then v else J b j
  split <;> split <;> first | rfl | omega | (split <;> first | rfl | omega)
/-- fewer locals, told behind -/
theorem ar_loc {X : gx_T} {M : mt_T} {d pc : Nat} {L L' : List (Nat × Option av_T)} {st : List av_T} {G : mm_T} {k n : Nat} {Q : Option av_T → mm_T → Prop} (kk : aw_W X M d pc L' st G k n Q) (h : ll_s L L') : aw_W X M d pc L st G k n Q := ar_locals _ h kk
theorem lp_fill_I (X : gx_T) (d : Nat) (G : mm_T) {a N : Nat} {v : Int} (hs : sh_t a = (100, N)) (hv : i3_in v) : ∀ n i, i + n = N → aw_W X mt_JA_fill_I (d + 1) 5 [(0, some (av_r (some a))), (1, some (av_i v)), (2, some (av_i (i : Int))), (3, some (av_i (N : Int)))] [] (ms_FI G a i v) 0 0 (fun r G' => r = none ∧ G' = ms_FI G a N v) := by
  have hN := (sh_small hs).1
  intro n
  induction n with
  | zero =>
    intro i hi
    refine ar_iload_n (pc := 5) d_JA_fill_I_5 rfl ?_
    refine ar_iload_n (pc := 6) d_JA_fill_I_6 rfl ?_
    refine ar_icmp_ge (pc := 7) 20 d_JA_fill_I_7 (by decide) ⟨by omega, by omega⟩ ⟨by omega, by omega⟩ (fun h_7 => ?_) (fun h_7 => by exfalso; omega)
    refine ar_ret (pc := 20) d_JA_fill_I_20 rfl ?_
    rotate_left
    -- leaves: ret 20
    · rw [show i = N by omega]; exact ⟨rfl, rfl⟩
  | succ n ih =>
    intro i hi
    refine ar_iload_n (pc := 5) d_JA_fill_I_5 rfl ?_
    refine ar_iload_n (pc := 6) d_JA_fill_I_6 rfl ?_
    refine ar_icmp_ge (pc := 7) 20 d_JA_fill_I_7 (by decide) ⟨by omega, by omega⟩ ⟨by omega, by omega⟩ (fun h_7 => by exfalso; omega) (fun h_7 => ?_)
    refine ar_aload_n (pc := 10) d_JA_fill_I_10 rfl ?_
    refine ar_iload_n (pc := 11) d_JA_fill_I_11 rfl ?_
    refine ar_iload_n (pc := 12) d_JA_fill_I_12 rfl ?_
    refine ar_iast (pc := 13) d_JA_fill_I_13 hs (i) (by omega) (by omega) ⟨by omega, by omega⟩ ?_
    refine ar_iinc (pc := 14) d_JA_fill_I_14 rfl rfl (by decide) ?_
    refine ar_goto (pc := 17) 5 d_JA_fill_I_17 (by decide) ?_
    rotate_left
    -- leaves: stop 5
    · rw [ms_FI_s]
      exact ar_loc (ih (i + 1) (by omega)) ⟨rfl, rfl, li_i rfl (by omega), rfl, trivial⟩
theorem cm_JA_fill_I (X : gx_T) (d : Nat) (G : mm_T) {a N : Nat} {v : Int} (hs : sh_t a = (100, N)) (hv : i3_in v) : aw_M X (d + 1) mt_JA_fill_I [av_r (some a), av_i v] G 0 0 (fun r G' => r = none ∧ G' = ms_FI G a N v) := by
  refine aw_enter pf_JA_fill_I (Nat.le_of_ble_eq_true rfl) ?_
  refine ar_iconst (pc := 0) d_JA_fill_I_0 ?_
  refine ar_istore_n (pc := 1) d_JA_fill_I_1 rfl (by decide) ?_
  refine ar_aload_n (pc := 2) d_JA_fill_I_2 rfl ?_
  refine ar_alen100 (pc := 3) d_JA_fill_I_3 hs ?_
  refine ar_istore_n (pc := 4) d_JA_fill_I_4 rfl (by decide) ?_
  rotate_left
  -- leaves: stop 5
  · have h := lp_fill_I X d G hs hv N 0 (by omega)
    rw [ms_FI_0] at h
    exact ar_loc h ⟨rfl, rfl, rfl, rfl, trivial⟩
theorem lp_fill_J (X : gx_T) (d : Nat) (G : mm_T) {a N : Nat} {v : Int} (hs : sh_t a = (101, N)) (hv : j6_in v) : ∀ n i, i + n = N → aw_W X mt_JA_fill_J (d + 1) 6 [(0, some (av_r (some a))), (1, some (av_l v)), (3, some (av_i (i : Int))), (4, some (av_i (N : Int)))] [] (ms_FJ G a i v) 0 0 (fun r G' => r = none ∧ G' = ms_FJ G a N v) := by
  have hN := (sh_small hs).1
  intro n
  induction n with
  | zero =>
    intro i hi
    refine ar_iload_n (pc := 6) d_JA_fill_J_6 rfl ?_
    refine ar_iload (pc := 7) d_JA_fill_J_7 rfl ?_
    refine ar_icmp_ge (pc := 9) 22 d_JA_fill_J_9 (by decide) ⟨by omega, by omega⟩ ⟨by omega, by omega⟩ (fun h_9 => ?_) (fun h_9 => by exfalso; omega)
    refine ar_ret (pc := 22) d_JA_fill_J_22 rfl ?_
    rotate_left
    -- leaves: ret 22
    · rw [show i = N by omega]; exact ⟨rfl, rfl⟩
  | succ n ih =>
    intro i hi
    refine ar_iload_n (pc := 6) d_JA_fill_J_6 rfl ?_
    refine ar_iload (pc := 7) d_JA_fill_J_7 rfl ?_
    refine ar_icmp_ge (pc := 9) 22 d_JA_fill_J_9 (by decide) ⟨by omega, by omega⟩ ⟨by omega, by omega⟩ (fun h_9 => by exfalso; omega) (fun h_9 => ?_)
    refine ar_aload_n (pc := 12) d_JA_fill_J_12 rfl ?_
    refine ar_iload_n (pc := 13) d_JA_fill_J_13 rfl ?_
    refine ar_lload_n (pc := 14) d_JA_fill_J_14 rfl ?_
    refine ar_last (pc := 15) d_JA_fill_J_15 hs (i) (by omega) (by omega) ⟨by omega, by omega⟩ ?_
    refine ar_iinc (pc := 16) d_JA_fill_J_16 rfl rfl (by decide) ?_
    refine ar_goto (pc := 19) 6 d_JA_fill_J_19 (by decide) ?_
    rotate_left
    -- leaves: stop 6
    · rw [ms_FJ_s]
      exact ar_loc (ih (i + 1) (by omega)) ⟨rfl, rfl, li_i rfl (by omega), rfl, trivial⟩
theorem cm_JA_fill_J (X : gx_T) (d : Nat) (G : mm_T) {a N : Nat} {v : Int} (hs : sh_t a = (101, N)) (hv : j6_in v) : aw_M X (d + 1) mt_JA_fill_J [av_r (some a), av_l v] G 0 0 (fun r G' => r = none ∧ G' = ms_FJ G a N v) := by
  refine aw_enter pf_JA_fill_J (Nat.le_of_ble_eq_true rfl) ?_
  refine ar_iconst (pc := 0) d_JA_fill_J_0 ?_
  refine ar_istore_n (pc := 1) d_JA_fill_J_1 rfl (by decide) ?_
  refine ar_aload_n (pc := 2) d_JA_fill_J_2 rfl ?_
  refine ar_alen101 (pc := 3) d_JA_fill_J_3 hs ?_
  refine ar_istore (pc := 4) d_JA_fill_J_4 rfl (by decide) ?_
  rotate_left
  -- leaves: stop 6
  · have h := lp_fill_J X d G hs hv N 0 (by omega)
    rw [ms_FJ_0] at h
    exact ar_loc h ⟨rfl, rfl, rfl, rfl, trivial⟩
/-- the band that counts: of those from place f on, the first n -/
def bd_best (ages : Nat → Int) (age : Int) (f : Nat) : Nat → Int
  | 0 => -1
  | n + 1 => if ages (f + n) ≤ age ∧ (bd_best ages age f n < 0 ∨ ages (bd_best ages age f n).toNat ≤ ages (f + n)) then ((f + n : Nat) : Int) else bd_best ages age f n
theorem bd_rng (ages : Nat → Int) (age : Int) (f n : Nat) : -1 ≤ bd_best ages age f n ∧ bd_best ages age f n < (f + n : Nat) := by
  induction n with
  | zero => constructor <;> simp [bd_best] <;> omega
  | succ n ih =>
    rw [bd_best]
    split <;> omega
/-- does an air suit a kind's age -/
def bd_suit (cnt ages leasts mosts : Nat → Int) (kd age air : Int) : Prop := let b := bd_best ages age (4 * kd.toNat) (cnt kd.toNat).toNat; b < 0 ∨ (leasts b.toNat ≤ air ∧ air ≤ mosts b.toNat)
theorem cm_Ba_haveRoomFor (X : gx_T) (d : Nat) (G : mm_T) {kd : Int} (hF : fx_R G) (hk : i3_in kd) : aw_M X (d + 2) mt_Ba_haveRoomFor [av_r (some 7), av_i kd] G 0 0 (fun r G' => r = some (av_i (if 0 ≤ kd ∧ kd ≤ 2 ∧ mm_I G 8 kd.toNat < 4 then 1 else 0)) ∧ G' = G) := by
  refine aw_enter pf_Ba_haveRoomFor (Nat.le_of_ble_eq_true rfl) ?_
  refine ar_iload_n (pc := 0) d_Ba_haveRoomFor_0 rfl ?_
  refine ar_iconst (pc := 1) d_Ba_haveRoomFor_1 ?_
  refine ac_statN (pc := 2) (N := mt_K_isUpTo) _ _ sv_K_isUpTo (List.mem_of_getElem? (i := 10) rfl) d_Ba_haveRoomFor_2 (cm_K_isUpTo _ _ _ ⟨by omega, by omega⟩ ⟨by omega, by omega⟩) rfl rfl (Nat.le_of_ble_eq_true rfl) (Nat.le_of_eq (Nat.zero_add _)) (Nat.le_of_eq (Nat.zero_add _)) (fun r_2 G_2 h_2 => ?_)
  obtain ⟨rfl, e_2⟩ := h_2
  subst G_2
  refine ar_if_eq (pc := 5) 22 d_Ba_haveRoomFor_5 (by decide) ⟨by omega, by omega⟩ (fun h_5 => ?_) (fun h_5 => ?_)
  refine ar_iconst (pc := 22) d_Ba_haveRoomFor_22 ?_
  refine ar_zret (pc := 23) d_Ba_haveRoomFor_23 rfl (by omega) ?_
  rotate_left
  refine ar_aload_n (pc := 8) d_Ba_haveRoomFor_8 rfl ?_
  refine ar_getR (pc := 9) gf_Ba_9 d_Ba_haveRoomFor_9 (by first | rfl | exact sh_wheel (by omega) | exact sh_milk (by omega)) (hF _ _ _ rfl) ?_
  refine ar_iload_n (pc := 12) d_Ba_haveRoomFor_12 rfl ?_
  refine ar_iald (pc := 13) d_Ba_haveRoomFor_13 rfl _ (Int.toNat_of_nonneg (by omega)).symm (by omega) (fun r_13 => ?_)
  refine ar_iconst (pc := 14) d_Ba_haveRoomFor_14 ?_
  refine ar_icmp_ge (pc := 15) 22 d_Ba_haveRoomFor_15 (by decide) ⟨by omega, by omega⟩ ⟨by omega, by omega⟩ (fun h_15 => ?_) (fun h_15 => ?_)
  refine ar_iconst (pc := 22) d_Ba_haveRoomFor_22 ?_
  refine ar_zret (pc := 23) d_Ba_haveRoomFor_23 rfl (by omega) ?_
  rotate_left
  refine ar_iconst (pc := 18) d_Ba_haveRoomFor_18 ?_
  refine ar_goto (pc := 19) 23 d_Ba_haveRoomFor_19 (by decide) ?_
  refine ar_zret (pc := 23) d_Ba_haveRoomFor_23 rfl (by omega) ?_
  rotate_left
  -- leaves: ret 23, ret 23, ret 23
  all_goals (refine ⟨?_, rfl⟩)
  all_goals first | rw [if_pos (by omega)] | rw [if_neg (by omega)]
theorem cm_Ba_keep (X : gx_T) (d : Nat) (G : mm_T) {kd ag le mo : Int} (hF : fx_R G) (hk : 0 ≤ kd ∧ kd ≤ 2) (hc : 0 ≤ mm_I G 8 kd.toNat ∧ mm_I G 8 kd.toNat < 4) (h1 : i3_in ag) (h2 : i3_in le) (h3 : i3_in mo) : aw_M X (d + 3) mt_Ba_keep [av_r (some 7), av_i kd, av_i ag, av_i le, av_i mo] G 0 0 (fun r G' => r = some (av_i (mm_I G 8 kd.toNat + 1)) ∧ ∃ p : Nat, (p : Int) = 4 * kd + mm_I G 8 kd.toNat ∧ G' = ms_I (ms_I (ms_I (ms_I G 9 p ag) 10 p le) 11 p mo) 8 kd.toNat (mm_I G 8 kd.toNat + 1)) := by
  obtain ⟨p, hp⟩ : ∃ p : Nat, (p : Int) = kd * 4 + mm_I G 8 kd.toNat := ⟨(kd * 4 + mm_I G 8 kd.toNat).toNat, by omega⟩
  refine aw_enter pf_Ba_keep (Nat.le_of_ble_eq_true rfl) ?_
  refine ar_aload_n (pc := 0) d_Ba_keep_0 rfl ?_
  refine ar_iload_n (pc := 1) d_Ba_keep_1 rfl ?_
  refine ac_virt (pc := 2) (N := mt_Ba_haveRoomFor) _ _ mv_Ba_haveRoomFor ml_Ba_28 ck_0 d_Ba_keep_2 (cm_Ba_haveRoomFor _ _ _ hF ⟨by omega, by omega⟩) (by first | rfl | exact sh_wheel (by omega) | exact sh_milk (by omega)) rfl rfl (Nat.le_of_ble_eq_true rfl) (Nat.le_of_eq (Nat.zero_add _)) (Nat.le_of_eq (Nat.zero_add _)) (fun r_2 G_2 h_2 => ?_)
  obtain ⟨rfl, e_2⟩ := h_2
  subst G_2
  refine ar_if_ne (pc := 5) 10 d_Ba_keep_5 (by decide) ⟨by omega, by omega⟩ (fun h_5 => ?_) (fun h_5 => by exfalso; omega)
  refine ar_iload_n (pc := 10) d_Ba_keep_10 rfl ?_
  refine ar_iconst (pc := 11) d_Ba_keep_11 ?_
  refine ar_imul (pc := 12) d_Ba_keep_12 ?_
  refine ar_aload_n (pc := 13) d_Ba_keep_13 rfl ?_
  refine ar_getR (pc := 14) gf_Ba_9 d_Ba_keep_14 (by first | rfl | exact sh_wheel (by omega) | exact sh_milk (by omega)) (hF _ _ _ rfl) ?_
  refine ar_iload_n (pc := 17) d_Ba_keep_17 rfl ?_
  refine ar_iald (pc := 18) d_Ba_keep_18 rfl _ (Int.toNat_of_nonneg (by omega)).symm (by omega) (fun r_18 => ?_)
  refine ar_iadd (pc := 19) d_Ba_keep_19 ?_
  refine ar_istore (pc := 20) d_Ba_keep_20 rfl (by decide) ?_
  refine ar_aload_n (pc := 22) d_Ba_keep_22 rfl ?_
  refine ar_getR (pc := 23) gf_Ba_15 d_Ba_keep_23 (by first | rfl | exact sh_wheel (by omega) | exact sh_milk (by omega)) (hF _ _ _ rfl) ?_
  refine ar_iload (pc := 26) d_Ba_keep_26 rfl ?_
  refine ar_iload_n (pc := 28) d_Ba_keep_28 rfl ?_
  refine ar_iast (pc := 29) d_Ba_keep_29 rfl (p) (by omega) (by omega) ⟨by omega, by omega⟩ ?_
  refine ar_aload_n (pc := 30) d_Ba_keep_30 rfl ?_
  refine ar_getR (pc := 31) gf_Ba_18 d_Ba_keep_31 (by first | rfl | exact sh_wheel (by omega) | exact sh_milk (by omega)) (hF _ _ _ rfl) ?_
  refine ar_iload (pc := 34) d_Ba_keep_34 rfl ?_
  refine ar_iload_n (pc := 36) d_Ba_keep_36 rfl ?_
  refine ar_iast (pc := 37) d_Ba_keep_37 rfl (p) (by omega) (by omega) ⟨by omega, by omega⟩ ?_
  refine ar_aload_n (pc := 38) d_Ba_keep_38 rfl ?_
  refine ar_getR (pc := 39) gf_Ba_21 d_Ba_keep_39 (by first | rfl | exact sh_wheel (by omega) | exact sh_milk (by omega)) (hF _ _ _ rfl) ?_
  refine ar_iload (pc := 42) d_Ba_keep_42 rfl ?_
  refine ar_iload (pc := 44) d_Ba_keep_44 rfl ?_
  refine ar_iast (pc := 46) d_Ba_keep_46 rfl (p) (by omega) (by omega) ⟨by omega, by omega⟩ ?_
  refine ar_aload_n (pc := 47) d_Ba_keep_47 rfl ?_
  refine ar_getR (pc := 48) gf_Ba_9 d_Ba_keep_48 (by first | rfl | exact sh_wheel (by omega) | exact sh_milk (by omega)) (hF _ _ _ rfl) ?_
  refine ar_iload_n (pc := 51) d_Ba_keep_51 rfl ?_
  refine ar_dup2 (pc := 52) d_Ba_keep_52 rfl rfl ?_
  refine ar_iald (pc := 53) d_Ba_keep_53 rfl _ (Int.toNat_of_nonneg (by omega)).symm (by omega) (fun r_53 => ?_)
  refine ar_iconst (pc := 54) d_Ba_keep_54 ?_
  refine ar_iadd (pc := 55) d_Ba_keep_55 ?_
  refine ar_iast (pc := 56) d_Ba_keep_56 rfl _ (Int.toNat_of_nonneg (by omega)).symm (by omega) (show i3_in (mm_I G 8 kd.toNat + 1) from ⟨by omega, by omega⟩) ?_
  refine ar_aload_n (pc := 57) d_Ba_keep_57 rfl ?_
  refine ar_getR (pc := 58) gf_Ba_9 d_Ba_keep_58 (by first | rfl | exact sh_wheel (by omega) | exact sh_milk (by omega)) (hF _ _ _ rfl) ?_
  refine ar_iload_n (pc := 61) d_Ba_keep_61 rfl ?_
  refine ar_iald (pc := 62) d_Ba_keep_62 rfl _ (Int.toNat_of_nonneg (by omega)).symm (by omega) (fun r_62 => ?_)
  refine ar_iret (pc := 63) d_Ba_keep_63 rfl ?_
  rotate_left
  -- leaves: ret 63
  · refine ⟨?_, p, by omega, rfl⟩
    show some (av_i (up_2 _ _ _ _ _ _)) = _
    rw [up_2_s]; rfl
theorem lp_Ba_placeFor (X : gx_T) (d : Nat) (G : mm_T) {kd : Nat} {age : Int} (hF : fx_R G) (hk : kd ≤ 2) (hage : i3_in age) {c : Nat} (hc : mm_I G 8 kd = c) (hc4 : c ≤ 4) : ∀ n i, i + n = c → aw_W X mt_Ba_placeFor (d + 2) 21 [(0, some (av_r (some 7))), (1, some (av_i (kd : Int))), (2, some (av_i age)), (3, some (av_i (bd_best (mm_I G 9) age (4 * kd) i))), (4, some (av_i ((4 * kd : Nat) : Int))), (5, some (av_i ((4 * kd + i : Nat) : Int)))] [] G 0 0 (fun r G' => r = some (av_i (bd_best (mm_I G 9) age (4 * kd) c)) ∧ G' = G) := by
  intro n
  induction n with
  | zero =>
    intro i hi
    refine ar_iload (pc := 21) d_Ba_placeFor_21 rfl ?_
    refine ar_iload (pc := 23) d_Ba_placeFor_23 rfl ?_
    refine ar_aload_n (pc := 25) d_Ba_placeFor_25 rfl ?_
    refine ar_getR (pc := 26) gf_Ba_9 d_Ba_placeFor_26 (by first | rfl | exact sh_wheel (by omega) | exact sh_milk (by omega)) (hF _ _ _ rfl) ?_
    refine ar_iload_n (pc := 29) d_Ba_placeFor_29 rfl ?_
    refine ar_iald (pc := 30) d_Ba_placeFor_30 rfl (kd) (by omega) (by omega) (fun r_30 => ?_)
    refine ar_iadd (pc := 31) d_Ba_placeFor_31 ?_
    refine ar_icmp_ge (pc := 32) 76 d_Ba_placeFor_32 (by decide) ⟨by omega, by omega⟩ ⟨by omega, by omega⟩ (fun h_32 => ?_) (fun h_32 => by exfalso; omega)
    refine ar_iload_n (pc := 76) d_Ba_placeFor_76 rfl ?_
    refine ar_iret (pc := 77) d_Ba_placeFor_77 rfl ?_
    rotate_left
    -- leaves: ret 77
    · rw [show i = c by omega]; exact ⟨rfl, rfl⟩
  | succ n ih =>
    intro i hi
    have hb := bd_rng (mm_I G 9) age (4 * kd) i
    have ih1 := ih (i + 1) (by omega)
    rw [bd_best] at ih1
    refine ar_iload (pc := 21) d_Ba_placeFor_21 rfl ?_
    refine ar_iload (pc := 23) d_Ba_placeFor_23 rfl ?_
    refine ar_aload_n (pc := 25) d_Ba_placeFor_25 rfl ?_
    refine ar_getR (pc := 26) gf_Ba_9 d_Ba_placeFor_26 (by first | rfl | exact sh_wheel (by omega) | exact sh_milk (by omega)) (hF _ _ _ rfl) ?_
    refine ar_iload_n (pc := 29) d_Ba_placeFor_29 rfl ?_
    refine ar_iald (pc := 30) d_Ba_placeFor_30 rfl (kd) (by omega) (by omega) (fun r_30 => ?_)
    refine ar_iadd (pc := 31) d_Ba_placeFor_31 ?_
    refine ar_icmp_ge (pc := 32) 76 d_Ba_placeFor_32 (by decide) ⟨by omega, by omega⟩ ⟨by omega, by omega⟩ (fun h_32 => by exfalso; omega) (fun h_32 => ?_)
    refine ar_aload_n (pc := 35) d_Ba_placeFor_35 rfl ?_
    refine ar_getR (pc := 36) gf_Ba_15 d_Ba_placeFor_36 (by first | rfl | exact sh_wheel (by omega) | exact sh_milk (by omega)) (hF _ _ _ rfl) ?_
    refine ar_iload (pc := 39) d_Ba_placeFor_39 rfl ?_
    refine ar_iald (pc := 41) d_Ba_placeFor_41 rfl (4*kd+i) (by omega) (by omega) (fun r_41 => ?_)
    refine ar_iload_n (pc := 42) d_Ba_placeFor_42 rfl ?_
    refine ar_icmp_gt (pc := 43) 70 d_Ba_placeFor_43 (by decide) ⟨by omega, by omega⟩ ⟨by omega, by omega⟩ (fun h_43 => ?_) (fun h_43 => ?_)
    refine ar_iinc (pc := 70) d_Ba_placeFor_70 rfl rfl (by decide) ?_
    refine ar_goto (pc := 73) 21 d_Ba_placeFor_73 (by decide) ?_
    rotate_left
    refine ar_iload_n (pc := 46) d_Ba_placeFor_46 rfl ?_
    refine ar_iconst (pc := 47) d_Ba_placeFor_47 ?_
    refine ar_icmp_eq (pc := 48) 67 d_Ba_placeFor_48 (by decide) ⟨by omega, by omega⟩ ⟨by omega, by omega⟩ (fun h_48 => ?_) (fun h_48 => ?_)
    refine ar_iload (pc := 67) d_Ba_placeFor_67 rfl ?_
    refine ar_istore_n (pc := 69) d_Ba_placeFor_69 rfl (by decide) ?_
    refine ar_iinc (pc := 70) d_Ba_placeFor_70 rfl rfl (by decide) ?_
    refine ar_goto (pc := 73) 21 d_Ba_placeFor_73 (by decide) ?_
    rotate_left
    refine ar_aload_n (pc := 51) d_Ba_placeFor_51 rfl ?_
    refine ar_getR (pc := 52) gf_Ba_15 d_Ba_placeFor_52 (by first | rfl | exact sh_wheel (by omega) | exact sh_milk (by omega)) (hF _ _ _ rfl) ?_
    refine ar_iload (pc := 55) d_Ba_placeFor_55 rfl ?_
    refine ar_iald (pc := 57) d_Ba_placeFor_57 rfl (4*kd+i) (by omega) (by omega) (fun r_57 => ?_)
    refine ar_aload_n (pc := 58) d_Ba_placeFor_58 rfl ?_
    refine ar_getR (pc := 59) gf_Ba_15 d_Ba_placeFor_59 (by first | rfl | exact sh_wheel (by omega) | exact sh_milk (by omega)) (hF _ _ _ rfl) ?_
    refine ar_iload_n (pc := 62) d_Ba_placeFor_62 rfl ?_
    refine ar_iald (pc := 63) d_Ba_placeFor_63 rfl _ (Int.toNat_of_nonneg (by omega)).symm (by omega) (fun r_63 => ?_)
    refine ar_icmp_lt (pc := 64) 70 d_Ba_placeFor_64 (by decide) ⟨by omega, by omega⟩ ⟨by omega, by omega⟩ (fun h_64 => ?_) (fun h_64 => ?_)
    refine ar_iinc (pc := 70) d_Ba_placeFor_70 rfl rfl (by decide) ?_
    refine ar_goto (pc := 73) 21 d_Ba_placeFor_73 (by decide) ?_
    rotate_left
    refine ar_iload (pc := 67) d_Ba_placeFor_67 rfl ?_
    refine ar_istore_n (pc := 69) d_Ba_placeFor_69 rfl (by decide) ?_
    refine ar_iinc (pc := 70) d_Ba_placeFor_70 rfl rfl (by decide) ?_
    refine ar_goto (pc := 73) 21 d_Ba_placeFor_73 (by decide) ?_
    rotate_left
    -- leaves: stop 21, stop 21, stop 21, stop 21
    · exact ar_loc ih1 ⟨rfl, rfl, rfl, li_i rfl (by rw [if_neg (by omega)]), rfl, li_i rfl (by omega), trivial⟩
    · exact ar_loc ih1 ⟨rfl, rfl, rfl, li_i rfl (by rw [if_pos (by omega)]), rfl, li_i rfl (by omega), trivial⟩
    · exact ar_loc ih1 ⟨rfl, rfl, rfl, li_i rfl (by rw [if_neg (by omega)]), rfl, li_i rfl (by omega), trivial⟩
    · exact ar_loc ih1 ⟨rfl, rfl, rfl, li_i rfl (by rw [if_pos (by omega)]), rfl, li_i rfl (by omega), trivial⟩
theorem cm_Ba_placeFor (X : gx_T) (d : Nat) (G : mm_T) {kd age : Int} (hF : fx_R G) (hk : 0 ≤ kd ∧ kd ≤ 2) (hage : i3_in age) (hc : 0 ≤ mm_I G 8 kd.toNat ∧ mm_I G 8 kd.toNat ≤ 4) : aw_M X (d + 2) mt_Ba_placeFor [av_r (some 7), av_i kd, av_i age] G 0 0 (fun r G' => r = some (av_i (bd_best (mm_I G 9) age (4 * kd.toNat) (mm_I G 8 kd.toNat).toNat)) ∧ G' = G) := by
  obtain ⟨k, rfl⟩ : ∃ k : Nat, kd = k := ⟨kd.toNat, by omega⟩
  rw [Int.toNat_natCast] at hc ⊢
  obtain ⟨c, hcc⟩ : ∃ c : Nat, mm_I G 8 k = c := ⟨(mm_I G 8 k).toNat, by omega⟩
  refine aw_enter pf_Ba_placeFor (Nat.le_of_ble_eq_true rfl) ?_
  refine ar_iload_n (pc := 0) d_Ba_placeFor_0 rfl ?_
  refine ar_iconst (pc := 1) d_Ba_placeFor_1 ?_
  refine ac_statN (pc := 2) (N := mt_K_isUpTo) _ _ sv_K_isUpTo (List.mem_of_getElem? (i := 10) rfl) d_Ba_placeFor_2 (cm_K_isUpTo _ _ _ ⟨by omega, by omega⟩ ⟨by omega, by omega⟩) rfl rfl (Nat.le_of_ble_eq_true rfl) (Nat.le_of_eq (Nat.zero_add _)) (Nat.le_of_eq (Nat.zero_add _)) (fun r_2 G_2 h_2 => ?_)
  obtain ⟨rfl, e_2⟩ := h_2
  subst G_2
  refine ar_if_ne (pc := 5) 10 d_Ba_placeFor_5 (by decide) ⟨by omega, by omega⟩ (fun h_5 => ?_) (fun h_5 => by exfalso; omega)
  refine ar_iconst (pc := 10) d_Ba_placeFor_10 ?_
  refine ar_istore_n (pc := 11) d_Ba_placeFor_11 rfl (by decide) ?_
  refine ar_iload_n (pc := 12) d_Ba_placeFor_12 rfl ?_
  refine ar_iconst (pc := 13) d_Ba_placeFor_13 ?_
  refine ar_imul (pc := 14) d_Ba_placeFor_14 ?_
  refine ar_istore (pc := 15) d_Ba_placeFor_15 rfl (by decide) ?_
  refine ar_iload (pc := 17) d_Ba_placeFor_17 rfl ?_
  refine ar_istore (pc := 19) d_Ba_placeFor_19 rfl (by decide) ?_
  rotate_left
  -- leaves: stop 21
  · rw [hcc, Int.toNat_natCast]
    exact ar_loc (lp_Ba_placeFor X d G hF (by omega) hage hcc (by omega) c 0 (by omega)) ⟨rfl, rfl, rfl, rfl, li_i rfl (by omega), li_i rfl (by omega), trivial⟩
/-- a truth as an int -/
noncomputable def bv_p (p : Prop) : Int := @ite Int p (Classical.propDecidable p) 1 0
theorem bv_t {p : Prop} (h : p) : bv_p p = 1 := by unfold bv_p; rw [if_pos h]
theorem bv_f {p : Prop} (h : ¬ p) : bv_p p = 0 := by unfold bv_p; rw [if_neg h]
theorem bv_c (p : Prop) : (bv_p p = 1 ∧ p) ∨ (bv_p p = 0 ∧ ¬ p) := by
  by_cases h : p
  · exact Or.inl ⟨bv_t h, h⟩
  · exact Or.inr ⟨bv_f h, h⟩
theorem bv_1 {p : Prop} (h : p) : (1 : Int) = bv_p p := (bv_t h).symm
theorem bv_0 {p : Prop} (h : ¬ p) : (0 : Int) = bv_p p := (bv_f h).symm
theorem bv_e {p q : Prop} (h : p ↔ q) : bv_p p = bv_p q := by rw [propext h]
theorem cm_Ba_allow (X : gx_T) (d : Nat) (G : mm_T) {kd age air : Int} (hF : fx_R G) (hk : 0 ≤ kd ∧ kd ≤ 2) (hage : i3_in age) (hair : i3_in air) (hc : 0 ≤ mm_I G 8 kd.toNat ∧ mm_I G 8 kd.toNat ≤ 4) : aw_M X (d + 3) mt_Ba_allow [av_r (some 7), av_i kd, av_i age, av_i air] G 0 0 (fun r G' => r = some (av_i (bv_p (bd_suit (mm_I G 8) (mm_I G 9) (mm_I G 10) (mm_I G 11) kd age air))) ∧ G' = G) := by
  have hb := bd_rng (mm_I G 9) age (4 * kd.toNat) (mm_I G 8 kd.toNat).toNat
  unfold bd_suit
  dsimp only
  refine aw_enter pf_Ba_allow (Nat.le_of_ble_eq_true rfl) ?_
  refine ar_aload_n (pc := 0) d_Ba_allow_0 rfl ?_
  refine ar_iload_n (pc := 1) d_Ba_allow_1 rfl ?_
  refine ar_iload_n (pc := 2) d_Ba_allow_2 rfl ?_
  refine ac_virt (pc := 3) (N := mt_Ba_placeFor) _ _ mv_Ba_placeFor ml_Ba_32 ck_0 d_Ba_allow_3 (cm_Ba_placeFor _ _ _ hF hk hage hc) (by first | rfl | exact sh_wheel (by omega) | exact sh_milk (by omega)) rfl rfl (Nat.le_of_ble_eq_true rfl) (Nat.le_of_eq (Nat.zero_add _)) (Nat.le_of_eq (Nat.zero_add _)) (fun r_3 G_3 h_3 => ?_)
  obtain ⟨rfl, e_3⟩ := h_3
  subst G_3
  refine ar_istore (pc := 6) d_Ba_allow_6 rfl (by decide) ?_
  refine ar_iload (pc := 8) d_Ba_allow_8 rfl ?_
  refine ar_iconst (pc := 10) d_Ba_allow_10 ?_
  refine ar_icmp_eq (pc := 11) 36 d_Ba_allow_11 (by decide) ⟨by omega, by omega⟩ ⟨by omega, by omega⟩ (fun h_11 => ?_) (fun h_11 => ?_)
  refine ar_iconst (pc := 36) d_Ba_allow_36 ?_
  refine ar_goto (pc := 37) 41 d_Ba_allow_37 (by decide) ?_
  refine ar_zret (pc := 41) d_Ba_allow_41 rfl (by omega) ?_
  rotate_left
  refine ar_iload_n (pc := 14) d_Ba_allow_14 rfl ?_
  refine ar_aload_n (pc := 15) d_Ba_allow_15 rfl ?_
  refine ar_getR (pc := 16) gf_Ba_18 d_Ba_allow_16 (by first | rfl | exact sh_wheel (by omega) | exact sh_milk (by omega)) (hF _ _ _ rfl) ?_
  refine ar_iload (pc := 19) d_Ba_allow_19 rfl ?_
  refine ar_iald (pc := 21) d_Ba_allow_21 rfl _ (Int.toNat_of_nonneg (by omega)).symm (by omega) (fun r_21 => ?_)
  refine ar_icmp_lt (pc := 22) 40 d_Ba_allow_22 (by decide) ⟨by omega, by omega⟩ ⟨by omega, by omega⟩ (fun h_22 => ?_) (fun h_22 => ?_)
  refine ar_iconst (pc := 40) d_Ba_allow_40 ?_
  refine ar_zret (pc := 41) d_Ba_allow_41 rfl (by omega) ?_
  rotate_left
  refine ar_iload_n (pc := 25) d_Ba_allow_25 rfl ?_
  refine ar_aload_n (pc := 26) d_Ba_allow_26 rfl ?_
  refine ar_getR (pc := 27) gf_Ba_21 d_Ba_allow_27 (by first | rfl | exact sh_wheel (by omega) | exact sh_milk (by omega)) (hF _ _ _ rfl) ?_
  refine ar_iload (pc := 30) d_Ba_allow_30 rfl ?_
  refine ar_iald (pc := 32) d_Ba_allow_32 rfl _ (Int.toNat_of_nonneg (by omega)).symm (by omega) (fun r_32 => ?_)
  refine ar_icmp_gt (pc := 33) 40 d_Ba_allow_33 (by decide) ⟨by omega, by omega⟩ ⟨by omega, by omega⟩ (fun h_33 => ?_) (fun h_33 => ?_)
  refine ar_iconst (pc := 40) d_Ba_allow_40 ?_
  refine ar_zret (pc := 41) d_Ba_allow_41 rfl (by omega) ?_
  rotate_left
  refine ar_iconst (pc := 36) d_Ba_allow_36 ?_
  refine ar_goto (pc := 37) 41 d_Ba_allow_37 (by decide) ?_
  refine ar_zret (pc := 41) d_Ba_allow_41 rfl (by omega) ?_
  rotate_left
  -- leaves: ret 41, ret 41, ret 41, ret 41
  · exact ⟨congrArg (fun x => some (av_i x)) (bv_1 (Or.inl (by omega))), rfl⟩
  · exact ⟨congrArg (fun x => some (av_i x)) (bv_0 (by omega)), rfl⟩
  · exact ⟨congrArg (fun x => some (av_i x)) (bv_0 (by omega)), rfl⟩
  · exact ⟨congrArg (fun x => some (av_i x)) (bv_1 (by omega)), rfl⟩
