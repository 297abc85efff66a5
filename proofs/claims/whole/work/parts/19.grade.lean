/-! ===== grades ===== -/
/-- the first n places of a row told anew -/
def ms_row (G : mm_T) (a n : Nat) (f : Nat → Int) : mm_T := (G.1, fun b j => if b = a ∧ j < n then f j else G.2.1 b j, G.2.2.1, G.2.2.2)
theorem row_at (G : mm_T) (a n : Nat) (f : Nat → Int) {j : Nat} (h : j < n) : mm_I (ms_row G a n f) a j = f j := by show (if a = a ∧ j < n then _ else _) = _; rw [if_pos ⟨rfl, h⟩]
theorem row_set (G : mm_T) (a n : Nat) (f : Nat → Int) {j : Nat} (v : Int) (h : j < n) : ms_I (ms_row G a n f) a j v = ms_row G a n (fun i => if i = j then v else f i) := by
  obtain ⟨A, I, J, R⟩ := G
  refine congrArg (fun q => (A, q, J, R)) (funext fun b => funext fun i => ?_)
  show (if b = a ∧ i = j then v else if b = a ∧ i < n then f i else I b i) = if b = a ∧ i < n then (if i = j then v else f i) else I b i
  by_cases hb : b = a
  · by_cases hi : i = j
    · subst hi; rw [if_pos ⟨hb, rfl⟩, if_pos ⟨hb, h⟩, if_pos rfl]
    · rw [if_neg (fun z => hi z.2), if_neg hi]
  · rw [if_neg (fun z => hb z.1), if_neg (fun z => hb z.1), if_neg (fun z => hb z.1)]
theorem row_id (G : mm_T) (a n : Nat) : ms_row G a n (mm_I G a) = G := by
  obtain ⟨A, I, J, R⟩ := G
  refine congrArg (fun q => (A, q, J, R)) (funext fun b => funext fun i => ?_)
  show (if b = a ∧ i < n then I a i else I b i) = I b i
  split
  · next h => rw [h.1]
  · rfl
theorem row_FI (G : mm_T) (a n : Nat) (v : Int) : ms_FI G a n v = ms_row G a n (fun _ => v) := rfl
theorem row_eq (G : mm_T) (a n : Nat) {f g : Nat → Int} (h : ∀ j, j < n → f j = g j) : ms_row G a n f = ms_row G a n g := by
  obtain ⟨A, I, J, R⟩ := G
  refine congrArg (fun q => (A, q, J, R)) (funext fun b => funext fun i => ?_)
  show (if b = a ∧ i < n then f i else I b i) = if b = a ∧ i < n then g i else I b i
  split
  · next hh => exact h i hh.2
  · rfl
/-- a grader's last mark, known on a day, of the first n -/
def gd_last (gr wh va tl un : Nat → Int) (w dy g : Int) : Nat → Int
  | 0 => -1
  | n + 1 => if gr n = g ∧ wh n = w ∧ tl n ≤ dy ∧ (un n = -1 ∨ dy < un n) then va n else gd_last gr wh va tl un w dy g n
theorem gd_rng {gr wh va tl un : Nat → Int} {w dy g : Int} {n : Nat} (hv : ∀ k, k < n → 0 ≤ va k ∧ va k ≤ 20) : -1 ≤ gd_last gr wh va tl un w dy g n ∧ gd_last gr wh va tl un w dy g n ≤ 20 := by
  induction n with
  | zero => simp [gd_last]
  | succ n ih =>
    have h1 := hv n (by omega)
    have h2 := ih (fun k hk => hv k (by omega))
    rw [gd_last]; split <;> omega
/-- how many are from 0 to u -/
def cl_n (f : Nat → Int) (u : Int) : Nat → Int
  | 0 => 0
  | n + 1 => cl_n f u n + (if 0 ≤ f n ∧ f n ≤ u then 1 else 0)
theorem cl_ct (f : Nat → Int) {u : Int} (hu : 0 ≤ u) (n : Nat) : cl_n f u n = cl_n f (u - 1) n + ct_n f u n := by
  induction n with
  | zero => simp [cl_n, ct_n]
  | succ n ih =>
    rw [cl_n, cl_n, ct_n]
    split <;> split <;> split <;> omega
theorem cl_m1 (f : Nat → Int) (n : Nat) : cl_n f (-1) n = 0 := by
  induction n with
  | zero => rfl
  | succ n ih => rw [cl_n, ih]; split <;> omega
theorem cl_rng (f : Nat → Int) (u : Int) (n : Nat) : 0 ≤ cl_n f u n ∧ cl_n f u n ≤ n := by
  induction n with
  | zero => simp [cl_n]
  | succ n ih => rw [cl_n]; split <;> omega
theorem cl_mx {f : Nat → Int} {n : Nat} (h : ∀ k, k < n → -1 ≤ f k ∧ f k ≤ 20) : cl_n f 20 n = n - ct_n f (-1) n := by
  induction n with
  | zero => simp [cl_n, ct_n]
  | succ n ih =>
    have h1 := h n (by omega)
    have h2 := ih (fun k hk => h k (by omega))
    rw [cl_n, ct_n, h2]
    split <;> split <;> omega
theorem cl_eq {f g : Nat → Int} (u : Int) {n : Nat} (h : ∀ k, k < n → f k = g k) : cl_n f u n = cl_n g u n := by
  induction n with
  | zero => rfl
  | succ n ih => rw [cl_n, cl_n, ih (fun k hk => h k (by omega)), h n (by omega)]
theorem ct_eq {f g : Nat → Int} (u : Int) {n : Nat} (h : ∀ k, k < n → f k = g k) : ct_n f u n = ct_n g u n := by
  induction n with
  | zero => rfl
  | succ n ih => rw [ct_n, ct_n, ih (fun k hk => h k (by omega)), h n (by omega)]
theorem cl_full {f : Nat → Int} {n : Nat} {u : Int} (h : ∀ k, k < n → 0 ≤ f k ∧ f k ≤ u) : cl_n f u n = n := by
  induction n with
  | zero => rfl
  | succ n ih =>
    rw [cl_n, ih (fun k hk => h k (by omega)), if_pos (h n (by omega))]; omega
/-- a sorted row's place k is at most u just if more than k are -/
theorem cl_sorted {f : Nat → Int} {n : Nat} (h0 : ∀ k, k < n → 0 ≤ f k) (hs : ∀ i j, i < j → j < n → f i ≤ f j) {k : Nat} (hk : k < n) (u : Int) : f k ≤ u ↔ (k : Int) < cl_n f u n := by
  have low : ∀ m, m ≤ n → (∀ i, i < m → f i ≤ u) → cl_n f u m = m := fun m hm h => cl_full (fun i hi => ⟨h0 i (by omega), h i hi⟩)
  have high : ∀ m, (∀ i, k ≤ i → i < m → ¬ f i ≤ u) → cl_n f u m ≤ k := by
    intro m
    induction m with
    | zero => intro _; simp [cl_n]
    | succ m ih =>
      intro h
      have h1 := ih (fun i a b => h i a (by omega))
      rw [cl_n]
      by_cases hkm : k ≤ m
      · rw [if_neg (fun z => h m hkm (by omega) z.2)]; omega
      · have := (cl_rng f u m).2
        split <;> omega
  constructor
  · intro h
    have h1 := low (k + 1) (by omega) (fun i hi => by
      by_cases hik : i = k
      · rw [hik]; exact h
      · exact Int.le_trans (hs i k (by omega) hk) h)
    have mono : ∀ m, k + 1 ≤ m → cl_n f u (k + 1) ≤ cl_n f u m := by
      intro m hm
      induction m with
      | zero => omega
      | succ m ih =>
        by_cases hkm : k + 1 ≤ m
        · have := ih hkm
          have e : cl_n f u (m + 1) = cl_n f u m + (if 0 ≤ f m ∧ f m ≤ u then 1 else 0) := rfl
          rw [e]; split <;> omega
        · rw [show m + 1 = k + 1 by omega]; exact Int.le_refl _
    have := mono n (by omega)
    omega
  · intro h
    refine Classical.byContradiction (fun hn => ?_)
    have := high n (fun i a b => by
      by_cases hik : i = k
      · rw [hik]; exact hn
      · intro z; exact hn (Int.le_trans (hs k i (by omega) b) z))
    omega
/-- put in at p -/
def in_at (f : Nat → Int) (p : Nat) (v : Int) : Nat → Int := fun i => if i < p then f i else if i = p then v else f (i - 1)
theorem in_cl (f : Nat → Int) {p n : Nat} (v u : Int) (hp : p ≤ n) : cl_n (in_at f p v) u (n + 1) = cl_n f u n + (if 0 ≤ v ∧ v ≤ u then 1 else 0) := by
  induction n with
  | zero =>
    have : p = 0 := by omega
    subst this
    simp [cl_n, in_at]
  | succ n ih =>
    by_cases hpn : p ≤ n
    · rw [cl_n, ih hpn, cl_n]
      have : in_at f p v (n + 1) = f n := by
        unfold in_at
        rw [if_neg (by omega), if_neg (by omega)]; rfl
      rw [this]; omega
    · have hp1 : p = n + 1 := by omega
      subst hp1
      rw [cl_n, show in_at f (n + 1) v (n + 1) = v by unfold in_at; rw [if_neg (by omega), if_pos rfl], cl_eq (g := f) u (fun k hk => by unfold in_at; rw [if_pos hk])]
theorem in_sorted {f : Nat → Int} {p n : Nat} {v : Int} (hp : p ≤ n) (hs : ∀ i j, i < j → j < n → f i ≤ f j) (hlo : ∀ i, i < p → f i ≤ v) (hhi : ∀ i, p ≤ i → i < n → v ≤ f i) : ∀ i j, i < j → j < n + 1 → in_at f p v i ≤ in_at f p v j := by
  intro i j hij hj
  unfold in_at
  by_cases h1 : j < p
  · rw [if_pos (by omega), if_pos h1]; exact hs i j hij (by omega)
  · by_cases h2 : j = p
    · rw [if_pos (by omega), if_neg h1, if_pos h2]; exact hlo i (by omega)
    · rw [if_neg h1, if_neg h2]
      by_cases h3 : i < p
      · rw [if_pos h3]
        exact Int.le_trans (hlo i h3) (hhi (j - 1) (by omega) (by omega))
      · by_cases h4 : i = p
        · rw [if_neg h3, if_pos h4]; exact hhi (j - 1) (by omega) (by omega)
        · rw [if_neg h3, if_neg h4]; exact hs (i - 1) (j - 1) (by omega) (by omega)
theorem lp_Ma_gradersWith (X : gx_T) (d : Nat) (G : mm_T) {v : Int} (hF : fx_R G) (hv : i3_in v) : ∀ n i, i + n = 5 → aw_W X mt_Ma_gradersWith (d + 1) 4 [(0, some (av_r (some 17))), (1, some (av_i v)), (2, some (av_i (ct_n (mm_I G 23) v i))), (3, some (av_i (i : Int)))] [] G 0 0 (fun r G' => r = some (av_i (ct_n (mm_I G 23) v 5)) ∧ G' = G) := by
  intro n
  induction n with
  | zero =>
    intro i hi
    have hi : i = 5 := by omega
    subst hi
    refine ar_iload_n (pc := 4) d_Ma_gradersWith_4 rfl ?_
    refine ar_iconst (pc := 5) d_Ma_gradersWith_5 ?_
    refine ar_icmp_ge (pc := 6) 28 d_Ma_gradersWith_6 (by decide) ⟨by omega, by omega⟩ ⟨by omega, by omega⟩ (fun h_6 => ?_) (fun h_6 => by exfalso; omega)
    refine ar_iload_n (pc := 28) d_Ma_gradersWith_28 rfl ?_
    refine ar_iret (pc := 29) d_Ma_gradersWith_29 rfl ?_
    rotate_left
    -- leaves: ret 29
    · exact ⟨rfl, rfl⟩
  | succ n ih =>
    intro i hi
    have ih1 := ih (i + 1) (by omega)
    rw [ct_n] at ih1
    refine ar_iload_n (pc := 4) d_Ma_gradersWith_4 rfl ?_
    refine ar_iconst (pc := 5) d_Ma_gradersWith_5 ?_
    refine ar_icmp_ge (pc := 6) 28 d_Ma_gradersWith_6 (by decide) ⟨by omega, by omega⟩ ⟨by omega, by omega⟩ (fun h_6 => by exfalso; omega) (fun h_6 => ?_)
    refine ar_aload_n (pc := 9) d_Ma_gradersWith_9 rfl ?_
    refine ar_getR (pc := 10) gf_Ma_27 d_Ma_gradersWith_10 (by first | rfl | exact sh_wheel (by omega) | exact sh_milk (by omega)) (hF _ _ _ rfl) ?_
    refine ar_iload_n (pc := 13) d_Ma_gradersWith_13 rfl ?_
    refine ar_iald (pc := 14) d_Ma_gradersWith_14 rfl (i) (by omega) (by omega) (fun r_14 => ?_)
    refine ar_iload_n (pc := 15) d_Ma_gradersWith_15 rfl ?_
    refine ar_icmp_ne (pc := 16) 22 d_Ma_gradersWith_16 (by decide) ⟨by omega, by omega⟩ ⟨by omega, by omega⟩ (fun h_16 => ?_) (fun h_16 => ?_)
    refine ar_iinc (pc := 22) d_Ma_gradersWith_22 rfl rfl (by decide) ?_
    refine ar_goto (pc := 25) 4 d_Ma_gradersWith_25 (by decide) ?_
    rotate_left
    refine ar_iinc (pc := 19) d_Ma_gradersWith_19 rfl rfl (by decide) ?_
    refine ar_iinc (pc := 22) d_Ma_gradersWith_22 rfl rfl (by decide) ?_
    refine ar_goto (pc := 25) 4 d_Ma_gradersWith_25 (by decide) ?_
    rotate_left
    -- leaves: stop 4, stop 4
    · exact ar_loc ih1 ⟨rfl, rfl, li_i rfl (by rw [if_neg (by omega)]; omega), li_i rfl (by omega), trivial⟩
    · exact ar_loc ih1 ⟨rfl, rfl, li_i rfl (by rw [if_pos (by omega)]), li_i rfl (by omega), trivial⟩
theorem cm_Ma_gradersWith (X : gx_T) (d : Nat) (G : mm_T) {v : Int} (hF : fx_R G) (hv : i3_in v) : aw_M X (d + 1) mt_Ma_gradersWith [av_r (some 17), av_i v] G 0 0 (fun r G' => r = some (av_i (ct_n (mm_I G 23) v 5)) ∧ G' = G) := by
  refine aw_enter pf_Ma_gradersWith (Nat.le_of_ble_eq_true rfl) ?_
  refine ar_iconst (pc := 0) d_Ma_gradersWith_0 ?_
  refine ar_istore_n (pc := 1) d_Ma_gradersWith_1 rfl (by decide) ?_
  refine ar_iconst (pc := 2) d_Ma_gradersWith_2 ?_
  refine ar_istore_n (pc := 3) d_Ma_gradersWith_3 rfl (by decide) ?_
  rotate_left
  -- leaves: stop 4
  · exact ar_loc (lp_Ma_gradersWith X d G hF hv 5 0 (by omega)) ⟨rfl, rfl, rfl, rfl, trivial⟩
theorem lp_Ma_gatherLast (X : gx_T) (d : Nat) (G : mm_T) {w dy : Int} {c : Nat} (hF : fx_R G) (hw : i3_in w) (hdy : i3_in dy) (hc : mm_I G 17 6 = c) (hc2 : c ≤ 100) (hg : ∀ k, k < c → 0 ≤ mm_I G 18 k ∧ mm_I G 18 k ≤ 4) {f : Nat → Int → Int} (hf : f = fun i g => gd_last (mm_I G 18) (mm_I G 19) (mm_I G 20) (mm_I G 21) (mm_I G 22) w dy g i) : ∀ n i, i + n = c → aw_W X mt_Ma_gatherLast (d + 2) 10 [(0, some (av_r (some 17))), (1, some (av_i w)), (2, some (av_i dy)), (3, some (av_i (i : Int)))] [] (ms_row G 23 5 (fun g => f i g)) 0 0 (fun r G' => r = some (av_i (5 - ct_n (fun g => f c g) (-1) 5)) ∧ G' = ms_row G 23 5 (fun g => f c g)) := by
  intro n
  induction n with
  | zero =>
    intro i hi
    have hi : i = c := by omega
    subst hi
    refine ar_iload_n (pc := 10) d_Ma_gatherLast_10 rfl ?_
    refine ar_aload_n (pc := 11) d_Ma_gatherLast_11 rfl ?_
    refine ar_getIv (pc := 12) gf_Ma_30 d_Ma_gatherLast_12 (by first | rfl | exact sh_wheel (by omega) | exact sh_milk (by omega)) hc (fun r_12 => ?_)
    refine ar_icmp_ge (pc := 15) 73 d_Ma_gatherLast_15 (by decide) ⟨by omega, by omega⟩ ⟨by omega, by omega⟩ (fun h_15 => ?_) (fun h_15 => by exfalso; omega)
    refine ar_iconst (pc := 73) d_Ma_gatherLast_73 ?_
    refine ar_aload_n (pc := 74) d_Ma_gatherLast_74 rfl ?_
    refine ar_iconst (pc := 75) d_Ma_gatherLast_75 ?_
    refine ac_virt (pc := 76) (N := mt_Ma_gradersWith) _ _ mv_Ma_gradersWith ml_Ma_42 ck_1 d_Ma_gatherLast_76 (cm_Ma_gradersWith _ _ _ (by exact hF) ⟨by omega, by omega⟩) (by first | rfl | exact sh_wheel (by omega) | exact sh_milk (by omega)) rfl rfl (Nat.le_of_ble_eq_true rfl) (Nat.le_of_eq (Nat.zero_add _)) (Nat.le_of_eq (Nat.zero_add _)) (fun r_76 G_76 h_76 => ?_)
    obtain ⟨rfl, e_76⟩ := h_76
    subst G_76
    refine ar_isub (pc := 79) d_Ma_gatherLast_79 ?_
    refine ar_iret (pc := 80) d_Ma_gatherLast_80 rfl ?_
    rotate_left
    -- leaves: ret 80
    · refine ⟨congrArg (fun x => some (av_i x)) ?_, rfl⟩
      rw [ct_eq (g := fun g => f i g) (-1) (fun k hk => row_at G 23 5 _ hk)]
  | succ n ih =>
    intro i hi
    have hgi := hg i (by omega)
    obtain ⟨g, hgg⟩ : ∃ g : Nat, mm_I G 18 i = g := ⟨(mm_I G 18 i).toNat, by omega⟩
    have nx : ¬ (mm_I G 19 i = w ∧ mm_I G 21 i ≤ dy ∧ (mm_I G 22 i = -1 ∨ dy < mm_I G 22 i)) → aw_W X mt_Ma_gatherLast (d + 2) 10 [(0, some (av_r (some 17))), (1, some (av_i w)), (2, some (av_i dy)), (3, some (av_i ((i + 1 : Nat) : Int)))] [] (ms_row G 23 5 (fun g => f i g)) 0 0 (fun r G' => r = some (av_i (5 - ct_n (fun g => f c g) (-1) 5)) ∧ G' = ms_row G 23 5 (fun g => f c g)) := by
      intro hno
      have e : ms_row G 23 5 (fun g => f i g) = ms_row G 23 5 (fun g => f (i + 1) g) := row_eq G 23 5 (fun j hj => by subst hf; show gd_last _ _ _ _ _ _ _ _ _ = gd_last _ _ _ _ _ _ _ _ _; rw [gd_last, if_neg (fun z => hno z.2)])
      rw [e]
      exact ih (i + 1) (by omega)
    have nx1 : (mm_I G 19 i = w ∧ mm_I G 21 i ≤ dy ∧ (mm_I G 22 i = -1 ∨ dy < mm_I G 22 i)) → aw_W X mt_Ma_gatherLast (d + 2) 10 [(0, some (av_r (some 17))), (1, some (av_i w)), (2, some (av_i dy)), (3, some (av_i ((i + 1 : Nat) : Int)))] [] (ms_I (ms_row G 23 5 (fun g => f i g)) 23 g (mm_I G 20 i)) 0 0 (fun r G' => r = some (av_i (5 - ct_n (fun g => f c g) (-1) 5)) ∧ G' = ms_row G 23 5 (fun g => f c g)) := by
      intro hyes
      rw [row_set G 23 5 _ _ (by omega), row_eq G 23 5 (g := fun g => f (i + 1) g) (fun j hj => by
        subst hf
        show (if j = g then mm_I G 20 i else gd_last _ _ _ _ _ _ _ _ _) = gd_last _ _ _ _ _ _ _ _ _
        rw [gd_last]
        by_cases hjg : j = g
        · rw [if_pos hjg, if_pos ⟨by omega, hyes⟩]
        · rw [if_neg hjg, if_neg (fun z => hjg (by have := z.1; omega))])]
      exact ih (i + 1) (by omega)
    have q21 : mm_I (ms_row G 23 5 (fun g => f i g)) 21 i = mm_I G 21 i := rfl
    have q22 : mm_I (ms_row G 23 5 (fun g => f i g)) 22 i = mm_I G 22 i := rfl
    refine ar_iload_n (pc := 10) d_Ma_gatherLast_10 rfl ?_
    refine ar_aload_n (pc := 11) d_Ma_gatherLast_11 rfl ?_
    refine ar_getIv (pc := 12) gf_Ma_30 d_Ma_gatherLast_12 (by first | rfl | exact sh_wheel (by omega) | exact sh_milk (by omega)) hc (fun r_12 => ?_)
    refine ar_icmp_ge (pc := 15) 73 d_Ma_gatherLast_15 (by decide) ⟨by omega, by omega⟩ ⟨by omega, by omega⟩ (fun h_15 => by exfalso; omega) (fun h_15 => ?_)
    refine ar_aload_n (pc := 18) d_Ma_gatherLast_18 rfl ?_
    refine ar_getR (pc := 19) gf_Ma_9 d_Ma_gatherLast_19 (by first | rfl | exact sh_wheel (by omega) | exact sh_milk (by omega)) (hF _ _ _ rfl) ?_
    refine ar_iload_n (pc := 22) d_Ma_gatherLast_22 rfl ?_
    refine ar_ialdv (pc := 23) d_Ma_gatherLast_23 rfl (i) (by omega) (by omega) hgg (fun r_23 => ?_)
    refine ar_istore (pc := 24) d_Ma_gatherLast_24 rfl (by decide) ?_
    refine ar_aload_n (pc := 26) d_Ma_gatherLast_26 rfl ?_
    refine ar_getR (pc := 27) gf_Ma_15 d_Ma_gatherLast_27 (by first | rfl | exact sh_wheel (by omega) | exact sh_milk (by omega)) (hF _ _ _ rfl) ?_
    refine ar_iload_n (pc := 30) d_Ma_gatherLast_30 rfl ?_
    refine ar_ialdv (pc := 31) d_Ma_gatherLast_31 rfl (i) (by omega) (by omega) (show _ = mm_I G 19 i from rfl) (fun r_31 => ?_)
    refine ar_iload_n (pc := 32) d_Ma_gatherLast_32 rfl ?_
    refine ar_icmp_ne (pc := 33) 67 d_Ma_gatherLast_33 (by decide) ⟨by omega, by omega⟩ ⟨by omega, by omega⟩ (fun h_33 => ?_) (fun h_33 => ?_)
    refine ar_iinc (pc := 67) d_Ma_gatherLast_67 rfl rfl (by decide) ?_
    refine ar_goto (pc := 70) 10 d_Ma_gatherLast_70 (by decide) ?_
    rotate_left
    refine ar_aload_n (pc := 36) d_Ma_gatherLast_36 rfl ?_
    refine ar_iload_n (pc := 37) d_Ma_gatherLast_37 rfl ?_
    refine ar_iload_n (pc := 38) d_Ma_gatherLast_38 rfl ?_
    refine ac_virt (pc := 39) (N := mt_Ma_isKnown) _ _ mv_Ma_isKnown ml_Ma_52 ck_1 d_Ma_gatherLast_39 (cm_Ma_isKnown _ _ _ (by exact hF) (by omega) hdy) (by first | rfl | exact sh_wheel (by omega) | exact sh_milk (by omega)) rfl rfl (Nat.le_of_ble_eq_true rfl) (Nat.le_of_eq (Nat.zero_add _)) (Nat.le_of_eq (Nat.zero_add _)) (fun r_39 G_39 h_39 => ?_)
    obtain ⟨rfl, e_39⟩ := h_39
    subst G_39
    simp only [Int.toNat_natCast]
    refine ar_if_eq (pc := 42) 67 d_Ma_gatherLast_42 (by decide) ⟨by omega, by omega⟩ (fun h_42 => ?_) (fun h_42 => ?_)
    refine ar_iinc (pc := 67) d_Ma_gatherLast_67 rfl rfl (by decide) ?_
    refine ar_goto (pc := 70) 10 d_Ma_gatherLast_70 (by decide) ?_
    rotate_left
    refine ar_iload (pc := 45) d_Ma_gatherLast_45 rfl ?_
    refine ar_iconst (pc := 47) d_Ma_gatherLast_47 ?_
    refine ac_statN (pc := 48) (N := mt_K_isUpTo) _ _ sv_K_isUpTo (List.mem_of_getElem? (i := 12) rfl) d_Ma_gatherLast_48 (cm_K_isUpTo _ _ _ ⟨by omega, by omega⟩ ⟨by omega, by omega⟩) rfl rfl (Nat.le_of_ble_eq_true rfl) (Nat.le_of_eq (Nat.zero_add _)) (Nat.le_of_eq (Nat.zero_add _)) (fun r_48 G_48 h_48 => ?_)
    obtain ⟨rfl, e_48⟩ := h_48
    subst G_48
    refine ar_if_eq (pc := 51) 67 d_Ma_gatherLast_51 (by decide) ⟨by omega, by omega⟩ (fun h_51 => ?_) (fun h_51 => ?_)
    refine ar_iinc (pc := 67) d_Ma_gatherLast_67 rfl rfl (by decide) ?_
    refine ar_goto (pc := 70) 10 d_Ma_gatherLast_70 (by decide) ?_
    rotate_left
    refine ar_aload_n (pc := 54) d_Ma_gatherLast_54 rfl ?_
    refine ar_getR (pc := 55) gf_Ma_27 d_Ma_gatherLast_55 (by first | rfl | exact sh_wheel (by omega) | exact sh_milk (by omega)) (hF _ _ _ rfl) ?_
    refine ar_iload (pc := 58) d_Ma_gatherLast_58 rfl ?_
    refine ar_aload_n (pc := 60) d_Ma_gatherLast_60 rfl ?_
    refine ar_getR (pc := 61) gf_Ma_18 d_Ma_gatherLast_61 (by first | rfl | exact sh_wheel (by omega) | exact sh_milk (by omega)) (hF _ _ _ rfl) ?_
    refine ar_iload_n (pc := 64) d_Ma_gatherLast_64 rfl ?_
    refine ar_ialdv (pc := 65) d_Ma_gatherLast_65 rfl (i) (by omega) (by omega) (show _ = mm_I G 20 i from rfl) (fun r_65 => ?_)
    refine ar_iast (pc := 66) d_Ma_gatherLast_66 rfl (g) (by omega) (by omega) ⟨by omega, by omega⟩ ?_
    refine ar_iinc (pc := 67) d_Ma_gatherLast_67 rfl rfl (by decide) ?_
    refine ar_goto (pc := 70) 10 d_Ma_gatherLast_70 (by decide) ?_
    rotate_left
    -- leaves: stop 10, stop 10, stop 10, stop 10
    · exact ar_loc (nx (by omega)) ⟨rfl, rfl, rfl, li_i rfl (by omega), trivial⟩
    · exact ar_loc (nx (by omega)) ⟨rfl, rfl, rfl, li_i rfl (by omega), trivial⟩
    · exfalso; omega
    · exact ar_loc (nx1 (by omega)) ⟨rfl, rfl, rfl, li_i rfl (by omega), trivial⟩
theorem cm_Ma_gatherLast (X : gx_T) (d : Nat) (G : mm_T) {w dy : Int} {c : Nat} (hF : fx_R G) (hw : i3_in w) (hdy : i3_in dy) (hc : mm_I G 17 6 = c) (hc2 : c ≤ 100) (hg : ∀ k, k < c → 0 ≤ mm_I G 18 k ∧ mm_I G 18 k ≤ 4) {f : Nat → Int → Int} (hf : f = fun i g => gd_last (mm_I G 18) (mm_I G 19) (mm_I G 20) (mm_I G 21) (mm_I G 22) w dy g i) : aw_M X (d + 2) mt_Ma_gatherLast [av_r (some 17), av_i w, av_i dy] G 0 0 (fun r G' => r = some (av_i (5 - ct_n (fun g => f c g) (-1) 5)) ∧ G' = ms_row G 23 5 (fun g => f c g)) := by
  have h := lp_Ma_gatherLast X d G hF hw hdy hc hc2 hg hf c 0 (by omega)
  refine aw_enter pf_Ma_gatherLast (Nat.le_of_ble_eq_true rfl) ?_
  refine ar_aload_n (pc := 0) d_Ma_gatherLast_0 rfl ?_
  refine ar_getR (pc := 1) gf_Ma_27 d_Ma_gatherLast_1 (by first | rfl | exact sh_wheel (by omega) | exact sh_milk (by omega)) (hF _ _ _ rfl) ?_
  refine ar_iconst (pc := 4) d_Ma_gatherLast_4 ?_
  refine ac_stat (pc := 5) (N := mt_JA_fill_I) _ _ sv_JA_fill_I ml_Ma_46 d_Ma_gatherLast_5 (cm_JA_fill_I (a := 23) (N := 5) _ _ _ rfl ⟨by omega, by omega⟩) rfl rfl (Nat.le_of_ble_eq_true rfl) (Nat.le_of_eq (Nat.zero_add _)) (Nat.le_of_eq (Nat.zero_add _)) (fun r_5 G_5 h_5 => ?_)
  obtain ⟨rfl, e_5⟩ := h_5
  subst G_5
  refine ar_iconst (pc := 8) d_Ma_gatherLast_8 ?_
  refine ar_istore_n (pc := 9) d_Ma_gatherLast_9 rfl (by decide) ?_
  rotate_left
  -- leaves: stop 10
  · rw [row_FI]
    have e : ms_row G 23 5 (fun _ => -1) = ms_row G 23 5 (fun g => f 0 g) := row_eq G 23 5 (fun j hj => by subst hf; rfl)
    rw [e]
    exact ar_loc h ⟨rfl, rfl, rfl, rfl, trivial⟩
/-- the least value with more than k at most it -/
theorem lp_Ma_middleOf (X : gx_T) (d : Nat) (G : mm_T) {w dy : Int} {gn k : Int} {G0 : mm_T} (hF : fx_R G) (hk : 0 ≤ k ∧ k < gn) (hgn : gn ≤ 5) (hall : gn ≤ cl_n (mm_I G 23) 20 5) : ∀ n v : Nat, v + n = 21 → cl_n (mm_I G 23) ((v : Int) - 1) 5 ≤ k → aw_W X mt_Ma_middleOf (d + 2) 17 [(0, some (av_r (some 17))), (3, some (av_i gn)), (4, some (av_i (k - cl_n (mm_I G 23) ((v : Int) - 1) 5))), (5, some (av_i (v : Int)))] [] G 0 0 (fun r G' => (∃ u : Int, r = some (av_i u) ∧ 0 ≤ u ∧ cl_n (mm_I G 23) (u - 1) 5 ≤ k ∧ k < cl_n (mm_I G 23) u 5) ∧ G' = G) := by
  intro n
  induction n with
  | zero =>
    intro v hv hle
    exfalso
    have hv : v = 21 := by omega
    subst hv
    have : ((21 : Nat) : Int) - 1 = 20 := by omega
    rw [this] at hle
    omega
  | succ n ih =>
    intro v hv hle
    have e := cl_ct (mm_I G 23) (u := (v : Int)) (by omega) 5
    have r1 := cl_rng (mm_I G 23) ((v : Int) - 1) 5
    have r2 := ct_rng (mm_I G 23) (v : Int) 5
    refine ar_iload (pc := 17) d_Ma_middleOf_17 rfl ?_
    refine ar_bipush (pc := 19) d_Ma_middleOf_19 (by decide) ?_
    refine ar_icmp_gt (pc := 21) 59 d_Ma_middleOf_21 (by decide) ⟨by omega, by omega⟩ ⟨by omega, by omega⟩ (fun h_21 => by exfalso; omega) (fun h_21 => ?_)
    refine ar_iload_n (pc := 24) d_Ma_middleOf_24 rfl ?_
    refine ar_if_le (pc := 25) 59 d_Ma_middleOf_25 (by decide) ⟨by omega, by omega⟩ (fun h_25 => by exfalso; omega) (fun h_25 => ?_)
    refine ar_aload_n (pc := 28) d_Ma_middleOf_28 rfl ?_
    refine ar_iload (pc := 29) d_Ma_middleOf_29 rfl ?_
    refine ac_virt (pc := 31) (N := mt_Ma_gradersWith) _ _ mv_Ma_gradersWith ml_Ma_42 ck_1 d_Ma_middleOf_31 (cm_Ma_gradersWith _ _ _ hF ⟨by omega, by omega⟩) (by first | rfl | exact sh_wheel (by omega) | exact sh_milk (by omega)) rfl rfl (Nat.le_of_ble_eq_true rfl) (Nat.le_of_eq (Nat.zero_add _)) (Nat.le_of_eq (Nat.zero_add _)) (fun r_31 G_31 h_31 => ?_)
    obtain ⟨rfl, e_31⟩ := h_31
    subst G_31
    refine ar_istore (pc := 34) d_Ma_middleOf_34 rfl (by decide) ?_
    refine ar_iload (pc := 36) d_Ma_middleOf_36 rfl ?_
    refine ar_iload (pc := 38) d_Ma_middleOf_38 rfl ?_
    refine ar_icmp_le (pc := 40) 46 d_Ma_middleOf_40 (by decide) ⟨by omega, by omega⟩ ⟨by omega, by omega⟩ (fun h_40 => ?_) (fun h_40 => ?_)
    refine ar_iload (pc := 46) d_Ma_middleOf_46 rfl ?_
    refine ar_iload (pc := 48) d_Ma_middleOf_48 rfl ?_
    refine ar_isub (pc := 50) d_Ma_middleOf_50 ?_
    refine ar_istore (pc := 51) d_Ma_middleOf_51 rfl (by decide) ?_
    refine ar_iinc (pc := 53) d_Ma_middleOf_53 rfl rfl (by decide) ?_
    refine ar_goto (pc := 56) 17 d_Ma_middleOf_56 (by decide) ?_
    rotate_left
    refine ar_iload (pc := 43) d_Ma_middleOf_43 rfl ?_
    refine ar_iret (pc := 45) d_Ma_middleOf_45 rfl ?_
    rotate_left
    -- leaves: stop 17, ret 45
    · refine ar_loc (ih (v + 1) (by omega) ?_) ⟨rfl, rfl, li_i rfl ?_, li_i rfl (by omega), trivial⟩
      · rw [show ((v + 1 : Nat) : Int) - 1 = v by omega]; omega
      · rw [show ((v + 1 : Nat) : Int) - 1 = v by omega]; omega
    · exact ⟨⟨(v : Int), rfl, by omega, hle, by omega⟩, rfl⟩
theorem cm_Ma_middleOf (X : gx_T) (d : Nat) (G : mm_T) {w dy : Int} {c : Nat} (hF : fx_R G) (hw : i3_in w) (hdy : i3_in dy) (hc : mm_I G 17 6 = c) (hc2 : c ≤ 100) (hg : ∀ k, k < c → 0 ≤ mm_I G 18 k ∧ mm_I G 18 k ≤ 4) (hv : ∀ k, k < c → 0 ≤ mm_I G 20 k ∧ mm_I G 20 k ≤ 20) {f : Nat → Int} (hf : f = fun g => gd_last (mm_I G 18) (mm_I G 19) (mm_I G 20) (mm_I G 21) (mm_I G 22) w dy (g : Nat) c) : aw_M X (d + 3) mt_Ma_middleOf [av_r (some 17), av_i w, av_i dy] G 0 0 (fun r G' => (cl_n f 20 5 = 0 ∧ r = some (av_i (-1)) ∨ 0 < cl_n f 20 5 ∧ ∃ u : Int, r = some (av_i u) ∧ 0 ≤ u ∧ cl_n f (u - 1) 5 ≤ (cl_n f 20 5 - 1) / 2 ∧ (cl_n f 20 5 - 1) / 2 < cl_n f u 5) ∧ G' = ms_row G 23 5 f) := by
  have hmx : cl_n f 20 5 = 5 - ct_n f (-1) 5 := by
    have := cl_mx (f := f) (n := 5) (fun k _ => by subst hf; exact gd_rng hv)
    omega
  have hr := cl_rng f 20 5
  have hrow : ∀ u, cl_n (mm_I (ms_row G 23 5 f) 23) u 5 = cl_n f u 5 := fun u => cl_eq u (fun k hk => row_at G 23 5 f hk)
  have hga := cm_Ma_gatherLast X d G (w := w) (dy := dy) hF hw hdy hc hc2 hg rfl
  have hff : (fun g : Nat => gd_last (mm_I G 18) (mm_I G 19) (mm_I G 20) (mm_I G 21) (mm_I G 22) w dy (g : Int) c) = f := hf.symm
  rw [show (fun g : Nat => (fun (i : Nat) (g : Int) => gd_last (mm_I G 18) (mm_I G 19) (mm_I G 20) (mm_I G 21) (mm_I G 22) w dy g i) c (g : Int)) = f from hff, ← hmx] at hga
  by_cases h0 : cl_n f 20 5 = 0
  · rw [h0] at hga
    refine aw_enter pf_Ma_middleOf (Nat.le_of_ble_eq_true rfl) ?_
    refine ar_aload_n (pc := 0) d_Ma_middleOf_0 rfl ?_
    refine ar_iload_n (pc := 1) d_Ma_middleOf_1 rfl ?_
    refine ar_iload_n (pc := 2) d_Ma_middleOf_2 rfl ?_
    refine ac_virt (pc := 3) (N := mt_Ma_gatherLast) _ _ mv_Ma_gatherLast ml_Ma_38 ck_1 d_Ma_middleOf_3 hga (by first | rfl | exact sh_wheel (by omega) | exact sh_milk (by omega)) rfl rfl (Nat.le_of_ble_eq_true rfl) (Nat.le_of_eq (Nat.zero_add _)) (Nat.le_of_eq (Nat.zero_add _)) (fun r_3 G_3 h_3 => ?_)
    obtain ⟨rfl, e_3⟩ := h_3
    subst G_3
    refine ar_istore_n (pc := 6) d_Ma_middleOf_6 rfl (by decide) ?_
    refine ar_iload_n (pc := 7) d_Ma_middleOf_7 rfl ?_
    refine ar_iconst (pc := 8) d_Ma_middleOf_8 ?_
    refine ar_isub (pc := 9) d_Ma_middleOf_9 ?_
    refine ar_iconst (pc := 10) d_Ma_middleOf_10 ?_
    refine ar_idiv (pc := 11) d_Ma_middleOf_11 (by omega) ⟨by omega, by omega⟩ ⟨by omega, by omega⟩ ?_
    refine ar_istore (pc := 12) d_Ma_middleOf_12 rfl (by decide) ?_
    refine ar_iconst (pc := 14) d_Ma_middleOf_14 ?_
    refine ar_istore (pc := 15) d_Ma_middleOf_15 rfl (by decide) ?_
    refine ar_iload (pc := 17) d_Ma_middleOf_17 rfl ?_
    refine ar_bipush (pc := 19) d_Ma_middleOf_19 (by decide) ?_
    refine ar_icmp_gt (pc := 21) 59 d_Ma_middleOf_21 (by decide) ⟨by omega, by omega⟩ ⟨by omega, by omega⟩ (fun h_21 => by exfalso; omega) (fun h_21 => ?_)
    refine ar_iload_n (pc := 24) d_Ma_middleOf_24 rfl ?_
    refine ar_if_le (pc := 25) 59 d_Ma_middleOf_25 (by decide) ⟨by omega, by omega⟩ (fun h_25 => ?_) (fun h_25 => by exfalso; omega)
    refine ar_iconst (pc := 59) d_Ma_middleOf_59 ?_
    refine ar_iret (pc := 60) d_Ma_middleOf_60 rfl ?_
    rotate_left
    -- leaves: ret 60
    · exact ⟨Or.inl ⟨h0, rfl⟩, rfl⟩
  · have hlp := lp_Ma_middleOf X (d + 1) (ms_row G 23 5 f) (w := w) (dy := dy) (G0 := G) (gn := cl_n f 20 5) (k := (cl_n f 20 5 - 1) / 2) (by exact hF) (by omega) (by omega) (by rw [hrow]; omega) 21 0 (by omega) (by rw [show ((0 : Nat) : Int) - 1 = -1 from rfl, cl_m1]; omega)
    rw [show ((0 : Nat) : Int) - 1 = -1 from rfl, cl_m1] at hlp
    refine aw_enter pf_Ma_middleOf (Nat.le_of_ble_eq_true rfl) ?_
    refine ar_aload_n (pc := 0) d_Ma_middleOf_0 rfl ?_
    refine ar_iload_n (pc := 1) d_Ma_middleOf_1 rfl ?_
    refine ar_iload_n (pc := 2) d_Ma_middleOf_2 rfl ?_
    refine ac_virt (pc := 3) (N := mt_Ma_gatherLast) _ _ mv_Ma_gatherLast ml_Ma_38 ck_1 d_Ma_middleOf_3 hga (by first | rfl | exact sh_wheel (by omega) | exact sh_milk (by omega)) rfl rfl (Nat.le_of_ble_eq_true rfl) (Nat.le_of_eq (Nat.zero_add _)) (Nat.le_of_eq (Nat.zero_add _)) (fun r_3 G_3 h_3 => ?_)
    obtain ⟨rfl, e_3⟩ := h_3
    subst G_3
    refine ar_istore_n (pc := 6) d_Ma_middleOf_6 rfl (by decide) ?_
    refine ar_iload_n (pc := 7) d_Ma_middleOf_7 rfl ?_
    refine ar_iconst (pc := 8) d_Ma_middleOf_8 ?_
    refine ar_isub (pc := 9) d_Ma_middleOf_9 ?_
    refine ar_iconst (pc := 10) d_Ma_middleOf_10 ?_
    refine ar_idivp (pc := 11) d_Ma_middleOf_11 (by omega) (by omega) (by omega) (by omega) ?_
    refine ar_istore (pc := 12) d_Ma_middleOf_12 rfl (by decide) ?_
    refine ar_iconst (pc := 14) d_Ma_middleOf_14 ?_
    refine ar_istore (pc := 15) d_Ma_middleOf_15 rfl (by decide) ?_
    rotate_left
    -- leaves: stop 17
    · refine ar_mono (fun r G2 hh => ?_) (ar_loc hlp ⟨rfl, rfl, li_i rfl (by omega), rfl, trivial⟩)
      obtain ⟨⟨u, h1, h2, h3, h4⟩, h5⟩ := hh
      rw [hrow] at h3 h4
      exact ⟨Or.inr ⟨by omega, u, h1, h2, h3, h4⟩, h5⟩
theorem cm_K_grade (X : gx_T) (d : Nat) (G : mm_T) {w dy : Int} {c : Nat} (hF : fx_R G) (hW : fx_W G) (hw : i3_in w) (hdy : i3_in dy) (hc : mm_I G 17 6 = c) (hc2 : c ≤ 100) (hg : ∀ k, k < c → 0 ≤ mm_I G 18 k ∧ mm_I G 18 k ≤ 4) (hv : ∀ k, k < c → 0 ≤ mm_I G 20 k ∧ mm_I G 20 k ≤ 20) {f : Nat → Int} (hf : f = fun g => gd_last (mm_I G 18) (mm_I G 19) (mm_I G 20) (mm_I G 21) (mm_I G 22) w dy (g : Nat) c) : aw_M X (d + 4) mt_K_grade [av_r (some 0), av_i w, av_i dy] G 0 0 (fun r G' => ((¬ (0 ≤ w ∧ w < mm_I G 0 14)) ∧ r = some (av_i (-1)) ∧ G' = G) ∨ ((0 ≤ w ∧ w < mm_I G 0 14) ∧ (cl_n f 20 5 = 0 ∧ r = some (av_i (-1)) ∨ 0 < cl_n f 20 5 ∧ ∃ u : Int, r = some (av_i u) ∧ 0 ≤ u ∧ cl_n f (u - 1) 5 ≤ (cl_n f 20 5 - 1) / 2 ∧ (cl_n f 20 5 - 1) / 2 < cl_n f u 5) ∧ G' = ms_row G 23 5 f)) := by
  have h := cm_K_wheelAt X (d + 2) G hF hW hw
  have hm := cm_Ma_middleOf X d G hF hw hdy hc hc2 hg hv hf
  by_cases hin : 0 ≤ w ∧ w < mm_I G 0 14
  · rw [if_pos hin] at h
    refine aw_enter pf_K_grade (Nat.le_of_ble_eq_true rfl) ?_
    refine ar_aload_n (pc := 0) d_K_grade_0 rfl ?_
    refine ar_iload_n (pc := 1) d_K_grade_1 rfl ?_
    refine ac_virt (pc := 2) (N := mt_K_wheelAt) _ _ mv_K_wheelAt ml_K_173 ck_11 d_K_grade_2 h (by first | rfl | exact sh_wheel (by omega) | exact sh_milk (by omega)) rfl rfl (Nat.le_of_ble_eq_true rfl) (Nat.le_of_eq (Nat.zero_add _)) (Nat.le_of_eq (Nat.zero_add _)) (fun r_2 G_2 h_2 => ?_)
    obtain ⟨rfl, e_2⟩ := h_2
    subst G_2
    refine ar_ifnonnull (pc := 5) 10 d_K_grade_5 (by decide) (fun _ _ => ?_) (fun h => by cases h)
    refine ar_aload_n (pc := 10) d_K_grade_10 rfl ?_
    refine ar_getR (pc := 11) gf_K_45 d_K_grade_11 (by first | rfl | exact sh_wheel (by omega) | exact sh_milk (by omega)) (hF _ _ _ rfl) ?_
    refine ar_iload_n (pc := 14) d_K_grade_14 rfl ?_
    refine ar_iload_n (pc := 15) d_K_grade_15 rfl ?_
    refine ac_virt (pc := 16) (N := mt_Ma_middleOf) _ _ mv_Ma_middleOf ml_K_256 ck_1 d_K_grade_16 hm (by first | rfl | exact sh_wheel (by omega) | exact sh_milk (by omega)) rfl rfl (Nat.le_of_ble_eq_true rfl) (Nat.le_of_eq (Nat.zero_add _)) (Nat.le_of_eq (Nat.zero_add _)) (fun r_16 G_16 h_16 => ?_)
    obtain ⟨⟨h1, rfl⟩ | ⟨h1, u, rfl, h2⟩, rfl⟩ := h_16
    refine ar_iret (pc := 19) d_K_grade_19 rfl ?_
    rotate_left
    refine ar_iret (pc := 19) d_K_grade_19 rfl ?_
    rotate_left
    -- leaves: ret 19, ret 19
    · exact Or.inr ⟨hin, Or.inl ⟨h1, rfl⟩, rfl⟩
    · exact Or.inr ⟨hin, Or.inr ⟨h1, u, rfl, h2⟩, rfl⟩
  · rw [if_neg hin] at h
    refine aw_enter pf_K_grade (Nat.le_of_ble_eq_true rfl) ?_
    refine ar_aload_n (pc := 0) d_K_grade_0 rfl ?_
    refine ar_iload_n (pc := 1) d_K_grade_1 rfl ?_
    refine ac_virt (pc := 2) (N := mt_K_wheelAt) _ _ mv_K_wheelAt ml_K_173 ck_11 d_K_grade_2 h (by first | rfl | exact sh_wheel (by omega) | exact sh_milk (by omega)) rfl rfl (Nat.le_of_ble_eq_true rfl) (Nat.le_of_eq (Nat.zero_add _)) (Nat.le_of_eq (Nat.zero_add _)) (fun r_2 G_2 h_2 => ?_)
    obtain ⟨rfl, e_2⟩ := h_2
    subst G_2
    refine ar_ifnonnull (pc := 5) 10 d_K_grade_5 (by decide) (fun _ h => by cases h) (fun _ => ?_)
    refine ar_iconst (pc := 8) d_K_grade_8 ?_
    refine ar_iret (pc := 9) d_K_grade_9 rfl ?_
    rotate_left
    -- leaves: ret 9
    · exact Or.inl ⟨hin, rfl, rfl⟩
