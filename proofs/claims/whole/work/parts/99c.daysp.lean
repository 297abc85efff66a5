/-! ===== days, on both sides ===== -/
theorem dy_si {N : Int → Int → Int → Int → Int} {kd : Int} {f : Nat → Int} {le : Nat → Nat} {dd : Nat → Int} {s : Int × Int × Int} {u : Int} (h : 0 ≤ s.2.2 ∧ s.2.2 ≤ u) (j : Nat) : 0 ≤ (dy_v N kd f le dd s j).2.2 ∧ (dy_v N kd f le dd s j).2.2 ≤ u := by
  induction j with
  | zero => exact h
  | succ j ih =>
    unfold dy_v
    split
    · exact ih
    · unfold dd_v
      split
      · exact ⟨Int.le_refl _, by have := h; show (0 : Int) ≤ u; omega⟩
      · split <;> exact ih
/-- the four values of a wheel after t days -/
def gd_W (kd md sh ai da : Nat → Int) (T : Int) (f : Nat → Int) (le : Nat → Nat) (dd : Nat → Int) (L : Nat) (w0 : Nat → Int × (Int × Int × Int)) : Nat → Nat → Int × (Int × Int × Int)
  | 0, k => w0 k
  | t + 1, k => if sh k = -1 then gd_W kd md sh ai da T f le dd L w0 t k else day4 (kd k) (T + t - md k) (gd_W kd md sh ai da T f le dd L w0 t k).1 (ai (sh k).toNat) (da ((sh k).toNat / 6)) (sh k) (T + t) (gd_W kd md sh ai da T f le dd L w0 t k).2.1 (gd_W kd md sh ai da T f le dd L w0 t k).2.2.1 (gd_W kd md sh ai da T f le dd L w0 t k).2.2.2 f le dd L
def gd_r (v : Int × (Int × Int × Int)) (u : Int) : Prop := (0 ≤ v.1 ∧ v.1 ≤ 1000000) ∧ (0 ≤ v.2.1 ∧ v.2.1 ≤ 1000000) ∧ (0 ≤ v.2.2.1 ∧ v.2.2.1 ≤ 1000000) ∧ (0 ≤ v.2.2.2 ∧ v.2.2.2 ≤ u)
theorem gdw_rng {kd md sh ai da : Nat → Int} {T : Int} {f : Nat → Int} {le : Nat → Nat} {dd : Nat → Int} {L : Nat} {w0 : Nat → Int × (Int × Int × Int)} {k : Nat} (h : gd_r (w0 k) T) : ∀ t : Nat, gd_r (gd_W kd md sh ai da T f le dd L w0 t k) (T + t) := by
  intro t
  induction t with
  | zero => exact ⟨h.1, h.2.1, h.2.2.1, h.2.2.2.1, by have := h.2.2.2.2; show (w0 k).2.2.2 ≤ T + ((0 : Nat) : Int); omega⟩
  | succ t ih =>
    unfold gd_W
    split
    · exact ⟨ih.1, ih.2.1, ih.2.2.1, ih.2.2.2.1, by have := ih.2.2.2.2; omega⟩
    · unfold day4
      refine ⟨wn_r _, wn_r _, wn_r _, ?_⟩
      have q := dy_si (N := nv_v (kd k) (T + t - md k) (gd_W kd md sh ai da T f le dd L w0 t k).1 (ai (sh k).toNat) (da ((sh k).toNat / 6)) (sh k) (T + t)) (kd := kd k) (f := f) (le := le) (dd := dd) (s := ((gd_W kd md sh ai da T f le dd L w0 t k).2.1, (gd_W kd md sh ai da T f le dd L w0 t k).2.2.1, (gd_W kd md sh ai da T f le dd L w0 t k).2.2.2)) ih.2.2.2 L
      exact ⟨by have := q.1; show (0 : Int) ≤ _ + 1; omega, by have := q.2; show _ + (1 : Int) ≤ T + ((t + 1 : Nat) : Int); omega⟩
/-- a day of the class, whichever orders are in force -/
def gx_D (G G1 : mm_T) (f : Nat → Int) (le : Nat → Nat) (dd : Nat → Int) (L n : Nat) : Prop := (mm_R G1 = mm_R G ∧ mm_A G1 = mm_A G) ∧ (∀ b i, ¬ (b = 46 ∨ b = 47 ∨ b = 52 ∨ b = 53 ∨ (b = 42 ∧ i = 7) ∨ (b = 48 ∧ i = 7)) → ¬ (∃ k, k < n ∧ b = 300 + k ∧ mm_I G (300 + k) 4 ≠ -1 ∧ (i = 6 ∨ i = 7 ∨ i = 8 ∨ i = 9)) → mm_I G1 b i = mm_I G b i) ∧ ∀ k, k < n → mm_I G (300 + k) 4 ≠ -1 → mm_I G1 (300 + k) 6 = (xd4 G f le dd L k).1 ∧ mm_I G1 (300 + k) 7 = (xd4 G f le dd L k).2.1 ∧ mm_I G1 (300 + k) 8 = (xd4 G f le dd L k).2.2.1 ∧ mm_I G1 (300 + k) 9 = (xd4 G f le dd L k).2.2.2
theorem gx_pass (X : gx_T) (d : Nat) {G : mm_T} {wc L : Nat} {f : Nat → Int} {le : Nat → Nat} {dd : Nat → Int} (hF : fx_R G) (hFW : fx_W G) (ho : gi_o G f le dd L) (hwc : mm_I G 0 14 = wc) (hwc2 : wc ≤ 40) (ht : 0 ≤ mm_I G 0 15 ∧ mm_I G 0 15 ≤ 99999) (hg : ∀ k, k < wc → xw_G G k) (hsh : sh_G G) (hW : pg_W f le dd L) : aw_M X (d + 5) mt_K_passDay [av_r (some 0)] G 0 0 (fun r G' => r = none ∧ ∃ G2, gx_D G G2 f le dd L wc ∧ G' = ms_I (ms_I G2 0 15 (mm_I G 0 15 + 1)) 24 11 1) := by
  rcases ho with ⟨o1, o2, o3, o4⟩ | ⟨o1, o2, o3, o4⟩
  · refine am_mono ?_ (cm_K_passDay_a X d G hF hFW o1 hwc hwc2 ht hg hsh hW o3 o4)
    rintro r G' ⟨rfl, G2, ⟨⟨x1, x2, x3⟩, x4, x5⟩, rfl⟩
    exact ⟨rfl, G2, ⟨⟨x1, x3⟩, fun b i h1 h2 => x4 b i (by omega) (by omega) (by omega) h2, x5⟩, rfl⟩
  · refine am_mono ?_ (cm_K_passDay_b X d G hF hFW o1 hwc hwc2 ht hg hsh hW o3 o4)
    rintro r G' ⟨rfl, G2, ⟨⟨x1, x2, x3⟩, x4, x5⟩, rfl⟩
    exact ⟨rfl, G2, ⟨⟨x1, x3⟩, fun b i h1 h2 => x4 b i (by omega) (by omega) (by omega) h2, x5⟩, rfl⟩
/-- the class after t days -/
def gd_K (G G' : mm_T) (wc : Nat) (T : Int) (W : Nat → Nat → Int × (Int × Int × Int)) (t : Nat) : Prop := (mm_R G' = mm_R G ∧ mm_A G' = mm_A G) ∧ (∀ b i, ¬ (b = 46 ∨ b = 47 ∨ b = 52 ∨ b = 53 ∨ (b = 42 ∧ i = 7) ∨ (b = 48 ∧ i = 7) ∨ (b = 0 ∧ i = 15) ∨ (b = 24 ∧ i = 11) ∨ (300 ≤ b ∧ 6 ≤ i ∧ i ≤ 9)) → mm_I G' b i = mm_I G b i) ∧ mm_I G' 0 15 = T + t ∧ (mm_I G' 24 11 = if t = 0 then mm_I G 24 11 else 1) ∧ ∀ k, k < wc → mm_I G' (300 + k) 6 = (W t k).1 ∧ mm_I G' (300 + k) 7 = (W t k).2.1 ∧ mm_I G' (300 + k) 8 = (W t k).2.2.1 ∧ mm_I G' (300 + k) 9 = (W t k).2.2.2
/-- the reference after t days -/
def gd_M (G G' : mm_T) (wc : Nat) (T : Int) (W : Nat → Nat → Int × (Int × Int × Int)) (t : Nat) : Prop := (mm_R G' = mm_R G ∧ mm_A G' = mm_A G) ∧ (∀ b i, ¬ (b = 89 ∨ b = 90 ∨ (b = 60 ∧ (i = 0 ∨ i = 53)) ∨ (i < wc ∧ (b = 68 ∨ b = 69 ∨ b = 70 ∨ b = 72))) → mm_I G' b i = mm_I G b i) ∧ mm_I G' 60 0 = T + t ∧ (mm_I G' 60 53 = if t = 0 then mm_I G 60 53 else 0) ∧ ∀ k, k < wc → mm_I G' 68 k = (W t k).1 ∧ mm_I G' 69 k = (W t k).2.1 ∧ mm_I G' 70 k = (W t k).2.2.1 ∧ mm_I G' 72 k = (W t k).2.2.2
