/-! ===== the reference seeks: all sets on one shelf, all shelves ===== -/
def se_F (q : Nat → Nat → Int) (room : Nat → Int) (n s : Nat) (C : Nat → Int) (G G1 : mm_T) (x : Nat) : Prop := (mm_R G1 = mm_R G ∧ mm_A G1 = mm_A G) ∧ (∀ b j, ¬ (b = 98 ∧ 1024 * s ≤ j ∧ j < 1024 * s + 1024) → mm_I G1 b j = mm_I G b j) ∧ (∀ b j, ¬ (b = 99 ∧ 1024 * s ≤ j ∧ j < 1024 * s + 1024) → mm_J G1 b j = mm_J G b j) ∧ ∀ y, y < x → fi_I q room n s C y (fun _ => True) (mm_J G1 99 (1024 * s + y)) (mm_I G1 98 (1024 * s + y))
theorem sk_up {q : Nat → Nat → Int} {room : Nat → Int} {n s : Nat} {C : Nat → Int} {G G1 : mm_T} (h : sk_I G q room n s C) (hR : mm_R G1 = mm_R G) (hI : ∀ b j, ¬ (b = 98 ∧ 1024 * s ≤ j ∧ j < 1024 * s + 1024) → mm_I G1 b j = mm_I G b j) (hJ : ∀ b j, ¬ (b = 99 ∧ 1024 * s ≤ j ∧ j < 1024 * s + 1024) → mm_J G1 b j = mm_J G b j) : sk_I G1 q room n s C := by
  obtain ⟨h1, ⟨h2, h3⟩, h4, h5, h6, h7, h8, h9⟩ := h
  exact ⟨fun a k b z => by rw [hR]; exact h1 a k b z, ⟨by rw [hI _ _ (by omega)]; exact h2, h3⟩, h4, fun k hk => by rw [hJ _ _ (by omega)]; exact h5 k hk, h6, fun y hy => by rw [hJ _ _ (by omega)]; exact h7 y hy, h8, h9⟩
theorem lp_seek_e (X : gx_T) (d : Nat) {G : mm_T} {q : Nat → Nat → Int} {room : Nat → Int} {n s : Nat} {C : Nat → Int} {Q : Option av_T → mm_T → Prop} (H : sk_I G q room n s C)
    (kk : ∀ G2, se_F q room n s C G G2 (2 ^ n) → aw_W X mt_Mo_seek (d + 3) 337 [(0, some (av_r (some 60))), (1, some (av_i ((2 ^ n - 1 : Nat) : Int))), (2, some (av_i (s : Int)))] [] G2 0 0 Q) : ∀ m x G1, x + m = 2 ^ n → se_F q room n s C G G1 x → aw_W X mt_Mo_seek (d + 3) 170 [(0, some (av_r (some 60))), (1, some (av_i ((2 ^ n - 1 : Nat) : Int))), (2, some (av_i (s : Int))), (3, some (av_i (room s))), (4, some (av_i (x : Int)))] [] G1 0 0 Q := by
  have hn := H.2.1.2
  have h1024 := p2_10 hn
  have hpos : 0 < 2 ^ n := Nat.two_pow_pos n
  have hs24 := H.2.2.1
  intro m
  induction m with
  | zero =>
    intro x G1 hx h
    have hx : x = 2 ^ n := by omega
    have k1 := kk G1 (by rw [← hx]; exact h)
    generalize 2 ^ n = N at *
    clear kk
    refine ar_iload (pc := 170) d_Mo_seek_170 rfl ?_
    refine ar_iload_n (pc := 172) d_Mo_seek_172 rfl ?_
    refine ar_icmp_gt (pc := 173) 337 d_Mo_seek_173 (by decide) ⟨by omega, by omega⟩ ⟨by omega, by omega⟩ (fun h_173 => ?_) (fun h_173 => by exfalso; omega)
    rotate_left
    -- leaves: stop 337
    · exact ar_loc k1 ⟨rfl, rfl, rfl, trivial⟩
  | succ m ih =>
    intro x G1 hx h
    obtain ⟨h1, h2, h3, h4⟩ := h
    have H1 := sk_up (G1 := ms_J G1 99 (1024 * s + x) 9223372036854775807) H h1.1 h2 (fun b j hb => by rw [mj_sn _ _ (by omega)]; exact h3 b j hb)
    have hxn : x < 2 ^ n := by omega
    have lp := lp_seek_p X d (al := ((2 ^ n - 1 : Nat) : Int)) (Q := Q) (at0 := 1024 * s + x) H1 hxn rfl (fun G2 v bp hf hI => by
      have i1 := ih (x + 1) G2 (by omega) ⟨⟨hf.1.1.trans h1.1, hf.1.2.trans h1.2⟩, fun b j hb => by rw [hf.2.1 b j (by omega)]; exact h2 b j hb, fun b j hb => by
          rw [hf.2.2.1 b j (by omega), mj_sn _ _ (by omega)]; exact h3 b j hb, fun y hy => by
          by_cases e : y = x
          · subst e; rw [hf.2.2.2.1, hf.2.2.2.2]; exact hI
          · rw [hf.2.2.1 _ _ (by omega), hf.2.1 _ _ (by omega), mj_sn _ _ (by omega)]
            exact h4 y (by omega)⟩
      generalize 2 ^ n = N at *
      clear ih kk
      refine ar_iinc (pc := 331) d_Mo_seek_331 rfl rfl (by decide) ?_
      refine ar_goto (pc := 334) 170 d_Mo_seek_334 (by decide) ?_
      rotate_left
      -- leaves: stop 170
      · exact ar_loc i1 ⟨rfl, rfl, rfl, rfl, li_i rfl (by omega), trivial⟩) x (ms_J G1 99 (1024 * s + x) 9223372036854775807) 9223372036854775807 (mm_I G1 98 (1024 * s + x)) (Nat.and_self x) ⟨⟨rfl, rfl⟩, fun _ _ _ => rfl, fun _ _ _ => rfl, mj_ss _ _ _ _, rfl⟩ ⟨Or.inl rfl, fun p hp hd => by
        exfalso
        have : p ≤ x := by rw [← hp.1]; exact Nat.and_le_right
        omega⟩
    have hF : fx_R G1 := fun a k b z => by rw [h1.1]; exact H.1 a k b z
    generalize 2 ^ n = N at *
    clear ih kk h2 h3 h4
    refine ar_iload (pc := 170) d_Mo_seek_170 rfl ?_
    refine ar_iload_n (pc := 172) d_Mo_seek_172 rfl ?_
    refine ar_icmp_gt (pc := 173) 337 d_Mo_seek_173 (by decide) ⟨by omega, by omega⟩ ⟨by omega, by omega⟩ (fun h_173 => by exfalso; omega) (fun h_173 => ?_)
    refine ar_sipush (pc := 176) d_Mo_seek_176 (by decide) ?_
    refine ar_iload_n (pc := 179) d_Mo_seek_179 rfl ?_
    refine ar_imul (pc := 180) d_Mo_seek_180 ?_
    refine ar_iload (pc := 181) d_Mo_seek_181 rfl ?_
    refine ar_iadd (pc := 183) d_Mo_seek_183 ?_
    refine ar_istore (pc := 184) d_Mo_seek_184 rfl (by decide) ?_
    refine ar_aload_n (pc := 186) d_Mo_seek_186 rfl ?_
    refine ar_getR (pc := 187) gf_Mo_129 d_Mo_seek_187 (by first | rfl | exact sh_wheel (by omega) | exact sh_milk (by omega)) (hF _ _ _ rfl) ?_
    refine ar_iload (pc := 190) d_Mo_seek_190 rfl ?_
    refine ar_ldc2 (pc := 192) (9223372036854775807) kj_Mo_375 d_Mo_seek_192 (by decide) ?_
    refine ar_last (pc := 195) d_Mo_seek_195 rfl (1024*s+x) (by omega) (by omega) ⟨by omega, by omega⟩ ?_
    refine ar_iload (pc := 196) d_Mo_seek_196 rfl ?_
    refine ar_istore (pc := 198) d_Mo_seek_198 rfl (by decide) ?_
    refine ar_iconst (pc := 200) d_Mo_seek_200 ?_
    refine ar_istore (pc := 201) d_Mo_seek_201 rfl (by decide) ?_
    rotate_left
    -- leaves: stop 203
    · exact ar_loc lp ⟨rfl, rfl, rfl, rfl, rfl, li_i rfl (by omega), rfl, rfl, trivial⟩
/-- who already lay there and goes -/
def rk_c (sh : Nat → Int) (gw : Nat → Nat) (s : Int) : Nat → Int
  | 0 => 0
  | k + 1 => rk_c sh gw s k + if sh (gw k) = s then 1 else 0
theorem rk_cr (sh : Nat → Int) (gw : Nat → Nat) (s : Int) : ∀ k, 0 ≤ rk_c sh gw s k ∧ rk_c sh gw s k ≤ k := by
  intro k
  induction k with
  | zero => exact ⟨Int.le_refl _, Int.le_refl _⟩
  | succ k ih => rw [rk_c]; split <;> omega
/-- the reference's goers -/
def mgo_I (G : mm_T) (wc n : Nat) (gw : Nat → Nat) : Prop := fx_R G ∧ (mm_I G 60 4 = wc ∧ wc ≤ 40) ∧ (mm_I G 60 54 = n ∧ n ≤ 10) ∧ (∀ k, k < n → mm_I G 95 k = (gw k : Nat) ∧ gw k < wc ∧ 0 ≤ mm_I G 67 (gw k) ∧ mm_I G 67 (gw k) ≤ 23)
theorem lp_seek_r (X : gx_T) (d : Nat) {G G1 : mm_T} {wc n s : Nat} {gw : Nat → Nat} {al r0 : Int} {Q : Option av_T → mm_T → Prop} (H : mgo_I G wc n gw) (hR : mm_R G1 = mm_R G) (hI : ∀ b j, b ≠ 98 → mm_I G1 b j = mm_I G b j) (hs : s < 24) (hr0 : -100 ≤ r0 ∧ r0 ≤ 90)
    (kk : aw_W X mt_Mo_seek (d + 3) 167 [(0, some (av_r (some 60))), (1, some (av_i al)), (2, some (av_i (s : Int))), (3, some (av_i (r0 + rk_c (mm_I G 67) gw s n)))] [] G1 0 0 Q) : ∀ m k, k + m = n → aw_W X mt_Mo_seek (d + 3) 128 [(0, some (av_r (some 60))), (1, some (av_i al)), (2, some (av_i (s : Int))), (3, some (av_i (r0 + rk_c (mm_I G 67) gw s k))), (4, some (av_i (k : Int)))] [] G1 0 0 Q := by
  obtain ⟨hFG, ⟨hw1, hw2⟩, ⟨hg, hn⟩, hgo⟩ := H
  have hF : fx_R G1 := fun a k b z => by rw [hR]; exact hFG a k b z
  have hg1 : mm_I G1 60 54 = (n : Int) := by rw [hI _ _ (by omega)]; exact hg
  intro m
  induction m with
  | zero =>
    intro k hk
    have hk : k = n := by omega
    subst hk
    refine ar_iload (pc := 128) d_Mo_seek_128 rfl ?_
    refine ar_aload_n (pc := 130) d_Mo_seek_130 rfl ?_
    refine ar_getIv (pc := 131) gf_Mo_357 d_Mo_seek_131 (by first | rfl | exact sh_wheel (by omega) | exact sh_milk (by omega)) hg1 (fun r_131 => ?_)
    refine ar_icmp_ge (pc := 134) 167 d_Mo_seek_134 (by decide) ⟨by omega, by omega⟩ ⟨by omega, by omega⟩ (fun h_134 => ?_) (fun h_134 => by exfalso; omega)
    rotate_left
    -- leaves: stop 167
    · exact ar_loc kk ⟨rfl, rfl, rfl, rfl, trivial⟩
  | succ m ih =>
    intro k hk
    obtain ⟨g1, g2, g3, g4⟩ := hgo k (by omega)
    have e95 : mm_I G1 95 k = (gw k : Nat) := by rw [hI _ _ (by omega)]; exact g1
    have e67 : mm_I G1 67 (gw k) = mm_I G 67 (gw k) := hI _ _ (by omega)
    have i1 := ih (k + 1) (by omega)
    rw [rk_c] at i1
    clear ih kk hgo
    generalize mm_I G 67 (gw k) = y at *
    by_cases e : y = (s : Int)
    · rw [if_pos e] at i1
      refine ar_iload (pc := 128) d_Mo_seek_128 rfl ?_
      refine ar_aload_n (pc := 130) d_Mo_seek_130 rfl ?_
      refine ar_getIv (pc := 131) gf_Mo_357 d_Mo_seek_131 (by first | rfl | exact sh_wheel (by omega) | exact sh_milk (by omega)) hg1 (fun r_131 => ?_)
      refine ar_icmp_ge (pc := 134) 167 d_Mo_seek_134 (by decide) ⟨by omega, by omega⟩ ⟨by omega, by omega⟩ (fun h_134 => by exfalso; omega) (fun h_134 => ?_)
      refine ar_iload_n (pc := 137) d_Mo_seek_137 rfl ?_
      refine ar_aload_n (pc := 138) d_Mo_seek_138 rfl ?_
      refine ar_getR (pc := 139) gf_Mo_28 d_Mo_seek_139 (by first | rfl | exact sh_wheel (by omega) | exact sh_milk (by omega)) (hF _ _ _ rfl) ?_
      refine ar_aload_n (pc := 142) d_Mo_seek_142 rfl ?_
      refine ar_getR (pc := 143) gf_Mo_117 d_Mo_seek_143 (by first | rfl | exact sh_wheel (by omega) | exact sh_milk (by omega)) (hF _ _ _ rfl) ?_
      refine ar_iload (pc := 146) d_Mo_seek_146 rfl ?_
      refine ar_ialdv (pc := 148) d_Mo_seek_148 rfl (k) (by omega) (by omega) e95 (fun r_148 => ?_)
      refine ar_ialdv (pc := 149) d_Mo_seek_149 rfl ((gw k)) (by omega) (by omega) e67 (fun r_149 => ?_)
      refine ar_iload_n (pc := 150) d_Mo_seek_150 rfl ?_
      refine ar_icmp_ne (pc := 151) 158 d_Mo_seek_151 (by decide) ⟨by omega, by omega⟩ ⟨by omega, by omega⟩ (fun h_151 => by exfalso; omega) (fun h_151 => ?_)
      refine ar_iconst (pc := 154) d_Mo_seek_154 ?_
      refine ar_goto (pc := 155) 159 d_Mo_seek_155 (by decide) ?_
      refine ar_iadd (pc := 159) d_Mo_seek_159 ?_
      refine ar_istore_n (pc := 160) d_Mo_seek_160 rfl (by decide) ?_
      refine ar_iinc (pc := 161) d_Mo_seek_161 rfl rfl (by decide) ?_
      refine ar_goto (pc := 164) 128 d_Mo_seek_164 (by decide) ?_
      rotate_left
      -- leaves: stop 128
      · exact ar_loc i1 ⟨rfl, rfl, rfl, li_i rfl (by omega), li_i rfl (by omega), trivial⟩
    · rw [if_neg e] at i1
      refine ar_iload (pc := 128) d_Mo_seek_128 rfl ?_
      refine ar_aload_n (pc := 130) d_Mo_seek_130 rfl ?_
      refine ar_getIv (pc := 131) gf_Mo_357 d_Mo_seek_131 (by first | rfl | exact sh_wheel (by omega) | exact sh_milk (by omega)) hg1 (fun r_131 => ?_)
      refine ar_icmp_ge (pc := 134) 167 d_Mo_seek_134 (by decide) ⟨by omega, by omega⟩ ⟨by omega, by omega⟩ (fun h_134 => by exfalso; omega) (fun h_134 => ?_)
      refine ar_iload_n (pc := 137) d_Mo_seek_137 rfl ?_
      refine ar_aload_n (pc := 138) d_Mo_seek_138 rfl ?_
      refine ar_getR (pc := 139) gf_Mo_28 d_Mo_seek_139 (by first | rfl | exact sh_wheel (by omega) | exact sh_milk (by omega)) (hF _ _ _ rfl) ?_
      refine ar_aload_n (pc := 142) d_Mo_seek_142 rfl ?_
      refine ar_getR (pc := 143) gf_Mo_117 d_Mo_seek_143 (by first | rfl | exact sh_wheel (by omega) | exact sh_milk (by omega)) (hF _ _ _ rfl) ?_
      refine ar_iload (pc := 146) d_Mo_seek_146 rfl ?_
      refine ar_ialdv (pc := 148) d_Mo_seek_148 rfl (k) (by omega) (by omega) e95 (fun r_148 => ?_)
      refine ar_ialdv (pc := 149) d_Mo_seek_149 rfl ((gw k)) (by omega) (by omega) e67 (fun r_149 => ?_)
      refine ar_iload_n (pc := 150) d_Mo_seek_150 rfl ?_
      refine ar_icmp_ne (pc := 151) 158 d_Mo_seek_151 (by decide) ⟨by omega, by omega⟩ ⟨by omega, by omega⟩ (fun h_151 => ?_) (fun h_151 => by exfalso; omega)
      refine ar_iconst (pc := 158) d_Mo_seek_158 ?_
      refine ar_iadd (pc := 159) d_Mo_seek_159 ?_
      refine ar_istore_n (pc := 160) d_Mo_seek_160 rfl (by decide) ?_
      refine ar_iinc (pc := 161) d_Mo_seek_161 rfl rfl (by decide) ?_
      refine ar_goto (pc := 164) 128 d_Mo_seek_164 (by decide) ?_
      rotate_left
      -- leaves: stop 128
      · exact ar_loc i1 ⟨rfl, rfl, rfl, li_i rfl (by omega), li_i rfl (by omega), trivial⟩
/-- the shelves from j on are through -/
def lv_I (q : Nat → Nat → Int) (room : Nat → Int) (n : Nat) (G G1 : mm_T) (j : Nat) : Prop := (mm_R G1 = mm_R G ∧ mm_A G1 = mm_A G) ∧ (∀ b i, b ≠ 98 → mm_I G1 b i = mm_I G b i) ∧ (∀ b i, b ≠ 99 → mm_J G1 b i = mm_J G b i) ∧ (∀ y, y < 2 ^ n → mm_J G1 99 (24576 + y) = if y = 0 then 0 else 9223372036854775807) ∧ (∀ t y, j ≤ t → t < 24 → y < 2 ^ n → fi_I q room n t (fun y => mm_J G1 99 (1024 * (t + 1) + y)) y (fun _ => True) (mm_J G1 99 (1024 * t + y)) (mm_I G1 98 (1024 * t + y))) ∧ dl_I q room n j (fun y => mm_J G1 99 (1024 * j + y))
theorem lp_seek_c (X : gx_T) (d : Nat) {G : mm_T} {q : Nat → Nat → Int} {room : Nat → Int} {wc n : Nat} {gw : Nat → Nat} {Q : Option av_T → mm_T → Prop} (H : mgo_I G wc n gw) (hq : ∀ s k, s < 24 → k < n → mm_J G 100 (10 * s + k) = q s k) (hqb : ∀ s k, q s k ≤ 4184623143714816) (hroom : ∀ s, s < 24 → room s = 4 - ct_n (mm_I G 67) s wc + rk_c (mm_I G 67) gw s n)
    (kk : ∀ G2, lv_I q room n G G2 0 → aw_W X mt_Mo_seek (d + 3) 343 [(0, some (av_r (some 60))), (1, some (av_i ((2 ^ n - 1 : Nat) : Int)))] [] G2 0 0 Q) : ∀ j G1, j ≤ 24 → lv_I q room n G G1 j → aw_W X mt_Mo_seek (d + 3) 113 [(0, some (av_r (some 60))), (1, some (av_i ((2 ^ n - 1 : Nat) : Int))), (2, some (av_i ((j : Int) - 1)))] [] G1 0 0 Q := by
  intro j
  induction j with
  | zero =>
    intro G1 hj h
    have k1 := kk G1 h
    clear kk
    generalize 2 ^ n = N at k1 ⊢
    refine ar_iload_n (pc := 113) d_Mo_seek_113 rfl ?_
    refine ar_if_lt (pc := 114) 343 d_Mo_seek_114 (by decide) ⟨by omega, by omega⟩ (fun h_114 => ?_) (fun h_114 => by exfalso; omega)
    rotate_left
    -- leaves: stop 343
    · exact ar_loc k1 ⟨rfl, rfl, trivial⟩
  | succ j ih =>
    intro G1 hj h
    have hn := H.2.2.1.2
    have h1024 := p2_10 hn
    obtain ⟨h1, h2, h3, h4, h5, h6⟩ := h
    have hFG := H.1
    have hF : fx_R G1 := fun a k b z => by rw [h1.1]; exact hFG a k b z
    have cr := ct_rng (mm_I G 67) (j : Int) wc
    have w40 := H.2.1.2
    have rr := rk_cr (mm_I G 67) gw (j : Int) n
    have hrj := hroom j (by omega)
    have SK : sk_I G1 q room n j (fun y => mm_J G1 99 (1024 * (j + 1) + y)) := ⟨hF, ⟨by rw [h2 _ _ (by omega)]; exact H.2.2.1.1, hn⟩, by omega, fun k hk => by rw [h3 _ _ (by omega)]; exact hq j k (by omega) hk, hqb, fun y hy => rfl, fun y hy => by
      rcases h6 y hy with ⟨z, -⟩ | ⟨z, -⟩
      · exact Or.inl z
      · right; exact ⟨z.1, by have := z.2; omega⟩, by omega⟩
    have lpe := lp_seek_e X d (Q := Q) SK (fun G2 hse => by
      obtain ⟨g1, g2, g3, g4⟩ := hse
      have eC : (fun y => mm_J G2 99 (1024 * (j + 1) + y)) = fun y => mm_J G1 99 (1024 * (j + 1) + y) := funext fun y => by
        exact g3 _ _ (by omega)
      have i1 := ih G2 (by omega) ⟨⟨g1.1.trans h1.1, g1.2.trans h1.2⟩, fun b i hb => by rw [g2 b i (by omega)]; exact h2 b i hb, fun b i hb => by rw [g3 b i (by omega)]; exact h3 b i hb, fun y hy => by rw [g3 _ _ (by omega)]; exact h4 y hy, fun t y t1 t2 hy => by
          by_cases e : t = j
          · subst e; rw [eC]; exact g4 y hy
          · have ee : (fun y => mm_J G2 99 (1024 * (t + 1) + y)) = fun y => mm_J G1 99 (1024 * (t + 1) + y) := funext fun y => g3 _ _ (by omega)
            rw [ee, g3 _ _ (by omega), g2 _ _ (by omega)]
            exact h5 t y (by omega) t2 hy, by
          refine dl_s hn (by omega) hqb h6 (fun x hx => ?_)
          have := g4 x hx
          refine ⟨?_, fun p hp => this.2 p hp trivial⟩
          rcases this.1 with z | ⟨p, z1, z2, -⟩
          · exact Or.inl z
          · exact Or.inr ⟨p, z1, z2⟩⟩
      clear ih kk
      generalize 2 ^ n = N at i1 ⊢
      refine ar_iinc (pc := 337) d_Mo_seek_337 rfl rfl (by decide) ?_
      refine ar_goto (pc := 340) 113 d_Mo_seek_340 (by decide) ?_
      rotate_left
      -- leaves: stop 113
      · exact ar_loc i1 ⟨rfl, rfl, li_i rfl (by omega), trivial⟩) (2 ^ n) 0 G1 (by omega) ⟨⟨rfl, rfl⟩, fun _ _ _ => rfl, fun _ _ _ => rfl, fun y hy => by omega⟩
    have lpr := lp_seek_r X d (G1 := G1) (al := ((2 ^ n - 1 : Nat) : Int)) (r0 := 4 - ct_n (mm_I G 67) (j : Int) wc) (s := j) (Q := Q) H h1.1 h2 (by omega) (by omega) (by
      rw [← hrj]
      clear ih kk
      generalize 2 ^ n = N at lpe ⊢
      refine ar_iconst (pc := 167) d_Mo_seek_167 ?_
      refine ar_istore (pc := 168) d_Mo_seek_168 rfl (by decide) ?_
      rotate_left
      -- leaves: stop 170
      · exact ar_loc lpe ⟨rfl, rfl, rfl, rfl, rfl, trivial⟩) n 0 (by omega)
    have c120 := cm_Mo_lying X (d + 1) G1 (s := (j : Int)) hF ⟨by omega, by omega⟩ (w := wc) (by rw [h2 _ _ (by omega)]; exact H.2.1.1) w40
    have e67 : mm_I G1 67 = mm_I G 67 := funext fun i => h2 _ _ (by omega)
    rw [e67] at c120
    clear ih kk lpe SK
    generalize 2 ^ n = N at lpr ⊢
    rw [show (((j + 1 : Nat) : Int) - 1) = (j : Int) by omega]
    rw [rk_c] at lpr
    refine ar_iload_n (pc := 113) d_Mo_seek_113 rfl ?_
    refine ar_if_lt (pc := 114) 343 d_Mo_seek_114 (by decide) ⟨by omega, by omega⟩ (fun h_114 => by exfalso; omega) (fun h_114 => ?_)
    refine ar_iconst (pc := 117) d_Mo_seek_117 ?_
    refine ar_aload_n (pc := 118) d_Mo_seek_118 rfl ?_
    refine ar_iload_n (pc := 119) d_Mo_seek_119 rfl ?_
    refine ac_virt (pc := 120) (N := mt_Mo_lying) _ _ mv_Mo_lying ml_Mo_174 ck_12 d_Mo_seek_120 c120 (by first | rfl | exact sh_wheel (by omega) | exact sh_milk (by omega)) rfl rfl (Nat.le_of_ble_eq_true rfl) (Nat.le_of_eq (Nat.zero_add _)) (Nat.le_of_eq (Nat.zero_add _)) (fun r_120 G_120 h_120 => ?_)
    obtain ⟨rfl, e_120⟩ := h_120
    subst G_120
    refine ar_isub (pc := 123) d_Mo_seek_123 ?_
    refine ar_istore_n (pc := 124) d_Mo_seek_124 rfl (by decide) ?_
    refine ar_iconst (pc := 125) d_Mo_seek_125 ?_
    refine ar_istore (pc := 126) d_Mo_seek_126 rfl (by decide) ?_
    rotate_left
    -- leaves: stop 128
    · exact ar_loc lpr ⟨rfl, rfl, rfl, li_i rfl (by omega), rfl, trivial⟩
