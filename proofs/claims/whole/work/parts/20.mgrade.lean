/-! ===== the reference's grade ===== -/
theorem lp_gr_1 (X : gx_T) (d : Nat) (G : mm_T) {w dy n g : Int} {c : Nat} {Q : Option av_T → mm_T → Prop} (hF : fx_R G) (hw : i3_in w) (hdy : i3_in dy) (hg : 0 ≤ g ∧ g ≤ 4) (hc : mm_I G 60 62 = c) (hc2 : c ≤ 100) (hun : ∀ k, k < c → -1 ≤ mm_I G 105 k)
    (kk : aw_W X mt_Mo_grade (d + 1) 106 [(0, some (av_r (some 60))), (1, some (av_i w)), (2, some (av_i dy)), (3, some (av_i n)), (4, some (av_i g)), (5, some (av_i (gd_last (mm_I G 101) (mm_I G 102) (mm_I G 103) (mm_I G 104) (mm_I G 105) w dy g c)))] [] G 0 0 Q) :
    ∀ m i, i + m = c → aw_W X mt_Mo_grade (d + 1) 27 [(0, some (av_r (some 60))), (1, some (av_i w)), (2, some (av_i dy)), (3, some (av_i n)), (4, some (av_i g)), (5, some (av_i (gd_last (mm_I G 101) (mm_I G 102) (mm_I G 103) (mm_I G 104) (mm_I G 105) w dy g i))), (6, some (av_i (i : Int)))] [] G 0 0 Q := by
  intro m
  induction m with
  | zero =>
    intro i hi
    have hi : i = c := by omega
    subst hi
    refine ar_iload (pc := 27) d_Mo_grade_27 rfl ?_
    refine ar_aload_n (pc := 29) d_Mo_grade_29 rfl ?_
    refine ar_getIv (pc := 30) gf_Mo_389 d_Mo_grade_30 (by first | rfl | exact sh_wheel (by omega) | exact sh_milk (by omega)) hc (fun r_30 => ?_)
    refine ar_icmp_ge (pc := 33) 106 d_Mo_grade_33 (by decide) ⟨by omega, by omega⟩ ⟨by omega, by omega⟩ (fun h_33 => ?_) (fun h_33 => by exfalso; omega)
    rotate_left
    -- leaves: stop 106
    · exact ar_loc kk ⟨rfl, rfl, rfl, rfl, rfl, rfl, trivial⟩
  | succ m ih =>
    intro i hi
    have ih1 := ih (i + 1) (by omega)
    have hui := hun i (by omega)
    rw [gd_last] at ih1
    clear ih kk
    refine ar_iload (pc := 27) d_Mo_grade_27 rfl ?_
    refine ar_aload_n (pc := 29) d_Mo_grade_29 rfl ?_
    refine ar_getIv (pc := 30) gf_Mo_389 d_Mo_grade_30 (by first | rfl | exact sh_wheel (by omega) | exact sh_milk (by omega)) hc (fun r_30 => ?_)
    refine ar_icmp_ge (pc := 33) 106 d_Mo_grade_33 (by decide) ⟨by omega, by omega⟩ ⟨by omega, by omega⟩ (fun h_33 => by exfalso; omega) (fun h_33 => ?_)
    refine ar_aload_n (pc := 36) d_Mo_grade_36 rfl ?_
    refine ar_getR (pc := 37) gf_Mo_136 d_Mo_grade_37 (by first | rfl | exact sh_wheel (by omega) | exact sh_milk (by omega)) (hF _ _ _ rfl) ?_
    refine ar_iload (pc := 40) d_Mo_grade_40 rfl ?_
    refine ar_iald (pc := 42) d_Mo_grade_42 rfl (i) (by omega) (by omega) (fun r_42 => ?_)
    refine ar_iload (pc := 43) d_Mo_grade_43 rfl ?_
    refine ar_icmp_ne (pc := 45) 100 d_Mo_grade_45 (by decide) ⟨by omega, by omega⟩ ⟨by omega, by omega⟩ (fun h_45 => ?_) (fun h_45 => ?_)
    refine ar_iinc (pc := 100) d_Mo_grade_100 rfl rfl (by decide) ?_
    refine ar_goto (pc := 103) 27 d_Mo_grade_103 (by decide) ?_
    rotate_left
    refine ar_aload_n (pc := 48) d_Mo_grade_48 rfl ?_
    refine ar_getR (pc := 49) gf_Mo_139 d_Mo_grade_49 (by first | rfl | exact sh_wheel (by omega) | exact sh_milk (by omega)) (hF _ _ _ rfl) ?_
    refine ar_iload (pc := 52) d_Mo_grade_52 rfl ?_
    refine ar_iald (pc := 54) d_Mo_grade_54 rfl (i) (by omega) (by omega) (fun r_54 => ?_)
    refine ar_iload_n (pc := 55) d_Mo_grade_55 rfl ?_
    refine ar_icmp_ne (pc := 56) 100 d_Mo_grade_56 (by decide) ⟨by omega, by omega⟩ ⟨by omega, by omega⟩ (fun h_56 => ?_) (fun h_56 => ?_)
    refine ar_iinc (pc := 100) d_Mo_grade_100 rfl rfl (by decide) ?_
    refine ar_goto (pc := 103) 27 d_Mo_grade_103 (by decide) ?_
    rotate_left
    refine ar_aload_n (pc := 59) d_Mo_grade_59 rfl ?_
    refine ar_getR (pc := 60) gf_Mo_145 d_Mo_grade_60 (by first | rfl | exact sh_wheel (by omega) | exact sh_milk (by omega)) (hF _ _ _ rfl) ?_
    refine ar_iload (pc := 63) d_Mo_grade_63 rfl ?_
    refine ar_iald (pc := 65) d_Mo_grade_65 rfl (i) (by omega) (by omega) (fun r_65 => ?_)
    refine ar_iload_n (pc := 66) d_Mo_grade_66 rfl ?_
    refine ar_icmp_gt (pc := 67) 100 d_Mo_grade_67 (by decide) ⟨by omega, by omega⟩ ⟨by omega, by omega⟩ (fun h_67 => ?_) (fun h_67 => ?_)
    refine ar_iinc (pc := 100) d_Mo_grade_100 rfl rfl (by decide) ?_
    refine ar_goto (pc := 103) 27 d_Mo_grade_103 (by decide) ?_
    rotate_left
    refine ar_aload_n (pc := 70) d_Mo_grade_70 rfl ?_
    refine ar_getR (pc := 71) gf_Mo_148 d_Mo_grade_71 (by first | rfl | exact sh_wheel (by omega) | exact sh_milk (by omega)) (hF _ _ _ rfl) ?_
    refine ar_iload (pc := 74) d_Mo_grade_74 rfl ?_
    refine ar_iald (pc := 76) d_Mo_grade_76 rfl (i) (by omega) (by omega) (fun r_76 => ?_)
    refine ar_if_lt (pc := 77) 91 d_Mo_grade_77 (by decide) ⟨by omega, by omega⟩ (fun h_77 => ?_) (fun h_77 => ?_)
    refine ar_aload_n (pc := 91) d_Mo_grade_91 rfl ?_
    refine ar_getR (pc := 92) gf_Mo_142 d_Mo_grade_92 (by first | rfl | exact sh_wheel (by omega) | exact sh_milk (by omega)) (hF _ _ _ rfl) ?_
    refine ar_iload (pc := 95) d_Mo_grade_95 rfl ?_
    refine ar_iald (pc := 97) d_Mo_grade_97 rfl (i) (by omega) (by omega) (fun r_97 => ?_)
    refine ar_istore (pc := 98) d_Mo_grade_98 rfl (by decide) ?_
    refine ar_iinc (pc := 100) d_Mo_grade_100 rfl rfl (by decide) ?_
    refine ar_goto (pc := 103) 27 d_Mo_grade_103 (by decide) ?_
    rotate_left
    refine ar_aload_n (pc := 80) d_Mo_grade_80 rfl ?_
    refine ar_getR (pc := 81) gf_Mo_148 d_Mo_grade_81 (by first | rfl | exact sh_wheel (by omega) | exact sh_milk (by omega)) (hF _ _ _ rfl) ?_
    refine ar_iload (pc := 84) d_Mo_grade_84 rfl ?_
    refine ar_iald (pc := 86) d_Mo_grade_86 rfl (i) (by omega) (by omega) (fun r_86 => ?_)
    refine ar_iload_n (pc := 87) d_Mo_grade_87 rfl ?_
    refine ar_icmp_le (pc := 88) 100 d_Mo_grade_88 (by decide) ⟨by omega, by omega⟩ ⟨by omega, by omega⟩ (fun h_88 => ?_) (fun h_88 => ?_)
    refine ar_iinc (pc := 100) d_Mo_grade_100 rfl rfl (by decide) ?_
    refine ar_goto (pc := 103) 27 d_Mo_grade_103 (by decide) ?_
    rotate_left
    refine ar_aload_n (pc := 91) d_Mo_grade_91 rfl ?_
    refine ar_getR (pc := 92) gf_Mo_142 d_Mo_grade_92 (by first | rfl | exact sh_wheel (by omega) | exact sh_milk (by omega)) (hF _ _ _ rfl) ?_
    refine ar_iload (pc := 95) d_Mo_grade_95 rfl ?_
    refine ar_iald (pc := 97) d_Mo_grade_97 rfl (i) (by omega) (by omega) (fun r_97 => ?_)
    refine ar_istore (pc := 98) d_Mo_grade_98 rfl (by decide) ?_
    refine ar_iinc (pc := 100) d_Mo_grade_100 rfl rfl (by decide) ?_
    refine ar_goto (pc := 103) 27 d_Mo_grade_103 (by decide) ?_
    rotate_left
    -- leaves: stop 27, stop 27, stop 27, stop 27, stop 27, stop 27
    all_goals first | exact ar_loc ih1 ⟨rfl, rfl, rfl, rfl, rfl, li_i rfl (by rw [if_neg (by omega)]), li_i rfl (by omega), trivial⟩ | exact ar_loc ih1 ⟨rfl, rfl, rfl, rfl, rfl, li_i rfl (by rw [if_pos (by omega)]), li_i rfl (by omega), trivial⟩
/-- a row with a hole at p, what lies behind it moved by one -/
def sf_r (f : Nat → Int) (n p : Nat) : Nat → Int := fun i => if p < i ∧ i ≤ n then f (i - 1) else f i
theorem lp_gr_2 (X : gx_T) (d : Nat) (G : mm_T) {w dy g v : Int} {n : Nat} {f : Nat → Int} {Q : Option av_T → mm_T → Prop} (hF : fx_R G) (hn : n < 5) (hv : 0 ≤ v ∧ v ≤ 20) (hf : ∀ i, i < n → 0 ≤ f i ∧ f i ≤ 20) (hs : ∀ i j, i < j → j < n → f i ≤ f j)
    (kk : ∀ p, p ≤ n → (∀ i, i < p → f i ≤ v) → (∀ i, p ≤ i → i < n → v ≤ f i) → aw_W X mt_Mo_grade (d + 1) 170 [(0, some (av_r (some 60))), (1, some (av_i w)), (2, some (av_i dy)), (3, some (av_i ((n + 1 : Nat) : Int))), (4, some (av_i g))] [] (ms_row G 106 5 (fun i => if i = p then v else sf_r f n p i)) 0 0 Q) :
    ∀ p, p ≤ n → (∀ i, p ≤ i → i < n → v ≤ f i) → aw_W X mt_Mo_grade (d + 1) 117 [(0, some (av_r (some 60))), (1, some (av_i w)), (2, some (av_i dy)), (3, some (av_i (n : Int))), (4, some (av_i g)), (5, some (av_i v)), (6, some (av_i (p : Int)))] [] (ms_row G 106 5 (sf_r f n p)) 0 0 Q := by
  intro p
  induction p with
  | zero =>
    intro hp hhi
    have kk := kk 0 hp (fun i hi => by omega) hhi
    rw [← row_set G 106 5 _ _ (by omega)] at kk
    refine ar_iload (pc := 117) d_Mo_grade_117 rfl ?_
    refine ar_if_le (pc := 119) 158 d_Mo_grade_119 (by decide) ⟨by omega, by omega⟩ (fun h_119 => ?_) (fun h_119 => by exfalso; omega)
    refine ar_aload_n (pc := 158) d_Mo_grade_158 rfl ?_
    refine ar_getR (pc := 159) gf_Mo_151 d_Mo_grade_159 (by first | rfl | exact sh_wheel (by omega) | exact sh_milk (by omega)) (hF _ _ _ rfl) ?_
    refine ar_iload (pc := 162) d_Mo_grade_162 rfl ?_
    refine ar_iload (pc := 164) d_Mo_grade_164 rfl ?_
    refine ar_iast (pc := 166) d_Mo_grade_166 rfl (0) (by omega) (by omega) ⟨by omega, by omega⟩ ?_
    refine ar_iinc (pc := 167) d_Mo_grade_167 rfl rfl (by decide) ?_
    rotate_left
    -- leaves: stop 170
    · exact ar_loc kk ⟨rfl, rfl, rfl, li_i rfl (by omega), rfl, trivial⟩
  | succ p ih =>
    intro hp hhi
    have hfp := hf p (by omega)
    have e1 : mm_I (ms_row G 106 5 (sf_r f n (p + 1))) 106 p = f p := by
      rw [row_at G 106 5 _ (by omega)]
      unfold sf_r
      rw [if_neg (by omega)]
    by_cases hle : f p ≤ v
    · have kk := kk (p + 1) hp (fun i hi => by
        by_cases hip : i = p
        · rw [hip]; exact hle
        · exact Int.le_trans (hs i p (by omega) (by omega)) hle) hhi
      rw [← row_set G 106 5 _ _ (by omega)] at kk
      clear ih
      refine ar_iload (pc := 117) d_Mo_grade_117 rfl ?_
      refine ar_if_le (pc := 119) 158 d_Mo_grade_119 (by decide) ⟨by omega, by omega⟩ (fun h_119 => by exfalso; omega) (fun h_119 => ?_)
      refine ar_aload_n (pc := 122) d_Mo_grade_122 rfl ?_
      refine ar_getR (pc := 123) gf_Mo_151 d_Mo_grade_123 (by first | rfl | exact sh_wheel (by omega) | exact sh_milk (by omega)) (hF _ _ _ rfl) ?_
      refine ar_iload (pc := 126) d_Mo_grade_126 rfl ?_
      refine ar_iconst (pc := 128) d_Mo_grade_128 ?_
      refine ar_isub (pc := 129) d_Mo_grade_129 ?_
      refine ar_ialdv (pc := 130) d_Mo_grade_130 rfl (p) (by omega) (by omega) e1 (fun r_130 => ?_)
      refine ar_iload (pc := 131) d_Mo_grade_131 rfl ?_
      refine ar_icmp_le (pc := 133) 158 d_Mo_grade_133 (by decide) ⟨by omega, by omega⟩ ⟨by omega, by omega⟩ (fun h_133 => ?_) (fun h_133 => by exfalso; omega)
      refine ar_aload_n (pc := 158) d_Mo_grade_158 rfl ?_
      refine ar_getR (pc := 159) gf_Mo_151 d_Mo_grade_159 (by first | rfl | exact sh_wheel (by omega) | exact sh_milk (by omega)) (hF _ _ _ rfl) ?_
      refine ar_iload (pc := 162) d_Mo_grade_162 rfl ?_
      refine ar_iload (pc := 164) d_Mo_grade_164 rfl ?_
      refine ar_iast (pc := 166) d_Mo_grade_166 rfl (p+1) (by omega) (by omega) ⟨by omega, by omega⟩ ?_
      refine ar_iinc (pc := 167) d_Mo_grade_167 rfl rfl (by decide) ?_
      rotate_left
      -- leaves: stop 170
      · exact ar_loc kk ⟨rfl, rfl, rfl, li_i rfl (by omega), rfl, trivial⟩
    · have ih1 := ih (by omega) (fun i h1 h2 => by
        by_cases hip : i = p
        · rw [hip]; omega
        · exact hhi i (by omega) h2)
      have e2 : ms_row G 106 5 (sf_r f n p) = ms_I (ms_row G 106 5 (sf_r f n (p + 1))) 106 (p + 1) (f p) := by
        rw [row_set G 106 5 _ _ (by omega)]
        refine row_eq G 106 5 (fun j hj => ?_)
        unfold sf_r
        by_cases h1 : j = p + 1
        · rw [if_pos (by omega), if_pos h1, h1]; rfl
        · rw [if_neg h1]
          by_cases h2 : p < j ∧ j ≤ n
          · rw [if_pos h2, if_pos (by omega)]
          · rw [if_neg h2, if_neg (by omega)]
      rw [e2] at ih1
      clear ih kk
      refine ar_iload (pc := 117) d_Mo_grade_117 rfl ?_
      refine ar_if_le (pc := 119) 158 d_Mo_grade_119 (by decide) ⟨by omega, by omega⟩ (fun h_119 => by exfalso; omega) (fun h_119 => ?_)
      refine ar_aload_n (pc := 122) d_Mo_grade_122 rfl ?_
      refine ar_getR (pc := 123) gf_Mo_151 d_Mo_grade_123 (by first | rfl | exact sh_wheel (by omega) | exact sh_milk (by omega)) (hF _ _ _ rfl) ?_
      refine ar_iload (pc := 126) d_Mo_grade_126 rfl ?_
      refine ar_iconst (pc := 128) d_Mo_grade_128 ?_
      refine ar_isub (pc := 129) d_Mo_grade_129 ?_
      refine ar_ialdv (pc := 130) d_Mo_grade_130 rfl (p) (by omega) (by omega) e1 (fun r_130 => ?_)
      refine ar_iload (pc := 131) d_Mo_grade_131 rfl ?_
      refine ar_icmp_le (pc := 133) 158 d_Mo_grade_133 (by decide) ⟨by omega, by omega⟩ ⟨by omega, by omega⟩ (fun h_133 => by exfalso; omega) (fun h_133 => ?_)
      refine ar_aload_n (pc := 136) d_Mo_grade_136 rfl ?_
      refine ar_getR (pc := 137) gf_Mo_151 d_Mo_grade_137 (by first | rfl | exact sh_wheel (by omega) | exact sh_milk (by omega)) (hF _ _ _ rfl) ?_
      refine ar_iload (pc := 140) d_Mo_grade_140 rfl ?_
      refine ar_aload_n (pc := 142) d_Mo_grade_142 rfl ?_
      refine ar_getR (pc := 143) gf_Mo_151 d_Mo_grade_143 (by first | rfl | exact sh_wheel (by omega) | exact sh_milk (by omega)) (hF _ _ _ rfl) ?_
      refine ar_iload (pc := 146) d_Mo_grade_146 rfl ?_
      refine ar_iconst (pc := 148) d_Mo_grade_148 ?_
      refine ar_isub (pc := 149) d_Mo_grade_149 ?_
      refine ar_ialdv (pc := 150) d_Mo_grade_150 rfl (p) (by omega) (by omega) e1 (fun r_150 => ?_)
      refine ar_iast (pc := 151) d_Mo_grade_151 rfl (p+1) (by omega) (by omega) ⟨by omega, by omega⟩ ?_
      refine ar_iinc (pc := 152) d_Mo_grade_152 rfl rfl (by decide) ?_
      refine ar_goto (pc := 155) 117 d_Mo_grade_155 (by decide) ?_
      rotate_left
      -- leaves: stop 117
      · exact ar_loc ih1 ⟨rfl, rfl, rfl, rfl, rfl, rfl, li_i rfl (by omega), trivial⟩
/-- what the row holds of the first g graders -/
def gr_ok2 (f r : Nat → Int) (n g : Nat) : Prop := n ≤ g ∧ (∀ i, i < n → 0 ≤ r i ∧ r i ≤ 20) ∧ (∀ i j, i < j → j < n → r i ≤ r j) ∧ ∀ u, cl_n r u n = cl_n f u g
theorem lp_gr_3 (X : gx_T) (d : Nat) (G : mm_T) {w dy : Int} {c : Nat} (hF : fx_R G) (hw : i3_in w) (hdy : i3_in dy) (hc : mm_I G 60 62 = c) (hc2 : c ≤ 100) (hun : ∀ k, k < c → -1 ≤ mm_I G 105 k) (hva : ∀ k, k < c → 0 ≤ mm_I G 103 k ∧ mm_I G 103 k ≤ 20) {f : Nat → Int} (hf : f = fun g => gd_last (mm_I G 101) (mm_I G 102) (mm_I G 103) (mm_I G 104) (mm_I G 105) w dy (g : Nat) c) :
    ∀ m g n r, g + m = 5 → gr_ok2 f r n g → aw_W X mt_Mo_grade (d + 1) 15 [(0, some (av_r (some 60))), (1, some (av_i w)), (2, some (av_i dy)), (3, some (av_i (n : Int))), (4, some (av_i (g : Int)))] [] (ms_row G 106 5 r) 0 0 (fun s G' => (∃ n r, gr_ok2 f r n 5 ∧ G' = ms_row G 106 5 r ∧ s = some (av_i (if n = 0 then -1 else r ((n - 1) / 2))))) := by
  intro m
  induction m with
  | zero =>
    intro g n r hg hr
    have hg : g = 5 := by omega
    subst hg
    have hn := hr.1
    by_cases hn0 : n = 0
    · have leaf : ∃ n' r', gr_ok2 f r' n' 5 ∧ ms_row G 106 5 r = ms_row G 106 5 r' ∧ some (av_i (-1)) = some (av_i (if n' = 0 then -1 else r' ((n' - 1) / 2))) := ⟨n, r, hr, rfl, by rw [if_pos hn0]⟩
      clear hr
      refine ar_iload (pc := 15) d_Mo_grade_15 rfl ?_
      refine ar_iconst (pc := 17) d_Mo_grade_17 ?_
      refine ar_icmp_ge (pc := 18) 176 d_Mo_grade_18 (by decide) ⟨by omega, by omega⟩ ⟨by omega, by omega⟩ (fun h_18 => ?_) (fun h_18 => by exfalso; omega)
      refine ar_iload_n (pc := 176) d_Mo_grade_176 rfl ?_
      refine ar_if_ne (pc := 177) 184 d_Mo_grade_177 (by decide) ⟨by omega, by omega⟩ (fun h_177 => by exfalso; omega) (fun h_177 => ?_)
      refine ar_iconst (pc := 180) d_Mo_grade_180 ?_
      refine ar_goto (pc := 181) 194 d_Mo_grade_181 (by decide) ?_
      refine ar_iret (pc := 194) d_Mo_grade_194 rfl ?_
      rotate_left
      -- leaves: ret 194
      · exact leaf
    · have e1 : mm_I (ms_row G 106 5 r) 106 ((n - 1) / 2) = r ((n - 1) / 2) := row_at G 106 5 r (by omega)
      have leaf : ∃ n' r', gr_ok2 f r' n' 5 ∧ ms_row G 106 5 r = ms_row G 106 5 r' ∧ some (av_i (r ((n - 1) / 2))) = some (av_i (if n' = 0 then -1 else r' ((n' - 1) / 2))) := ⟨n, r, hr, rfl, by rw [if_neg hn0]⟩
      clear hr
      refine ar_iload (pc := 15) d_Mo_grade_15 rfl ?_
      refine ar_iconst (pc := 17) d_Mo_grade_17 ?_
      refine ar_icmp_ge (pc := 18) 176 d_Mo_grade_18 (by decide) ⟨by omega, by omega⟩ ⟨by omega, by omega⟩ (fun h_18 => ?_) (fun h_18 => by exfalso; omega)
      refine ar_iload_n (pc := 176) d_Mo_grade_176 rfl ?_
      refine ar_if_ne (pc := 177) 184 d_Mo_grade_177 (by decide) ⟨by omega, by omega⟩ (fun h_177 => ?_) (fun h_177 => by exfalso; omega)
      refine ar_aload_n (pc := 184) d_Mo_grade_184 rfl ?_
      refine ar_getR (pc := 185) gf_Mo_151 d_Mo_grade_185 (by first | rfl | exact sh_wheel (by omega) | exact sh_milk (by omega)) (hF _ _ _ rfl) ?_
      refine ar_iload_n (pc := 188) d_Mo_grade_188 rfl ?_
      refine ar_iconst (pc := 189) d_Mo_grade_189 ?_
      refine ar_isub (pc := 190) d_Mo_grade_190 ?_
      refine ar_iconst (pc := 191) d_Mo_grade_191 ?_
      refine ar_idivp (pc := 192) d_Mo_grade_192 (by omega) (by omega) (by omega) (by omega) ?_
      refine ar_ialdv (pc := 193) d_Mo_grade_193 rfl ((n-1)/2) (by omega) (by omega) e1 (fun r_193 => ?_)
      refine ar_iret (pc := 194) d_Mo_grade_194 rfl ?_
      rotate_left
      -- leaves: ret 194
      · exact leaf
  | succ m ih =>
    intro g n r hg hr
    obtain ⟨hng, hr1, hr2, hr3⟩ := hr
    have hfr : -1 ≤ f g ∧ f g ≤ 20 := by subst hf; exact gd_rng hva
    have hfg : gd_last (mm_I G 101) (mm_I G 102) (mm_I G 103) (mm_I G 104) (mm_I G 105) w dy (g : Int) c = f g := by subst hf; rfl
    have h106 : aw_W X mt_Mo_grade (d + 1) 106 [(0, some (av_r (some 60))), (1, some (av_i w)), (2, some (av_i dy)), (3, some (av_i (n : Int))), (4, some (av_i (g : Int))), (5, some (av_i (f g)))] [] (ms_row G 106 5 r) 0 0 (fun s G' => (∃ n r, gr_ok2 f r n 5 ∧ G' = ms_row G 106 5 r ∧ s = some (av_i (if n = 0 then -1 else r ((n - 1) / 2))))) := by
      by_cases hneg : f g < 0
      · have ih1 := ih (g + 1) n r (by omega) ⟨by omega, hr1, hr2, fun u => by rw [cl_n, if_neg (by omega), hr3]; omega⟩
        clear ih
        refine ar_iload (pc := 106) d_Mo_grade_106 rfl ?_
        refine ar_if_ge (pc := 108) 114 d_Mo_grade_108 (by decide) ⟨by omega, by omega⟩ (fun h_108 => by exfalso; omega) (fun h_108 => ?_)
        refine ar_goto (pc := 111) 170 d_Mo_grade_111 (by decide) ?_
        refine ar_iinc (pc := 170) d_Mo_grade_170 rfl rfl (by decide) ?_
        refine ar_goto (pc := 173) 15 d_Mo_grade_173 (by decide) ?_
        rotate_left
        -- leaves: stop 15
        · exact ar_loc ih1 ⟨rfl, rfl, rfl, rfl, li_i rfl (by omega), trivial⟩
      · have h2 := lp_gr_2 X d G (w := w) (dy := dy) (g := (g : Int)) (v := f g) (n := n) (f := r) (Q := fun s G' => (∃ n r, gr_ok2 f r n 5 ∧ G' = ms_row G 106 5 r ∧ s = some (av_i (if n = 0 then -1 else r ((n - 1) / 2))))) hF (by omega) (by omega) hr1 hr2 ?_ n (Nat.le_refl _) (fun i h1 h2 => by omega)
        · have e0 : ms_row G 106 5 (sf_r r n n) = ms_row G 106 5 r := row_eq G 106 5 (fun j hj => by unfold sf_r; rw [if_neg (by omega)])
          rw [e0] at h2
          clear ih
          refine ar_iload (pc := 106) d_Mo_grade_106 rfl ?_
          refine ar_if_ge (pc := 108) 114 d_Mo_grade_108 (by decide) ⟨by omega, by omega⟩ (fun h_108 => ?_) (fun h_108 => by exfalso; omega)
          refine ar_iload_n (pc := 114) d_Mo_grade_114 rfl ?_
          refine ar_istore (pc := 115) d_Mo_grade_115 rfl (by decide) ?_
          rotate_left
          -- leaves: stop 117
          · exact ar_loc h2 ⟨rfl, rfl, rfl, rfl, rfl, rfl, rfl, trivial⟩
        · intro p hp hlo hhi
          have hin : ∀ i, i < n + 1 → (if i = p then f g else sf_r r n p i) = in_at r p (f g) i := by
            intro i hi
            unfold sf_r in_at
            by_cases h1 : i = p
            · rw [if_pos h1, if_neg (by omega), if_pos h1]
            · by_cases h2 : i < p
              · rw [if_neg h1, if_neg (by omega), if_pos h2]
              · rw [if_neg h1, if_pos (by omega), if_neg h2, if_neg h1]
          have hso := in_sorted hp hr2 hlo hhi
          have ih1 := ih (g + 1) (n + 1) (fun i => if i = p then f g else sf_r r n p i) (by omega) ⟨by omega, fun i hi => by
            show 0 ≤ (if i = p then f g else sf_r r n p i) ∧ (if i = p then f g else sf_r r n p i) ≤ 20
            rw [hin i hi]
            unfold in_at
            by_cases h2 : i < p
            · rw [if_pos h2]; exact hr1 i (by omega)
            · by_cases h1 : i = p
              · rw [if_neg h2, if_pos h1]; omega
              · rw [if_neg h2, if_neg h1]; exact hr1 (i - 1) (by omega), fun i j hij hj => by
            show (if i = p then f g else sf_r r n p i) ≤ (if j = p then f g else sf_r r n p j)
            rw [hin i (by omega), hin j hj]
            exact hso i j hij hj, fun u => by
            rw [cl_eq u hin, in_cl r _ u hp, hr3, cl_n]⟩
          clear ih
          refine ar_iinc (pc := 170) d_Mo_grade_170 rfl rfl (by decide) ?_
          refine ar_goto (pc := 173) 15 d_Mo_grade_173 (by decide) ?_
          rotate_left
          -- leaves: stop 15
          · exact ar_loc ih1 ⟨rfl, rfl, rfl, rfl, li_i rfl (by omega), trivial⟩
    have h27 := lp_gr_1 X d (ms_row G 106 5 r) (w := w) (dy := dy) (n := (n : Int)) (g := (g : Int)) (by exact hF) hw hdy (by omega) (by exact hc) hc2 (by exact hun) (by
      show aw_W X mt_Mo_grade (d + 1) 106 [(0, some (av_r (some 60))), (1, some (av_i w)), (2, some (av_i dy)), (3, some (av_i (n : Int))), (4, some (av_i (g : Int))), (5, some (av_i (gd_last (mm_I G 101) (mm_I G 102) (mm_I G 103) (mm_I G 104) (mm_I G 105) w dy (g : Int) c)))] [] (ms_row G 106 5 r) 0 0 _
      rw [hfg]; exact h106) c 0 (by omega)
    clear ih h106
    refine ar_iload (pc := 15) d_Mo_grade_15 rfl ?_
    refine ar_iconst (pc := 17) d_Mo_grade_17 ?_
    refine ar_icmp_ge (pc := 18) 176 d_Mo_grade_18 (by decide) ⟨by omega, by omega⟩ ⟨by omega, by omega⟩ (fun h_18 => by exfalso; omega) (fun h_18 => ?_)
    refine ar_iconst (pc := 21) d_Mo_grade_21 ?_
    refine ar_istore (pc := 22) d_Mo_grade_22 rfl (by decide) ?_
    refine ar_iconst (pc := 24) d_Mo_grade_24 ?_
    refine ar_istore (pc := 25) d_Mo_grade_25 rfl (by decide) ?_
    rotate_left
    -- leaves: stop 27
    · exact ar_loc h27 ⟨rfl, rfl, rfl, rfl, rfl, rfl, rfl, trivial⟩
theorem cm_Mo_grade (X : gx_T) (d : Nat) (G : mm_T) {w dy : Int} {c : Nat} (hF : fx_R G) (hw : i3_in w) (hdy : i3_in dy) (hc : mm_I G 60 62 = c) (hc2 : c ≤ 100) (hun : ∀ k, k < c → -1 ≤ mm_I G 105 k) (hva : ∀ k, k < c → 0 ≤ mm_I G 103 k ∧ mm_I G 103 k ≤ 20) {f : Nat → Int} (hf : f = fun g => gd_last (mm_I G 101) (mm_I G 102) (mm_I G 103) (mm_I G 104) (mm_I G 105) w dy (g : Nat) c) : aw_M X (d + 2) mt_Mo_grade [av_r (some 60), av_i w, av_i dy] G 0 0 (fun s G' => (¬ (0 ≤ w ∧ w < mm_I G 60 4) ∧ s = some (av_i (-1)) ∧ G' = G) ∨ ((0 ≤ w ∧ w < mm_I G 60 4) ∧ ∃ n r, gr_ok2 f r n 5 ∧ G' = ms_row G 106 5 r ∧ s = some (av_i (if n = 0 then -1 else r ((n - 1) / 2))))) := by
  have h := lp_gr_3 X (d + 1) G hF hw hdy hc hc2 hun hva hf 5 0 0 (mm_I G 106) (by omega) ⟨by omega, fun i hi => by omega, fun i j _ hj => by omega, fun u => rfl⟩
  rw [row_id] at h
  refine aw_enter pf_Mo_grade (Nat.le_of_ble_eq_true rfl) ?_
  refine ar_aload_n (pc := 0) d_Mo_grade_0 rfl ?_
  refine ar_iload_n (pc := 1) d_Mo_grade_1 rfl ?_
  refine ac_virt (pc := 2) (N := mt_Mo_isWheel) _ _ mv_Mo_isWheel ml_Mo_190 ck_12 d_Mo_grade_2 (cm_Mo_isWheel _ _ _ hw) (by first | rfl | exact sh_wheel (by omega) | exact sh_milk (by omega)) rfl rfl (Nat.le_of_ble_eq_true rfl) (Nat.le_of_eq (Nat.zero_add _)) (Nat.le_of_eq (Nat.zero_add _)) (fun r_2 G_2 h_2 => ?_)
  obtain ⟨rfl, e_2⟩ := h_2
  subst G_2
  refine ar_if_ne (pc := 5) 10 d_Mo_grade_5 (by decide) ⟨by omega, by omega⟩ (fun h_5 => ?_) (fun h_5 => ?_)
  refine ar_iconst (pc := 10) d_Mo_grade_10 ?_
  refine ar_istore_n (pc := 11) d_Mo_grade_11 rfl (by decide) ?_
  refine ar_iconst (pc := 12) d_Mo_grade_12 ?_
  refine ar_istore (pc := 13) d_Mo_grade_13 rfl (by decide) ?_
  rotate_left
  refine ar_iconst (pc := 8) d_Mo_grade_8 ?_
  refine ar_iret (pc := 9) d_Mo_grade_9 rfl ?_
  rotate_left
  -- leaves: stop 15, ret 9
  · refine ar_mono (fun s G2 hh => Or.inr ⟨by omega, hh⟩) (ar_loc h ⟨rfl, rfl, rfl, rfl, rfl, trivial⟩)
  · exact Or.inl ⟨by omega, rfl, rfl⟩
/-- both grades are one -/
theorem gr_same {f r : Nat → Int} {n : Nat} {u : Int} (h : gr_ok2 f r n 5) (h0 : 0 < cl_n f 20 5) (hu : 0 ≤ u) (h1 : cl_n f (u - 1) 5 ≤ (cl_n f 20 5 - 1) / 2) (h2 : (cl_n f 20 5 - 1) / 2 < cl_n f u 5) : (if n = 0 then -1 else r ((n - 1) / 2)) = u := by
  obtain ⟨hn, hr1, hr2, hr3⟩ := h
  have e1 : cl_n f 20 5 = n := by rw [← hr3]; exact cl_full hr1
  have hn0 : n ≠ 0 := by intro z; rw [e1, z] at h0; simp at h0
  rw [if_neg hn0]
  have k1 := cl_sorted (fun k hk => (hr1 k hk).1) hr2 (k := (n - 1) / 2) (by omega) u
  have k2 := cl_sorted (fun k hk => (hr1 k hk).1) hr2 (k := (n - 1) / 2) (by omega) (u - 1)
  rw [hr3] at k1 k2
  have h3 := k1.mpr (by omega)
  have h4 := fun z => k2.mp z
  omega
theorem gr_none {f r : Nat → Int} {n : Nat} (h : gr_ok2 f r n 5) (h0 : cl_n f 20 5 = 0) : (if n = 0 then -1 else r ((n - 1) / 2)) = -1 := by
  obtain ⟨hn, hr1, hr2, hr3⟩ := h
  have e1 : cl_n f 20 5 = n := by rw [← hr3]; exact cl_full hr1
  rw [if_pos (by omega)]
