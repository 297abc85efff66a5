/-! ===== the reference's beside, both reached ===== -/
theorem lp_lb_1 (X : gx_T) (d : Nat) (G : mm_T) {a e : Int} {c j k : Nat} {Q : Option av_T → mm_T → Prop} (hc : mm_I G 60 5 = c) (hc2 : c ≤ 200) (hk : k ≤ c) (kk : aw_W X mt_Mo_layBeside (d + 1) 199 [(0, some (av_r (some 60))), (1, some (av_i a)), (2, some (av_i e)), (3, some (av_i 1)), (4, some (av_i (j : Int)))] [] G 0 0 Q) : aw_W X mt_Mo_layBeside (d + 1) 21 [(0, some (av_r (some 60))), (1, some (av_i a)), (2, some (av_i e)), (3, some (av_i 1)), (4, some (av_i (j : Int))), (5, some (av_i (k : Int)))] [] G 0 0 Q := by
  refine ar_iload (pc := 21) d_Mo_layBeside_21 rfl ?_
  refine ar_aload_n (pc := 23) d_Mo_layBeside_23 rfl ?_
  refine ar_getIv (pc := 24) gf_Mo_168 d_Mo_layBeside_24 (by first | rfl | exact sh_wheel (by omega) | exact sh_milk (by omega)) hc (fun r_24 => ?_)
  refine ar_icmp_ge (pc := 27) 199 d_Mo_layBeside_27 (by decide) ⟨by omega, by omega⟩ ⟨by omega, by omega⟩ (fun h_27 => ?_) (fun h_27 => ?_)
  rotate_left
  refine ar_iload_n (pc := 30) d_Mo_layBeside_30 rfl ?_
  refine ar_if_ne (pc := 31) 199 d_Mo_layBeside_31 (by decide) ⟨by omega, by omega⟩ (fun h_31 => ?_) (fun h_31 => by exfalso; omega)
  rotate_left
  -- leaves: stop 199, stop 199
  · exact ar_loc kk ⟨rfl, rfl, rfl, rfl, rfl, trivial⟩
  · exact ar_loc kk ⟨rfl, rfl, rfl, rfl, rfl, trivial⟩
theorem lp_lb_2 (X : gx_T) (d : Nat) (G : mm_T) {a e t : Int} {c j : Nat} {Q : Option av_T → mm_T → Prop} (hF : fx_R G) (ha : i3_in a) (he : i3_in e) (hc : mm_I G 60 5 = c) (hc2 : c ≤ 200) (hj : j < c) (ht : mm_I G 60 0 = t) (hl : ∀ k, k < c → -1 ≤ mm_I G 78 k ∧ mm_I G 78 k ≤ t)
    (kk1 : (∃ k, k < c ∧ sy_P (mm_I G 75) (mm_I G 76) (mm_I G 77) (mm_I G 78) t a e j k) → aw_W X mt_Mo_layBeside (d + 1) 199 [(0, some (av_r (some 60))), (1, some (av_i a)), (2, some (av_i e)), (3, some (av_i 1)), (4, some (av_i (j : Int)))] [] G 0 0 Q)
    (kk0 : (∀ k, k < c → ¬ sy_P (mm_I G 75) (mm_I G 76) (mm_I G 77) (mm_I G 78) t a e j k) → aw_W X mt_Mo_layBeside (d + 1) 199 [(0, some (av_r (some 60))), (1, some (av_i a)), (2, some (av_i e)), (3, some (av_i 0)), (4, some (av_i (j : Int)))] [] G 0 0 Q) :
    ∀ n k, k + n = c → (∀ i, i < k → ¬ sy_P (mm_I G 75) (mm_I G 76) (mm_I G 77) (mm_I G 78) t a e j i) → aw_W X mt_Mo_layBeside (d + 1) 21 [(0, some (av_r (some 60))), (1, some (av_i a)), (2, some (av_i e)), (3, some (av_i 0)), (4, some (av_i (j : Int))), (5, some (av_i (k : Int)))] [] G 0 0 Q := by
  have hlj := hl j hj
  intro n
  induction n with
  | zero =>
    intro k hk hno
    have hk : k = c := by omega
    subst hk
    refine ar_iload (pc := 21) d_Mo_layBeside_21 rfl ?_
    refine ar_aload_n (pc := 23) d_Mo_layBeside_23 rfl ?_
    refine ar_getIv (pc := 24) gf_Mo_168 d_Mo_layBeside_24 (by first | rfl | exact sh_wheel (by omega) | exact sh_milk (by omega)) hc (fun r_24 => ?_)
    refine ar_icmp_ge (pc := 27) 199 d_Mo_layBeside_27 (by decide) ⟨by omega, by omega⟩ ⟨by omega, by omega⟩ (fun h_27 => ?_) (fun h_27 => by exfalso; omega)
    rotate_left
    -- leaves: stop 199
    · exact ar_loc (kk0 hno) ⟨rfl, rfl, rfl, rfl, rfl, trivial⟩
  | succ n ih =>
    intro k hk hno
    have hlk := hl k (by omega)
    have nx0 : ¬ sy_P (mm_I G 75) (mm_I G 76) (mm_I G 77) (mm_I G 78) t a e j k → aw_W X mt_Mo_layBeside (d + 1) 21 [(0, some (av_r (some 60))), (1, some (av_i a)), (2, some (av_i e)), (3, some (av_i 0)), (4, some (av_i (j : Int))), (5, some (av_i ((k + 1 : Nat) : Int)))] [] G 0 0 Q := by
      intro h
      refine ih (k + 1) (by omega) (fun i hi => ?_)
      by_cases hik : i = k
      · subst hik; exact h
      · exact hno i (by omega)
    have nx1 : sy_P (mm_I G 75) (mm_I G 76) (mm_I G 77) (mm_I G 78) t a e j k → aw_W X mt_Mo_layBeside (d + 1) 21 [(0, some (av_r (some 60))), (1, some (av_i a)), (2, some (av_i e)), (3, some (av_i 1)), (4, some (av_i (j : Int))), (5, some (av_i ((k + 1 : Nat) : Int)))] [] G 0 0 Q := by
      intro h
      exact lp_lb_1 X d G hc hc2 (by omega) (kk1 ⟨k, by omega, h⟩)
    unfold sy_P sy_sh at nx0 nx1
    refine ar_iload (pc := 21) d_Mo_layBeside_21 rfl ?_
    refine ar_aload_n (pc := 23) d_Mo_layBeside_23 rfl ?_
    refine ar_getIv (pc := 24) gf_Mo_168 d_Mo_layBeside_24 (by first | rfl | exact sh_wheel (by omega) | exact sh_milk (by omega)) hc (fun r_24 => ?_)
    refine ar_icmp_ge (pc := 27) 199 d_Mo_layBeside_27 (by decide) ⟨by omega, by omega⟩ ⟨by omega, by omega⟩ (fun h_27 => by exfalso; omega) (fun h_27 => ?_)
    refine ar_iload_n (pc := 30) d_Mo_layBeside_30 rfl ?_
    refine ar_if_ne (pc := 31) 199 d_Mo_layBeside_31 (by decide) ⟨by omega, by omega⟩ (fun h_31 => by exfalso; omega) (fun h_31 => ?_)
    refine ar_aload_n (pc := 34) d_Mo_layBeside_34 rfl ?_
    refine ar_getR (pc := 35) gf_Mo_53 d_Mo_layBeside_35 (by first | rfl | exact sh_wheel (by omega) | exact sh_milk (by omega)) (hF _ _ _ rfl) ?_
    refine ar_iload (pc := 38) d_Mo_layBeside_38 rfl ?_
    refine ar_iald (pc := 40) d_Mo_layBeside_40 rfl (j) (by omega) (by omega) (fun r_40 => ?_)
    refine ar_iload_n (pc := 41) d_Mo_layBeside_41 rfl ?_
    refine ar_icmp_ne (pc := 42) 193 d_Mo_layBeside_42 (by decide) ⟨by omega, by omega⟩ ⟨by omega, by omega⟩ (fun h_42 => ?_) (fun h_42 => ?_)
    refine ar_iinc (pc := 193) d_Mo_layBeside_193 rfl rfl (by decide) ?_
    refine ar_goto (pc := 196) 21 d_Mo_layBeside_196 (by decide) ?_
    rotate_left
    refine ar_aload_n (pc := 45) d_Mo_layBeside_45 rfl ?_
    refine ar_getR (pc := 46) gf_Mo_53 d_Mo_layBeside_46 (by first | rfl | exact sh_wheel (by omega) | exact sh_milk (by omega)) (hF _ _ _ rfl) ?_
    refine ar_iload (pc := 49) d_Mo_layBeside_49 rfl ?_
    refine ar_iald (pc := 51) d_Mo_layBeside_51 rfl (k) (by omega) (by omega) (fun r_51 => ?_)
    refine ar_iload_n (pc := 52) d_Mo_layBeside_52 rfl ?_
    refine ar_icmp_ne (pc := 53) 193 d_Mo_layBeside_53 (by decide) ⟨by omega, by omega⟩ ⟨by omega, by omega⟩ (fun h_53 => ?_) (fun h_53 => ?_)
    refine ar_iinc (pc := 193) d_Mo_layBeside_193 rfl rfl (by decide) ?_
    refine ar_goto (pc := 196) 21 d_Mo_layBeside_196 (by decide) ?_
    rotate_left
    refine ar_aload_n (pc := 56) d_Mo_layBeside_56 rfl ?_
    refine ar_getR (pc := 57) gf_Mo_56 d_Mo_layBeside_57 (by first | rfl | exact sh_wheel (by omega) | exact sh_milk (by omega)) (hF _ _ _ rfl) ?_
    refine ar_iload (pc := 60) d_Mo_layBeside_60 rfl ?_
    refine ar_iald (pc := 62) d_Mo_layBeside_62 rfl (j) (by omega) (by omega) (fun r_62 => ?_)
    refine ar_aload_n (pc := 63) d_Mo_layBeside_63 rfl ?_
    refine ar_getR (pc := 64) gf_Mo_56 d_Mo_layBeside_64 (by first | rfl | exact sh_wheel (by omega) | exact sh_milk (by omega)) (hF _ _ _ rfl) ?_
    refine ar_iload (pc := 67) d_Mo_layBeside_67 rfl ?_
    refine ar_iald (pc := 69) d_Mo_layBeside_69 rfl (k) (by omega) (by omega) (fun r_69 => ?_)
    refine ar_icmp_eq (pc := 70) 76 d_Mo_layBeside_70 (by decide) ⟨by omega, by omega⟩ ⟨by omega, by omega⟩ (fun h_70 => ?_) (fun h_70 => ?_)
    refine ar_aload_n (pc := 76) d_Mo_layBeside_76 rfl ?_
    refine ar_getR (pc := 77) gf_Mo_59 d_Mo_layBeside_77 (by first | rfl | exact sh_wheel (by omega) | exact sh_milk (by omega)) (hF _ _ _ rfl) ?_
    refine ar_iload (pc := 80) d_Mo_layBeside_80 rfl ?_
    refine ar_iald (pc := 82) d_Mo_layBeside_82 rfl (j) (by omega) (by omega) (fun r_82 => ?_)
    refine ar_aload_n (pc := 83) d_Mo_layBeside_83 rfl ?_
    refine ar_getR (pc := 84) gf_Mo_59 d_Mo_layBeside_84 (by first | rfl | exact sh_wheel (by omega) | exact sh_milk (by omega)) (hF _ _ _ rfl) ?_
    refine ar_iload (pc := 87) d_Mo_layBeside_87 rfl ?_
    refine ar_iald (pc := 89) d_Mo_layBeside_89 rfl (k) (by omega) (by omega) (fun r_89 => ?_)
    refine ar_icmp_le (pc := 90) 103 d_Mo_layBeside_90 (by decide) ⟨by omega, by omega⟩ ⟨by omega, by omega⟩ (fun h_90 => ?_) (fun h_90 => ?_)
    refine ar_aload_n (pc := 103) d_Mo_layBeside_103 rfl ?_
    refine ar_getR (pc := 104) gf_Mo_59 d_Mo_layBeside_104 (by first | rfl | exact sh_wheel (by omega) | exact sh_milk (by omega)) (hF _ _ _ rfl) ?_
    refine ar_iload (pc := 107) d_Mo_layBeside_107 rfl ?_
    refine ar_iald (pc := 109) d_Mo_layBeside_109 rfl (k) (by omega) (by omega) (fun r_109 => ?_)
    refine ar_istore (pc := 110) d_Mo_layBeside_110 rfl (by decide) ?_
    refine ar_aload_n (pc := 112) d_Mo_layBeside_112 rfl ?_
    refine ar_getIv (pc := 113) gf_Mo_171 d_Mo_layBeside_113 (by first | rfl | exact sh_wheel (by omega) | exact sh_milk (by omega)) ht (fun r_113 => ?_)
    refine ar_istore (pc := 116) d_Mo_layBeside_116 rfl (by decide) ?_
    refine ar_aload_n (pc := 118) d_Mo_layBeside_118 rfl ?_
    refine ar_getR (pc := 119) gf_Mo_62 d_Mo_layBeside_119 (by first | rfl | exact sh_wheel (by omega) | exact sh_milk (by omega)) (hF _ _ _ rfl) ?_
    refine ar_iload (pc := 122) d_Mo_layBeside_122 rfl ?_
    refine ar_iald (pc := 124) d_Mo_layBeside_124 rfl (j) (by omega) (by omega) (fun r_124 => ?_)
    refine ar_if_lt (pc := 125) 149 d_Mo_layBeside_125 (by decide) ⟨by omega, by omega⟩ (fun h_125 => ?_) (fun h_125 => ?_)
    refine ar_aload_n (pc := 149) d_Mo_layBeside_149 rfl ?_
    refine ar_getR (pc := 150) gf_Mo_62 d_Mo_layBeside_150 (by first | rfl | exact sh_wheel (by omega) | exact sh_milk (by omega)) (hF _ _ _ rfl) ?_
    refine ar_iload (pc := 153) d_Mo_layBeside_153 rfl ?_
    refine ar_iald (pc := 155) d_Mo_layBeside_155 rfl (k) (by omega) (by omega) (fun r_155 => ?_)
    refine ar_if_lt (pc := 156) 180 d_Mo_layBeside_156 (by decide) ⟨by omega, by omega⟩ (fun h_156 => ?_) (fun h_156 => ?_)
    refine ar_iload (pc := 180) d_Mo_layBeside_180 rfl ?_
    refine ar_iload (pc := 182) d_Mo_layBeside_182 rfl ?_
    refine ar_icmp_ge (pc := 184) 191 d_Mo_layBeside_184 (by decide) ⟨by omega, by omega⟩ ⟨by omega, by omega⟩ (fun h_184 => ?_) (fun h_184 => ?_)
    refine ar_iconst (pc := 191) d_Mo_layBeside_191 ?_
    refine ar_istore_n (pc := 192) d_Mo_layBeside_192 rfl (by decide) ?_
    refine ar_iinc (pc := 193) d_Mo_layBeside_193 rfl rfl (by decide) ?_
    refine ar_goto (pc := 196) 21 d_Mo_layBeside_196 (by decide) ?_
    rotate_left
    refine ar_iconst (pc := 187) d_Mo_layBeside_187 ?_
    refine ar_goto (pc := 188) 192 d_Mo_layBeside_188 (by decide) ?_
    refine ar_istore_n (pc := 192) d_Mo_layBeside_192 rfl (by decide) ?_
    refine ar_iinc (pc := 193) d_Mo_layBeside_193 rfl rfl (by decide) ?_
    refine ar_goto (pc := 196) 21 d_Mo_layBeside_196 (by decide) ?_
    rotate_left
    refine ar_aload_n (pc := 159) d_Mo_layBeside_159 rfl ?_
    refine ar_getR (pc := 160) gf_Mo_62 d_Mo_layBeside_160 (by first | rfl | exact sh_wheel (by omega) | exact sh_milk (by omega)) (hF _ _ _ rfl) ?_
    refine ar_iload (pc := 163) d_Mo_layBeside_163 rfl ?_
    refine ar_iald (pc := 165) d_Mo_layBeside_165 rfl (k) (by omega) (by omega) (fun r_165 => ?_)
    refine ar_iload (pc := 166) d_Mo_layBeside_166 rfl ?_
    refine ar_icmp_ge (pc := 168) 180 d_Mo_layBeside_168 (by decide) ⟨by omega, by omega⟩ ⟨by omega, by omega⟩ (fun h_168 => ?_) (fun h_168 => ?_)
    refine ar_iload (pc := 180) d_Mo_layBeside_180 rfl ?_
    refine ar_iload (pc := 182) d_Mo_layBeside_182 rfl ?_
    refine ar_icmp_ge (pc := 184) 191 d_Mo_layBeside_184 (by decide) ⟨by omega, by omega⟩ ⟨by omega, by omega⟩ (fun h_184 => ?_) (fun h_184 => ?_)
    refine ar_iconst (pc := 191) d_Mo_layBeside_191 ?_
    refine ar_istore_n (pc := 192) d_Mo_layBeside_192 rfl (by decide) ?_
    refine ar_iinc (pc := 193) d_Mo_layBeside_193 rfl rfl (by decide) ?_
    refine ar_goto (pc := 196) 21 d_Mo_layBeside_196 (by decide) ?_
    rotate_left
    refine ar_iconst (pc := 187) d_Mo_layBeside_187 ?_
    refine ar_goto (pc := 188) 192 d_Mo_layBeside_188 (by decide) ?_
    refine ar_istore_n (pc := 192) d_Mo_layBeside_192 rfl (by decide) ?_
    refine ar_iinc (pc := 193) d_Mo_layBeside_193 rfl rfl (by decide) ?_
    refine ar_goto (pc := 196) 21 d_Mo_layBeside_196 (by decide) ?_
    rotate_left
    refine ar_aload_n (pc := 171) d_Mo_layBeside_171 rfl ?_
    refine ar_getR (pc := 172) gf_Mo_62 d_Mo_layBeside_172 (by first | rfl | exact sh_wheel (by omega) | exact sh_milk (by omega)) (hF _ _ _ rfl) ?_
    refine ar_iload (pc := 175) d_Mo_layBeside_175 rfl ?_
    refine ar_iald (pc := 177) d_Mo_layBeside_177 rfl (k) (by omega) (by omega) (fun r_177 => ?_)
    refine ar_istore (pc := 178) d_Mo_layBeside_178 rfl (by decide) ?_
    refine ar_iload (pc := 180) d_Mo_layBeside_180 rfl ?_
    refine ar_iload (pc := 182) d_Mo_layBeside_182 rfl ?_
    refine ar_icmp_ge (pc := 184) 191 d_Mo_layBeside_184 (by decide) ⟨by omega, by omega⟩ ⟨by omega, by omega⟩ (fun h_184 => ?_) (fun h_184 => ?_)
    refine ar_iconst (pc := 191) d_Mo_layBeside_191 ?_
    refine ar_istore_n (pc := 192) d_Mo_layBeside_192 rfl (by decide) ?_
    refine ar_iinc (pc := 193) d_Mo_layBeside_193 rfl rfl (by decide) ?_
    refine ar_goto (pc := 196) 21 d_Mo_layBeside_196 (by decide) ?_
    rotate_left
    refine ar_iconst (pc := 187) d_Mo_layBeside_187 ?_
    refine ar_goto (pc := 188) 192 d_Mo_layBeside_188 (by decide) ?_
    refine ar_istore_n (pc := 192) d_Mo_layBeside_192 rfl (by decide) ?_
    refine ar_iinc (pc := 193) d_Mo_layBeside_193 rfl rfl (by decide) ?_
    refine ar_goto (pc := 196) 21 d_Mo_layBeside_196 (by decide) ?_
    rotate_left
    refine ar_aload_n (pc := 128) d_Mo_layBeside_128 rfl ?_
    refine ar_getR (pc := 129) gf_Mo_62 d_Mo_layBeside_129 (by first | rfl | exact sh_wheel (by omega) | exact sh_milk (by omega)) (hF _ _ _ rfl) ?_
    refine ar_iload (pc := 132) d_Mo_layBeside_132 rfl ?_
    refine ar_iald (pc := 134) d_Mo_layBeside_134 rfl (j) (by omega) (by omega) (fun r_134 => ?_)
    refine ar_iload (pc := 135) d_Mo_layBeside_135 rfl ?_
    refine ar_icmp_ge (pc := 137) 149 d_Mo_layBeside_137 (by decide) ⟨by omega, by omega⟩ ⟨by omega, by omega⟩ (fun h_137 => ?_) (fun h_137 => ?_)
    refine ar_aload_n (pc := 149) d_Mo_layBeside_149 rfl ?_
    refine ar_getR (pc := 150) gf_Mo_62 d_Mo_layBeside_150 (by first | rfl | exact sh_wheel (by omega) | exact sh_milk (by omega)) (hF _ _ _ rfl) ?_
    refine ar_iload (pc := 153) d_Mo_layBeside_153 rfl ?_
    refine ar_iald (pc := 155) d_Mo_layBeside_155 rfl (k) (by omega) (by omega) (fun r_155 => ?_)
    refine ar_if_lt (pc := 156) 180 d_Mo_layBeside_156 (by decide) ⟨by omega, by omega⟩ (fun h_156 => ?_) (fun h_156 => ?_)
    refine ar_iload (pc := 180) d_Mo_layBeside_180 rfl ?_
    refine ar_iload (pc := 182) d_Mo_layBeside_182 rfl ?_
    refine ar_icmp_ge (pc := 184) 191 d_Mo_layBeside_184 (by decide) ⟨by omega, by omega⟩ ⟨by omega, by omega⟩ (fun h_184 => ?_) (fun h_184 => ?_)
    refine ar_iconst (pc := 191) d_Mo_layBeside_191 ?_
    refine ar_istore_n (pc := 192) d_Mo_layBeside_192 rfl (by decide) ?_
    refine ar_iinc (pc := 193) d_Mo_layBeside_193 rfl rfl (by decide) ?_
    refine ar_goto (pc := 196) 21 d_Mo_layBeside_196 (by decide) ?_
    rotate_left
    refine ar_iconst (pc := 187) d_Mo_layBeside_187 ?_
    refine ar_goto (pc := 188) 192 d_Mo_layBeside_188 (by decide) ?_
    refine ar_istore_n (pc := 192) d_Mo_layBeside_192 rfl (by decide) ?_
    refine ar_iinc (pc := 193) d_Mo_layBeside_193 rfl rfl (by decide) ?_
    refine ar_goto (pc := 196) 21 d_Mo_layBeside_196 (by decide) ?_
    rotate_left
    refine ar_aload_n (pc := 159) d_Mo_layBeside_159 rfl ?_
    refine ar_getR (pc := 160) gf_Mo_62 d_Mo_layBeside_160 (by first | rfl | exact sh_wheel (by omega) | exact sh_milk (by omega)) (hF _ _ _ rfl) ?_
    refine ar_iload (pc := 163) d_Mo_layBeside_163 rfl ?_
    refine ar_iald (pc := 165) d_Mo_layBeside_165 rfl (k) (by omega) (by omega) (fun r_165 => ?_)
    refine ar_iload (pc := 166) d_Mo_layBeside_166 rfl ?_
    refine ar_icmp_ge (pc := 168) 180 d_Mo_layBeside_168 (by decide) ⟨by omega, by omega⟩ ⟨by omega, by omega⟩ (fun h_168 => ?_) (fun h_168 => ?_)
    refine ar_iload (pc := 180) d_Mo_layBeside_180 rfl ?_
    refine ar_iload (pc := 182) d_Mo_layBeside_182 rfl ?_
    refine ar_icmp_ge (pc := 184) 191 d_Mo_layBeside_184 (by decide) ⟨by omega, by omega⟩ ⟨by omega, by omega⟩ (fun h_184 => ?_) (fun h_184 => ?_)
    refine ar_iconst (pc := 191) d_Mo_layBeside_191 ?_
    refine ar_istore_n (pc := 192) d_Mo_layBeside_192 rfl (by decide) ?_
    refine ar_iinc (pc := 193) d_Mo_layBeside_193 rfl rfl (by decide) ?_
    refine ar_goto (pc := 196) 21 d_Mo_layBeside_196 (by decide) ?_
    rotate_left
    refine ar_iconst (pc := 187) d_Mo_layBeside_187 ?_
    refine ar_goto (pc := 188) 192 d_Mo_layBeside_188 (by decide) ?_
    refine ar_istore_n (pc := 192) d_Mo_layBeside_192 rfl (by decide) ?_
    refine ar_iinc (pc := 193) d_Mo_layBeside_193 rfl rfl (by decide) ?_
    refine ar_goto (pc := 196) 21 d_Mo_layBeside_196 (by decide) ?_
    rotate_left
    refine ar_aload_n (pc := 171) d_Mo_layBeside_171 rfl ?_
    refine ar_getR (pc := 172) gf_Mo_62 d_Mo_layBeside_172 (by first | rfl | exact sh_wheel (by omega) | exact sh_milk (by omega)) (hF _ _ _ rfl) ?_
    refine ar_iload (pc := 175) d_Mo_layBeside_175 rfl ?_
    refine ar_iald (pc := 177) d_Mo_layBeside_177 rfl (k) (by omega) (by omega) (fun r_177 => ?_)
    refine ar_istore (pc := 178) d_Mo_layBeside_178 rfl (by decide) ?_
    refine ar_iload (pc := 180) d_Mo_layBeside_180 rfl ?_
    refine ar_iload (pc := 182) d_Mo_layBeside_182 rfl ?_
    refine ar_icmp_ge (pc := 184) 191 d_Mo_layBeside_184 (by decide) ⟨by omega, by omega⟩ ⟨by omega, by omega⟩ (fun h_184 => ?_) (fun h_184 => ?_)
    refine ar_iconst (pc := 191) d_Mo_layBeside_191 ?_
    refine ar_istore_n (pc := 192) d_Mo_layBeside_192 rfl (by decide) ?_
    refine ar_iinc (pc := 193) d_Mo_layBeside_193 rfl rfl (by decide) ?_
    refine ar_goto (pc := 196) 21 d_Mo_layBeside_196 (by decide) ?_
    rotate_left
    refine ar_iconst (pc := 187) d_Mo_layBeside_187 ?_
    refine ar_goto (pc := 188) 192 d_Mo_layBeside_188 (by decide) ?_
    refine ar_istore_n (pc := 192) d_Mo_layBeside_192 rfl (by decide) ?_
    refine ar_iinc (pc := 193) d_Mo_layBeside_193 rfl rfl (by decide) ?_
    refine ar_goto (pc := 196) 21 d_Mo_layBeside_196 (by decide) ?_
    rotate_left
    refine ar_aload_n (pc := 140) d_Mo_layBeside_140 rfl ?_
    refine ar_getR (pc := 141) gf_Mo_62 d_Mo_layBeside_141 (by first | rfl | exact sh_wheel (by omega) | exact sh_milk (by omega)) (hF _ _ _ rfl) ?_
    refine ar_iload (pc := 144) d_Mo_layBeside_144 rfl ?_
    refine ar_iald (pc := 146) d_Mo_layBeside_146 rfl (j) (by omega) (by omega) (fun r_146 => ?_)
    refine ar_istore (pc := 147) d_Mo_layBeside_147 rfl (by decide) ?_
    refine ar_aload_n (pc := 149) d_Mo_layBeside_149 rfl ?_
    refine ar_getR (pc := 150) gf_Mo_62 d_Mo_layBeside_150 (by first | rfl | exact sh_wheel (by omega) | exact sh_milk (by omega)) (hF _ _ _ rfl) ?_
    refine ar_iload (pc := 153) d_Mo_layBeside_153 rfl ?_
    refine ar_iald (pc := 155) d_Mo_layBeside_155 rfl (k) (by omega) (by omega) (fun r_155 => ?_)
    refine ar_if_lt (pc := 156) 180 d_Mo_layBeside_156 (by decide) ⟨by omega, by omega⟩ (fun h_156 => ?_) (fun h_156 => ?_)
    refine ar_iload (pc := 180) d_Mo_layBeside_180 rfl ?_
    refine ar_iload (pc := 182) d_Mo_layBeside_182 rfl ?_
    refine ar_icmp_ge (pc := 184) 191 d_Mo_layBeside_184 (by decide) ⟨by omega, by omega⟩ ⟨by omega, by omega⟩ (fun h_184 => ?_) (fun h_184 => ?_)
    refine ar_iconst (pc := 191) d_Mo_layBeside_191 ?_
    refine ar_istore_n (pc := 192) d_Mo_layBeside_192 rfl (by decide) ?_
    refine ar_iinc (pc := 193) d_Mo_layBeside_193 rfl rfl (by decide) ?_
    refine ar_goto (pc := 196) 21 d_Mo_layBeside_196 (by decide) ?_
    rotate_left
    refine ar_iconst (pc := 187) d_Mo_layBeside_187 ?_
    refine ar_goto (pc := 188) 192 d_Mo_layBeside_188 (by decide) ?_
    refine ar_istore_n (pc := 192) d_Mo_layBeside_192 rfl (by decide) ?_
    refine ar_iinc (pc := 193) d_Mo_layBeside_193 rfl rfl (by decide) ?_
    refine ar_goto (pc := 196) 21 d_Mo_layBeside_196 (by decide) ?_
    rotate_left
    refine ar_aload_n (pc := 159) d_Mo_layBeside_159 rfl ?_
    refine ar_getR (pc := 160) gf_Mo_62 d_Mo_layBeside_160 (by first | rfl | exact sh_wheel (by omega) | exact sh_milk (by omega)) (hF _ _ _ rfl) ?_
    refine ar_iload (pc := 163) d_Mo_layBeside_163 rfl ?_
    refine ar_iald (pc := 165) d_Mo_layBeside_165 rfl (k) (by omega) (by omega) (fun r_165 => ?_)
    refine ar_iload (pc := 166) d_Mo_layBeside_166 rfl ?_
    refine ar_icmp_ge (pc := 168) 180 d_Mo_layBeside_168 (by decide) ⟨by omega, by omega⟩ ⟨by omega, by omega⟩ (fun h_168 => ?_) (fun h_168 => ?_)
    refine ar_iload (pc := 180) d_Mo_layBeside_180 rfl ?_
    refine ar_iload (pc := 182) d_Mo_layBeside_182 rfl ?_
    refine ar_icmp_ge (pc := 184) 191 d_Mo_layBeside_184 (by decide) ⟨by omega, by omega⟩ ⟨by omega, by omega⟩ (fun h_184 => ?_) (fun h_184 => ?_)
    refine ar_iconst (pc := 191) d_Mo_layBeside_191 ?_
    refine ar_istore_n (pc := 192) d_Mo_layBeside_192 rfl (by decide) ?_
    refine ar_iinc (pc := 193) d_Mo_layBeside_193 rfl rfl (by decide) ?_
    refine ar_goto (pc := 196) 21 d_Mo_layBeside_196 (by decide) ?_
    rotate_left
    refine ar_iconst (pc := 187) d_Mo_layBeside_187 ?_
    refine ar_goto (pc := 188) 192 d_Mo_layBeside_188 (by decide) ?_
    refine ar_istore_n (pc := 192) d_Mo_layBeside_192 rfl (by decide) ?_
    refine ar_iinc (pc := 193) d_Mo_layBeside_193 rfl rfl (by decide) ?_
    refine ar_goto (pc := 196) 21 d_Mo_layBeside_196 (by decide) ?_
    rotate_left
    refine ar_aload_n (pc := 171) d_Mo_layBeside_171 rfl ?_
    refine ar_getR (pc := 172) gf_Mo_62 d_Mo_layBeside_172 (by first | rfl | exact sh_wheel (by omega) | exact sh_milk (by omega)) (hF _ _ _ rfl) ?_
    refine ar_iload (pc := 175) d_Mo_layBeside_175 rfl ?_
    refine ar_iald (pc := 177) d_Mo_layBeside_177 rfl (k) (by omega) (by omega) (fun r_177 => ?_)
    refine ar_istore (pc := 178) d_Mo_layBeside_178 rfl (by decide) ?_
    refine ar_iload (pc := 180) d_Mo_layBeside_180 rfl ?_
    refine ar_iload (pc := 182) d_Mo_layBeside_182 rfl ?_
    refine ar_icmp_ge (pc := 184) 191 d_Mo_layBeside_184 (by decide) ⟨by omega, by omega⟩ ⟨by omega, by omega⟩ (fun h_184 => ?_) (fun h_184 => ?_)
    refine ar_iconst (pc := 191) d_Mo_layBeside_191 ?_
    refine ar_istore_n (pc := 192) d_Mo_layBeside_192 rfl (by decide) ?_
    refine ar_iinc (pc := 193) d_Mo_layBeside_193 rfl rfl (by decide) ?_
    refine ar_goto (pc := 196) 21 d_Mo_layBeside_196 (by decide) ?_
    rotate_left
    refine ar_iconst (pc := 187) d_Mo_layBeside_187 ?_
    refine ar_goto (pc := 188) 192 d_Mo_layBeside_188 (by decide) ?_
    refine ar_istore_n (pc := 192) d_Mo_layBeside_192 rfl (by decide) ?_
    refine ar_iinc (pc := 193) d_Mo_layBeside_193 rfl rfl (by decide) ?_
    refine ar_goto (pc := 196) 21 d_Mo_layBeside_196 (by decide) ?_
    rotate_left
    refine ar_aload_n (pc := 93) d_Mo_layBeside_93 rfl ?_
    refine ar_getR (pc := 94) gf_Mo_59 d_Mo_layBeside_94 (by first | rfl | exact sh_wheel (by omega) | exact sh_milk (by omega)) (hF _ _ _ rfl) ?_
    refine ar_iload (pc := 97) d_Mo_layBeside_97 rfl ?_
    refine ar_iald (pc := 99) d_Mo_layBeside_99 rfl (j) (by omega) (by omega) (fun r_99 => ?_)
    refine ar_goto (pc := 100) 110 d_Mo_layBeside_100 (by decide) ?_
    refine ar_istore (pc := 110) d_Mo_layBeside_110 rfl (by decide) ?_
    refine ar_aload_n (pc := 112) d_Mo_layBeside_112 rfl ?_
    refine ar_getIv (pc := 113) gf_Mo_171 d_Mo_layBeside_113 (by first | rfl | exact sh_wheel (by omega) | exact sh_milk (by omega)) ht (fun r_113 => ?_)
    refine ar_istore (pc := 116) d_Mo_layBeside_116 rfl (by decide) ?_
    refine ar_aload_n (pc := 118) d_Mo_layBeside_118 rfl ?_
    refine ar_getR (pc := 119) gf_Mo_62 d_Mo_layBeside_119 (by first | rfl | exact sh_wheel (by omega) | exact sh_milk (by omega)) (hF _ _ _ rfl) ?_
    refine ar_iload (pc := 122) d_Mo_layBeside_122 rfl ?_
    refine ar_iald (pc := 124) d_Mo_layBeside_124 rfl (j) (by omega) (by omega) (fun r_124 => ?_)
    refine ar_if_lt (pc := 125) 149 d_Mo_layBeside_125 (by decide) ⟨by omega, by omega⟩ (fun h_125 => ?_) (fun h_125 => ?_)
    refine ar_aload_n (pc := 149) d_Mo_layBeside_149 rfl ?_
    refine ar_getR (pc := 150) gf_Mo_62 d_Mo_layBeside_150 (by first | rfl | exact sh_wheel (by omega) | exact sh_milk (by omega)) (hF _ _ _ rfl) ?_
    refine ar_iload (pc := 153) d_Mo_layBeside_153 rfl ?_
    refine ar_iald (pc := 155) d_Mo_layBeside_155 rfl (k) (by omega) (by omega) (fun r_155 => ?_)
    refine ar_if_lt (pc := 156) 180 d_Mo_layBeside_156 (by decide) ⟨by omega, by omega⟩ (fun h_156 => ?_) (fun h_156 => ?_)
    refine ar_iload (pc := 180) d_Mo_layBeside_180 rfl ?_
    refine ar_iload (pc := 182) d_Mo_layBeside_182 rfl ?_
    refine ar_icmp_ge (pc := 184) 191 d_Mo_layBeside_184 (by decide) ⟨by omega, by omega⟩ ⟨by omega, by omega⟩ (fun h_184 => ?_) (fun h_184 => ?_)
    refine ar_iconst (pc := 191) d_Mo_layBeside_191 ?_
    refine ar_istore_n (pc := 192) d_Mo_layBeside_192 rfl (by decide) ?_
    refine ar_iinc (pc := 193) d_Mo_layBeside_193 rfl rfl (by decide) ?_
    refine ar_goto (pc := 196) 21 d_Mo_layBeside_196 (by decide) ?_
    rotate_left
    refine ar_iconst (pc := 187) d_Mo_layBeside_187 ?_
    refine ar_goto (pc := 188) 192 d_Mo_layBeside_188 (by decide) ?_
    refine ar_istore_n (pc := 192) d_Mo_layBeside_192 rfl (by decide) ?_
    refine ar_iinc (pc := 193) d_Mo_layBeside_193 rfl rfl (by decide) ?_
    refine ar_goto (pc := 196) 21 d_Mo_layBeside_196 (by decide) ?_
    rotate_left
    refine ar_aload_n (pc := 159) d_Mo_layBeside_159 rfl ?_
    refine ar_getR (pc := 160) gf_Mo_62 d_Mo_layBeside_160 (by first | rfl | exact sh_wheel (by omega) | exact sh_milk (by omega)) (hF _ _ _ rfl) ?_
    refine ar_iload (pc := 163) d_Mo_layBeside_163 rfl ?_
    refine ar_iald (pc := 165) d_Mo_layBeside_165 rfl (k) (by omega) (by omega) (fun r_165 => ?_)
    refine ar_iload (pc := 166) d_Mo_layBeside_166 rfl ?_
    refine ar_icmp_ge (pc := 168) 180 d_Mo_layBeside_168 (by decide) ⟨by omega, by omega⟩ ⟨by omega, by omega⟩ (fun h_168 => ?_) (fun h_168 => ?_)
    refine ar_iload (pc := 180) d_Mo_layBeside_180 rfl ?_
    refine ar_iload (pc := 182) d_Mo_layBeside_182 rfl ?_
    refine ar_icmp_ge (pc := 184) 191 d_Mo_layBeside_184 (by decide) ⟨by omega, by omega⟩ ⟨by omega, by omega⟩ (fun h_184 => ?_) (fun h_184 => ?_)
    refine ar_iconst (pc := 191) d_Mo_layBeside_191 ?_
    refine ar_istore_n (pc := 192) d_Mo_layBeside_192 rfl (by decide) ?_
    refine ar_iinc (pc := 193) d_Mo_layBeside_193 rfl rfl (by decide) ?_
    refine ar_goto (pc := 196) 21 d_Mo_layBeside_196 (by decide) ?_
    rotate_left
    refine ar_iconst (pc := 187) d_Mo_layBeside_187 ?_
    refine ar_goto (pc := 188) 192 d_Mo_layBeside_188 (by decide) ?_
    refine ar_istore_n (pc := 192) d_Mo_layBeside_192 rfl (by decide) ?_
    refine ar_iinc (pc := 193) d_Mo_layBeside_193 rfl rfl (by decide) ?_
    refine ar_goto (pc := 196) 21 d_Mo_layBeside_196 (by decide) ?_
    rotate_left
    refine ar_aload_n (pc := 171) d_Mo_layBeside_171 rfl ?_
    refine ar_getR (pc := 172) gf_Mo_62 d_Mo_layBeside_172 (by first | rfl | exact sh_wheel (by omega) | exact sh_milk (by omega)) (hF _ _ _ rfl) ?_
    refine ar_iload (pc := 175) d_Mo_layBeside_175 rfl ?_
    refine ar_iald (pc := 177) d_Mo_layBeside_177 rfl (k) (by omega) (by omega) (fun r_177 => ?_)
    refine ar_istore (pc := 178) d_Mo_layBeside_178 rfl (by decide) ?_
    refine ar_iload (pc := 180) d_Mo_layBeside_180 rfl ?_
    refine ar_iload (pc := 182) d_Mo_layBeside_182 rfl ?_
    refine ar_icmp_ge (pc := 184) 191 d_Mo_layBeside_184 (by decide) ⟨by omega, by omega⟩ ⟨by omega, by omega⟩ (fun h_184 => ?_) (fun h_184 => ?_)
    refine ar_iconst (pc := 191) d_Mo_layBeside_191 ?_
    refine ar_istore_n (pc := 192) d_Mo_layBeside_192 rfl (by decide) ?_
    refine ar_iinc (pc := 193) d_Mo_layBeside_193 rfl rfl (by decide) ?_
    refine ar_goto (pc := 196) 21 d_Mo_layBeside_196 (by decide) ?_
    rotate_left
    refine ar_iconst (pc := 187) d_Mo_layBeside_187 ?_
    refine ar_goto (pc := 188) 192 d_Mo_layBeside_188 (by decide) ?_
    refine ar_istore_n (pc := 192) d_Mo_layBeside_192 rfl (by decide) ?_
    refine ar_iinc (pc := 193) d_Mo_layBeside_193 rfl rfl (by decide) ?_
    refine ar_goto (pc := 196) 21 d_Mo_layBeside_196 (by decide) ?_
    rotate_left
    refine ar_aload_n (pc := 128) d_Mo_layBeside_128 rfl ?_
    refine ar_getR (pc := 129) gf_Mo_62 d_Mo_layBeside_129 (by first | rfl | exact sh_wheel (by omega) | exact sh_milk (by omega)) (hF _ _ _ rfl) ?_
    refine ar_iload (pc := 132) d_Mo_layBeside_132 rfl ?_
    refine ar_iald (pc := 134) d_Mo_layBeside_134 rfl (j) (by omega) (by omega) (fun r_134 => ?_)
    refine ar_iload (pc := 135) d_Mo_layBeside_135 rfl ?_
    refine ar_icmp_ge (pc := 137) 149 d_Mo_layBeside_137 (by decide) ⟨by omega, by omega⟩ ⟨by omega, by omega⟩ (fun h_137 => ?_) (fun h_137 => ?_)
    refine ar_aload_n (pc := 149) d_Mo_layBeside_149 rfl ?_
    refine ar_getR (pc := 150) gf_Mo_62 d_Mo_layBeside_150 (by first | rfl | exact sh_wheel (by omega) | exact sh_milk (by omega)) (hF _ _ _ rfl) ?_
    refine ar_iload (pc := 153) d_Mo_layBeside_153 rfl ?_
    refine ar_iald (pc := 155) d_Mo_layBeside_155 rfl (k) (by omega) (by omega) (fun r_155 => ?_)
    refine ar_if_lt (pc := 156) 180 d_Mo_layBeside_156 (by decide) ⟨by omega, by omega⟩ (fun h_156 => ?_) (fun h_156 => ?_)
    refine ar_iload (pc := 180) d_Mo_layBeside_180 rfl ?_
    refine ar_iload (pc := 182) d_Mo_layBeside_182 rfl ?_
    refine ar_icmp_ge (pc := 184) 191 d_Mo_layBeside_184 (by decide) ⟨by omega, by omega⟩ ⟨by omega, by omega⟩ (fun h_184 => ?_) (fun h_184 => ?_)
    refine ar_iconst (pc := 191) d_Mo_layBeside_191 ?_
    refine ar_istore_n (pc := 192) d_Mo_layBeside_192 rfl (by decide) ?_
    refine ar_iinc (pc := 193) d_Mo_layBeside_193 rfl rfl (by decide) ?_
    refine ar_goto (pc := 196) 21 d_Mo_layBeside_196 (by decide) ?_
    rotate_left
    refine ar_iconst (pc := 187) d_Mo_layBeside_187 ?_
    refine ar_goto (pc := 188) 192 d_Mo_layBeside_188 (by decide) ?_
    refine ar_istore_n (pc := 192) d_Mo_layBeside_192 rfl (by decide) ?_
    refine ar_iinc (pc := 193) d_Mo_layBeside_193 rfl rfl (by decide) ?_
    refine ar_goto (pc := 196) 21 d_Mo_layBeside_196 (by decide) ?_
    rotate_left
    refine ar_aload_n (pc := 159) d_Mo_layBeside_159 rfl ?_
    refine ar_getR (pc := 160) gf_Mo_62 d_Mo_layBeside_160 (by first | rfl | exact sh_wheel (by omega) | exact sh_milk (by omega)) (hF _ _ _ rfl) ?_
    refine ar_iload (pc := 163) d_Mo_layBeside_163 rfl ?_
    refine ar_iald (pc := 165) d_Mo_layBeside_165 rfl (k) (by omega) (by omega) (fun r_165 => ?_)
    refine ar_iload (pc := 166) d_Mo_layBeside_166 rfl ?_
    refine ar_icmp_ge (pc := 168) 180 d_Mo_layBeside_168 (by decide) ⟨by omega, by omega⟩ ⟨by omega, by omega⟩ (fun h_168 => ?_) (fun h_168 => ?_)
    refine ar_iload (pc := 180) d_Mo_layBeside_180 rfl ?_
    refine ar_iload (pc := 182) d_Mo_layBeside_182 rfl ?_
    refine ar_icmp_ge (pc := 184) 191 d_Mo_layBeside_184 (by decide) ⟨by omega, by omega⟩ ⟨by omega, by omega⟩ (fun h_184 => ?_) (fun h_184 => ?_)
    refine ar_iconst (pc := 191) d_Mo_layBeside_191 ?_
    refine ar_istore_n (pc := 192) d_Mo_layBeside_192 rfl (by decide) ?_
    refine ar_iinc (pc := 193) d_Mo_layBeside_193 rfl rfl (by decide) ?_
    refine ar_goto (pc := 196) 21 d_Mo_layBeside_196 (by decide) ?_
    rotate_left
    refine ar_iconst (pc := 187) d_Mo_layBeside_187 ?_
    refine ar_goto (pc := 188) 192 d_Mo_layBeside_188 (by decide) ?_
    refine ar_istore_n (pc := 192) d_Mo_layBeside_192 rfl (by decide) ?_
    refine ar_iinc (pc := 193) d_Mo_layBeside_193 rfl rfl (by decide) ?_
    refine ar_goto (pc := 196) 21 d_Mo_layBeside_196 (by decide) ?_
    rotate_left
    refine ar_aload_n (pc := 171) d_Mo_layBeside_171 rfl ?_
    refine ar_getR (pc := 172) gf_Mo_62 d_Mo_layBeside_172 (by first | rfl | exact sh_wheel (by omega) | exact sh_milk (by omega)) (hF _ _ _ rfl) ?_
    refine ar_iload (pc := 175) d_Mo_layBeside_175 rfl ?_
    refine ar_iald (pc := 177) d_Mo_layBeside_177 rfl (k) (by omega) (by omega) (fun r_177 => ?_)
    refine ar_istore (pc := 178) d_Mo_layBeside_178 rfl (by decide) ?_
    refine ar_iload (pc := 180) d_Mo_layBeside_180 rfl ?_
    refine ar_iload (pc := 182) d_Mo_layBeside_182 rfl ?_
    refine ar_icmp_ge (pc := 184) 191 d_Mo_layBeside_184 (by decide) ⟨by omega, by omega⟩ ⟨by omega, by omega⟩ (fun h_184 => ?_) (fun h_184 => ?_)
    refine ar_iconst (pc := 191) d_Mo_layBeside_191 ?_
    refine ar_istore_n (pc := 192) d_Mo_layBeside_192 rfl (by decide) ?_
    refine ar_iinc (pc := 193) d_Mo_layBeside_193 rfl rfl (by decide) ?_
    refine ar_goto (pc := 196) 21 d_Mo_layBeside_196 (by decide) ?_
    rotate_left
    refine ar_iconst (pc := 187) d_Mo_layBeside_187 ?_
    refine ar_goto (pc := 188) 192 d_Mo_layBeside_188 (by decide) ?_
    refine ar_istore_n (pc := 192) d_Mo_layBeside_192 rfl (by decide) ?_
    refine ar_iinc (pc := 193) d_Mo_layBeside_193 rfl rfl (by decide) ?_
    refine ar_goto (pc := 196) 21 d_Mo_layBeside_196 (by decide) ?_
    rotate_left
    refine ar_aload_n (pc := 140) d_Mo_layBeside_140 rfl ?_
    refine ar_getR (pc := 141) gf_Mo_62 d_Mo_layBeside_141 (by first | rfl | exact sh_wheel (by omega) | exact sh_milk (by omega)) (hF _ _ _ rfl) ?_
    refine ar_iload (pc := 144) d_Mo_layBeside_144 rfl ?_
    refine ar_iald (pc := 146) d_Mo_layBeside_146 rfl (j) (by omega) (by omega) (fun r_146 => ?_)
    refine ar_istore (pc := 147) d_Mo_layBeside_147 rfl (by decide) ?_
    refine ar_aload_n (pc := 149) d_Mo_layBeside_149 rfl ?_
    refine ar_getR (pc := 150) gf_Mo_62 d_Mo_layBeside_150 (by first | rfl | exact sh_wheel (by omega) | exact sh_milk (by omega)) (hF _ _ _ rfl) ?_
    refine ar_iload (pc := 153) d_Mo_layBeside_153 rfl ?_
    refine ar_iald (pc := 155) d_Mo_layBeside_155 rfl (k) (by omega) (by omega) (fun r_155 => ?_)
    refine ar_if_lt (pc := 156) 180 d_Mo_layBeside_156 (by decide) ⟨by omega, by omega⟩ (fun h_156 => ?_) (fun h_156 => ?_)
    refine ar_iload (pc := 180) d_Mo_layBeside_180 rfl ?_
    refine ar_iload (pc := 182) d_Mo_layBeside_182 rfl ?_
    refine ar_icmp_ge (pc := 184) 191 d_Mo_layBeside_184 (by decide) ⟨by omega, by omega⟩ ⟨by omega, by omega⟩ (fun h_184 => ?_) (fun h_184 => ?_)
    refine ar_iconst (pc := 191) d_Mo_layBeside_191 ?_
    refine ar_istore_n (pc := 192) d_Mo_layBeside_192 rfl (by decide) ?_
    refine ar_iinc (pc := 193) d_Mo_layBeside_193 rfl rfl (by decide) ?_
    refine ar_goto (pc := 196) 21 d_Mo_layBeside_196 (by decide) ?_
    rotate_left
    refine ar_iconst (pc := 187) d_Mo_layBeside_187 ?_
    refine ar_goto (pc := 188) 192 d_Mo_layBeside_188 (by decide) ?_
    refine ar_istore_n (pc := 192) d_Mo_layBeside_192 rfl (by decide) ?_
    refine ar_iinc (pc := 193) d_Mo_layBeside_193 rfl rfl (by decide) ?_
    refine ar_goto (pc := 196) 21 d_Mo_layBeside_196 (by decide) ?_
    rotate_left
    refine ar_aload_n (pc := 159) d_Mo_layBeside_159 rfl ?_
    refine ar_getR (pc := 160) gf_Mo_62 d_Mo_layBeside_160 (by first | rfl | exact sh_wheel (by omega) | exact sh_milk (by omega)) (hF _ _ _ rfl) ?_
    refine ar_iload (pc := 163) d_Mo_layBeside_163 rfl ?_
    refine ar_iald (pc := 165) d_Mo_layBeside_165 rfl (k) (by omega) (by omega) (fun r_165 => ?_)
    refine ar_iload (pc := 166) d_Mo_layBeside_166 rfl ?_
    refine ar_icmp_ge (pc := 168) 180 d_Mo_layBeside_168 (by decide) ⟨by omega, by omega⟩ ⟨by omega, by omega⟩ (fun h_168 => ?_) (fun h_168 => ?_)
    refine ar_iload (pc := 180) d_Mo_layBeside_180 rfl ?_
    refine ar_iload (pc := 182) d_Mo_layBeside_182 rfl ?_
    refine ar_icmp_ge (pc := 184) 191 d_Mo_layBeside_184 (by decide) ⟨by omega, by omega⟩ ⟨by omega, by omega⟩ (fun h_184 => ?_) (fun h_184 => ?_)
    refine ar_iconst (pc := 191) d_Mo_layBeside_191 ?_
    refine ar_istore_n (pc := 192) d_Mo_layBeside_192 rfl (by decide) ?_
    refine ar_iinc (pc := 193) d_Mo_layBeside_193 rfl rfl (by decide) ?_
    refine ar_goto (pc := 196) 21 d_Mo_layBeside_196 (by decide) ?_
    rotate_left
    refine ar_iconst (pc := 187) d_Mo_layBeside_187 ?_
    refine ar_goto (pc := 188) 192 d_Mo_layBeside_188 (by decide) ?_
    refine ar_istore_n (pc := 192) d_Mo_layBeside_192 rfl (by decide) ?_
    refine ar_iinc (pc := 193) d_Mo_layBeside_193 rfl rfl (by decide) ?_
    refine ar_goto (pc := 196) 21 d_Mo_layBeside_196 (by decide) ?_
    rotate_left
    refine ar_aload_n (pc := 171) d_Mo_layBeside_171 rfl ?_
    refine ar_getR (pc := 172) gf_Mo_62 d_Mo_layBeside_172 (by first | rfl | exact sh_wheel (by omega) | exact sh_milk (by omega)) (hF _ _ _ rfl) ?_
    refine ar_iload (pc := 175) d_Mo_layBeside_175 rfl ?_
    refine ar_iald (pc := 177) d_Mo_layBeside_177 rfl (k) (by omega) (by omega) (fun r_177 => ?_)
    refine ar_istore (pc := 178) d_Mo_layBeside_178 rfl (by decide) ?_
    refine ar_iload (pc := 180) d_Mo_layBeside_180 rfl ?_
    refine ar_iload (pc := 182) d_Mo_layBeside_182 rfl ?_
    refine ar_icmp_ge (pc := 184) 191 d_Mo_layBeside_184 (by decide) ⟨by omega, by omega⟩ ⟨by omega, by omega⟩ (fun h_184 => ?_) (fun h_184 => ?_)
    refine ar_iconst (pc := 191) d_Mo_layBeside_191 ?_
    refine ar_istore_n (pc := 192) d_Mo_layBeside_192 rfl (by decide) ?_
    refine ar_iinc (pc := 193) d_Mo_layBeside_193 rfl rfl (by decide) ?_
    refine ar_goto (pc := 196) 21 d_Mo_layBeside_196 (by decide) ?_
    rotate_left
    refine ar_iconst (pc := 187) d_Mo_layBeside_187 ?_
    refine ar_goto (pc := 188) 192 d_Mo_layBeside_188 (by decide) ?_
    refine ar_istore_n (pc := 192) d_Mo_layBeside_192 rfl (by decide) ?_
    refine ar_iinc (pc := 193) d_Mo_layBeside_193 rfl rfl (by decide) ?_
    refine ar_goto (pc := 196) 21 d_Mo_layBeside_196 (by decide) ?_
    rotate_left
    refine ar_goto (pc := 73) 193 d_Mo_layBeside_73 (by decide) ?_
    refine ar_iinc (pc := 193) d_Mo_layBeside_193 rfl rfl (by decide) ?_
    refine ar_goto (pc := 196) 21 d_Mo_layBeside_196 (by decide) ?_
    rotate_left
    -- leaves: stop 21, stop 21, stop 21, stop 21, stop 21, stop 21, stop 21, stop 21, stop 21, stop 21, stop 21, stop 21, stop 21, stop 21, stop 21, stop 21, stop 21, stop 21, stop 21, stop 21, stop 21, stop 21, stop 21, stop 21, stop 21, stop 21, stop 21, stop 21, stop 21, stop 21, stop 21, stop 21, stop 21, stop 21, stop 21, stop 21, stop 21, stop 21, stop 21
    all_goals first | exact ar_loc (nx0 (by omega)) ⟨rfl, rfl, rfl, rfl, rfl, li_i rfl (by omega), trivial⟩ | exact ar_loc (nx1 (by omega)) ⟨rfl, rfl, rfl, rfl, rfl, li_i rfl (by omega), trivial⟩
theorem lp_lb_3 (X : gx_T) (d : Nat) (G : mm_T) {a e t : Int} {c : Nat} (hF : fx_R G) (ha : i3_in a) (he : i3_in e) (hc : mm_I G 60 5 = c) (hc2 : c ≤ 200) (ht : mm_I G 60 0 = t) (hl : ∀ k, k < c → -1 ≤ mm_I G 78 k ∧ mm_I G 78 k ≤ t) : ∀ n j, j + n = c → (∀ i, i < j → ∀ k, k < c → ¬ sy_P (mm_I G 75) (mm_I G 76) (mm_I G 77) (mm_I G 78) t a e i k) → aw_W X mt_Mo_layBeside (d + 1) 5 [(0, some (av_r (some 60))), (1, some (av_i a)), (2, some (av_i e)), (3, some (av_i 0)), (4, some (av_i (j : Int)))] [] G 0 0 (fun r G' => r = some (av_i (bv_p (∃ j, j < c ∧ ∃ k, k < c ∧ sy_P (mm_I G 75) (mm_I G 76) (mm_I G 77) (mm_I G 78) t a e j k))) ∧ G' = G) := by
  intro n
  induction n with
  | zero =>
    intro j hj hno
    refine ar_iload (pc := 5) d_Mo_layBeside_5 rfl ?_
    refine ar_aload_n (pc := 7) d_Mo_layBeside_7 rfl ?_
    refine ar_getIv (pc := 8) gf_Mo_168 d_Mo_layBeside_8 (by first | rfl | exact sh_wheel (by omega) | exact sh_milk (by omega)) hc (fun r_8 => ?_)
    refine ar_icmp_ge (pc := 11) 205 d_Mo_layBeside_11 (by decide) ⟨by omega, by omega⟩ ⟨by omega, by omega⟩ (fun h_11 => ?_) (fun h_11 => by exfalso; omega)
    refine ar_iload_n (pc := 205) d_Mo_layBeside_205 rfl ?_
    refine ar_zret (pc := 206) d_Mo_layBeside_206 rfl (by omega) ?_
    rotate_left
    -- leaves: ret 206
    · refine ⟨congrArg (fun x => some (av_i x)) (bv_0 ?_), rfl⟩
      rintro ⟨i, hi, k, hk, h⟩
      exact hno i (by omega) k hk h
  | succ n ih =>
    intro j hj hno
    refine ar_iload (pc := 5) d_Mo_layBeside_5 rfl ?_
    refine ar_aload_n (pc := 7) d_Mo_layBeside_7 rfl ?_
    refine ar_getIv (pc := 8) gf_Mo_168 d_Mo_layBeside_8 (by first | rfl | exact sh_wheel (by omega) | exact sh_milk (by omega)) hc (fun r_8 => ?_)
    refine ar_icmp_ge (pc := 11) 205 d_Mo_layBeside_11 (by decide) ⟨by omega, by omega⟩ ⟨by omega, by omega⟩ (fun h_11 => by exfalso; omega) (fun h_11 => ?_)
    refine ar_iload_n (pc := 14) d_Mo_layBeside_14 rfl ?_
    refine ar_if_ne (pc := 15) 205 d_Mo_layBeside_15 (by decide) ⟨by omega, by omega⟩ (fun h_15 => by exfalso; omega) (fun h_15 => ?_)
    refine ar_iconst (pc := 18) d_Mo_layBeside_18 ?_
    refine ar_istore (pc := 19) d_Mo_layBeside_19 rfl (by decide) ?_
    rotate_left
    -- leaves: stop 21
    · refine ar_loc (lp_lb_2 X d G (j := j) hF ha he hc hc2 (by omega) ht hl ?_ ?_ c 0 (by omega) (fun i hi => by omega)) ⟨rfl, rfl, rfl, rfl, rfl, rfl, trivial⟩
      · rintro ⟨k, hk, h⟩
        have hw1 : (1 : Int) = bv_p (∃ j, j < c ∧ ∃ k, k < c ∧ sy_P (mm_I G 75) (mm_I G 76) (mm_I G 77) (mm_I G 78) t a e j k) := bv_1 ⟨j, by omega, k, hk, h⟩
        clear h
        refine ar_iinc (pc := 199) d_Mo_layBeside_199 rfl rfl (by decide) ?_
        refine ar_goto (pc := 202) 5 d_Mo_layBeside_202 (by decide) ?_
        refine ar_iload (pc := 5) d_Mo_layBeside_5 rfl ?_
        refine ar_aload_n (pc := 7) d_Mo_layBeside_7 rfl ?_
        refine ar_getIv (pc := 8) gf_Mo_168 d_Mo_layBeside_8 (by first | rfl | exact sh_wheel (by omega) | exact sh_milk (by omega)) hc (fun r_8 => ?_)
        refine ar_icmp_ge (pc := 11) 205 d_Mo_layBeside_11 (by decide) ⟨by omega, by omega⟩ ⟨by omega, by omega⟩ (fun h_11 => ?_) (fun h_11 => ?_)
        refine ar_iload_n (pc := 205) d_Mo_layBeside_205 rfl ?_
        refine ar_zret (pc := 206) d_Mo_layBeside_206 rfl (by omega) ?_
        rotate_left
        refine ar_iload_n (pc := 14) d_Mo_layBeside_14 rfl ?_
        refine ar_if_ne (pc := 15) 205 d_Mo_layBeside_15 (by decide) ⟨by omega, by omega⟩ (fun h_15 => ?_) (fun h_15 => by exfalso; omega)
        refine ar_iload_n (pc := 205) d_Mo_layBeside_205 rfl ?_
        refine ar_zret (pc := 206) d_Mo_layBeside_206 rfl (by omega) ?_
        rotate_left
        -- leaves: ret 206, ret 206
        · exact ⟨congrArg (fun x => some (av_i x)) hw1, rfl⟩
        · exact ⟨congrArg (fun x => some (av_i x)) hw1, rfl⟩
      · intro hnj
        refine ar_iinc (pc := 199) d_Mo_layBeside_199 rfl rfl (by decide) ?_
        refine ar_goto (pc := 202) 5 d_Mo_layBeside_202 (by decide) ?_
        rotate_left
        -- leaves: stop 5
        · refine ar_loc (ih (j + 1) (by omega) (fun i hi k hk => ?_)) ⟨rfl, rfl, rfl, rfl, li_i rfl (by omega), trivial⟩
          by_cases hij : i = j
          · subst hij; exact hnj k hk
          · exact hno i (by omega) k hk
theorem cm_Mo_layBeside (X : gx_T) (d : Nat) (G : mm_T) {a e t : Int} {c : Nat} (hF : fx_R G) (ha : i3_in a) (he : i3_in e) (hc : mm_I G 60 5 = c) (hc2 : c ≤ 200) (ht : mm_I G 60 0 = t) (hl : ∀ k, k < c → -1 ≤ mm_I G 78 k ∧ mm_I G 78 k ≤ t) : aw_M X (d + 1) mt_Mo_layBeside [av_r (some 60), av_i a, av_i e] G 0 0 (fun r G' => r = some (av_i (bv_p (∃ j, j < c ∧ ∃ k, k < c ∧ sy_P (mm_I G 75) (mm_I G 76) (mm_I G 77) (mm_I G 78) t a e j k))) ∧ G' = G) := by
  refine aw_enter pf_Mo_layBeside (Nat.le_of_ble_eq_true rfl) ?_
  refine ar_iconst (pc := 0) d_Mo_layBeside_0 ?_
  refine ar_istore_n (pc := 1) d_Mo_layBeside_1 rfl (by decide) ?_
  refine ar_iconst (pc := 2) d_Mo_layBeside_2 ?_
  refine ar_istore (pc := 3) d_Mo_layBeside_3 rfl (by decide) ?_
  rotate_left
  -- leaves: stop 5
  · exact ar_loc (lp_lb_3 X d G hF ha he hc hc2 ht hl c 0 (by omega) (fun i hi => by omega)) ⟨rfl, rfl, rfl, rfl, rfl, trivial⟩
theorem cm_Mo_beside (X : gx_T) (d : Nat) (G : mm_T) {a e t : Int} {c : Nat} (hF : fx_R G) (ha : i3_in a) (he : i3_in e) (hc : mm_I G 60 5 = c) (hc2 : c ≤ 200) (ht : mm_I G 60 0 = t) (hl : ∀ k, k < c → -1 ≤ mm_I G 78 k ∧ mm_I G 78 k ≤ t) : aw_M X (d + 2) mt_Mo_beside [av_r (some 60), av_i a, av_i e] G 0 0 (fun r G' => r = some (av_i (if (0 ≤ a ∧ a < mm_I G 60 4) ∧ (0 ≤ e ∧ e < mm_I G 60 4) ∧ a ≠ e then bv_p (∃ j, j < c ∧ ∃ k, k < c ∧ sy_P (mm_I G 75) (mm_I G 76) (mm_I G 77) (mm_I G 78) t a e j k) else -1)) ∧ G' = G) := by
  have h := cm_Mo_layBeside X d G hF ha he hc hc2 ht hl
  generalize (∃ j, j < c ∧ ∃ k, k < c ∧ sy_P (mm_I G 75) (mm_I G 76) (mm_I G 77) (mm_I G 78) t a e j k) = P at h ⊢
  have hbv := bv_c P
  refine aw_enter pf_Mo_beside (Nat.le_of_ble_eq_true rfl) ?_
  refine ar_aload_n (pc := 0) d_Mo_beside_0 rfl ?_
  refine ar_iload_n (pc := 1) d_Mo_beside_1 rfl ?_
  refine ac_virt (pc := 2) (N := mt_Mo_isWheel) _ _ mv_Mo_isWheel ml_Mo_190 ck_12 d_Mo_beside_2 (cm_Mo_isWheel _ _ _ ha) (by first | rfl | exact sh_wheel (by omega) | exact sh_milk (by omega)) rfl rfl (Nat.le_of_ble_eq_true rfl) (Nat.le_of_eq (Nat.zero_add _)) (Nat.le_of_eq (Nat.zero_add _)) (fun r_2 G_2 h_2 => ?_)
  obtain ⟨rfl, e_2⟩ := h_2
  subst G_2
  refine ar_if_eq (pc := 5) 21 d_Mo_beside_5 (by decide) ⟨by omega, by omega⟩ (fun h_5 => ?_) (fun h_5 => ?_)
  refine ar_iconst (pc := 21) d_Mo_beside_21 ?_
  refine ar_goto (pc := 22) 39 d_Mo_beside_22 (by decide) ?_
  refine ar_iret (pc := 39) d_Mo_beside_39 rfl ?_
  rotate_left
  refine ar_aload_n (pc := 8) d_Mo_beside_8 rfl ?_
  refine ar_iload_n (pc := 9) d_Mo_beside_9 rfl ?_
  refine ac_virt (pc := 10) (N := mt_Mo_isWheel) _ _ mv_Mo_isWheel ml_Mo_190 ck_12 d_Mo_beside_10 (cm_Mo_isWheel _ _ _ he) (by first | rfl | exact sh_wheel (by omega) | exact sh_milk (by omega)) rfl rfl (Nat.le_of_ble_eq_true rfl) (Nat.le_of_eq (Nat.zero_add _)) (Nat.le_of_eq (Nat.zero_add _)) (fun r_10 G_10 h_10 => ?_)
  obtain ⟨rfl, e_10⟩ := h_10
  subst G_10
  refine ar_if_eq (pc := 13) 21 d_Mo_beside_13 (by decide) ⟨by omega, by omega⟩ (fun h_13 => ?_) (fun h_13 => ?_)
  refine ar_iconst (pc := 21) d_Mo_beside_21 ?_
  refine ar_goto (pc := 22) 39 d_Mo_beside_22 (by decide) ?_
  refine ar_iret (pc := 39) d_Mo_beside_39 rfl ?_
  rotate_left
  refine ar_iload_n (pc := 16) d_Mo_beside_16 rfl ?_
  refine ar_iload_n (pc := 17) d_Mo_beside_17 rfl ?_
  refine ar_icmp_ne (pc := 18) 25 d_Mo_beside_18 (by decide) ⟨by omega, by omega⟩ ⟨by omega, by omega⟩ (fun h_18 => ?_) (fun h_18 => ?_)
  refine ar_aload_n (pc := 25) d_Mo_beside_25 rfl ?_
  refine ar_iload_n (pc := 26) d_Mo_beside_26 rfl ?_
  refine ar_iload_n (pc := 27) d_Mo_beside_27 rfl ?_
  refine ac_virt (pc := 28) (N := mt_Mo_layBeside) _ _ mv_Mo_layBeside ml_Mo_392 ck_12 d_Mo_beside_28 h (by first | rfl | exact sh_wheel (by omega) | exact sh_milk (by omega)) rfl rfl (Nat.le_of_ble_eq_true rfl) (Nat.le_of_eq (Nat.zero_add _)) (Nat.le_of_eq (Nat.zero_add _)) (fun r_28 G_28 h_28 => ?_)
  obtain ⟨rfl, e_28⟩ := h_28
  subst G_28
  refine ar_if_eq (pc := 31) 38 d_Mo_beside_31 (by decide) ⟨by omega, by omega⟩ (fun h_31 => ?_) (fun h_31 => ?_)
  refine ar_iconst (pc := 38) d_Mo_beside_38 ?_
  refine ar_iret (pc := 39) d_Mo_beside_39 rfl ?_
  rotate_left
  refine ar_iconst (pc := 34) d_Mo_beside_34 ?_
  refine ar_goto (pc := 35) 39 d_Mo_beside_35 (by decide) ?_
  refine ar_iret (pc := 39) d_Mo_beside_39 rfl ?_
  rotate_left
  refine ar_iconst (pc := 21) d_Mo_beside_21 ?_
  refine ar_goto (pc := 22) 39 d_Mo_beside_22 (by decide) ?_
  refine ar_iret (pc := 39) d_Mo_beside_39 rfl ?_
  rotate_left
  -- leaves: ret 39, ret 39, ret 39, ret 39, ret 39
  all_goals (refine ⟨congrArg (fun x => some (av_i x)) ?_, rfl⟩)
  all_goals omega
/-- reached: made from the milk, or beside such a one -/
def rc_P (M : Nat → Prop) (B : Nat → Nat → Prop) (n w : Nat) : Prop := M w ∨ ∃ v, v < n ∧ v ≠ w ∧ M v ∧ B v w
theorem lp_rc_2 (X : gx_T) (d : Nat) (G : mm_T) {t x : Int} {m w wc c : Nat} {Q : Option av_T → mm_T → Prop} (hF : fx_R G) (hm : m < 30) (hwc : mm_I G 60 4 = wc) (hwc2 : wc ≤ 40) (hw : w < wc) (hc : mm_I G 60 5 = c) (hc2 : c ≤ 200) (ht : mm_I G 60 0 = t) (hl : ∀ k, k < c → -1 ≤ mm_I G 78 k ∧ mm_I G 78 k ≤ t) (h01 : ∀ k, mm_I G 74 k = 0 ∨ mm_I G 74 k = 1)
    (kk : ∀ z, (z = 0 ∨ z = 1) → (z = 1 ↔ rc_P (fun v => mm_I G 74 (40 * m + v) = 1) (fun v w => ∃ j, j < c ∧ ∃ k, k < c ∧ sy_P (mm_I G 75) (mm_I G 76) (mm_I G 77) (mm_I G 78) t (v : Int) (w : Int) j k) wc w) → aw_W X mt_Mo_reached (d + 2) 107 [(0, some (av_r (some 60))), (1, some (av_i (m : Int))), (2, some (av_l x)), (4, some (av_i (w : Int))), (5, some (av_i z))] [] G 0 0 Q) :
    ∀ n v z, v + n = wc → (z = 0 ∨ z = 1) → (z = 1 ↔ (mm_I G 74 (40 * m + w) = 1 ∨ ∃ u, u < v ∧ u ≠ w ∧ mm_I G 74 (40 * m + u) = 1 ∧ ∃ j, j < c ∧ ∃ k, k < c ∧ sy_P (mm_I G 75) (mm_I G 76) (mm_I G 77) (mm_I G 78) t (u : Int) (w : Int) j k)) → aw_W X mt_Mo_reached (d + 2) 47 [(0, some (av_r (some 60))), (1, some (av_i (m : Int))), (2, some (av_l x)), (4, some (av_i (w : Int))), (5, some (av_i z)), (6, some (av_i (v : Int)))] [] G 0 0 Q := by
  intro n
  induction n with
  | zero =>
    intro v z hv hz hi
    have hv : v = wc := by omega
    subst hv
    have kk := kk z hz hi
    clear hi
    refine ar_iload (pc := 47) d_Mo_reached_47 rfl ?_
    refine ar_aload_n (pc := 49) d_Mo_reached_49 rfl ?_
    refine ar_getIv (pc := 50) gf_Mo_165 d_Mo_reached_50 (by first | rfl | exact sh_wheel (by omega) | exact sh_milk (by omega)) hwc (fun r_50 => ?_)
    refine ar_icmp_ge (pc := 53) 107 d_Mo_reached_53 (by decide) ⟨by omega, by omega⟩ ⟨by omega, by omega⟩ (fun h_53 => ?_) (fun h_53 => by exfalso; omega)
    rotate_left
    -- leaves: stop 107
    · exact ar_loc kk ⟨rfl, rfl, rfl, rfl, rfl, trivial⟩
  | succ n ih =>
    intro v z hv hz hi
    by_cases hz1 : z = 1
    · have kk := kk z hz ⟨fun _ => (hi.mp hz1).elim Or.inl (fun ⟨u, h1, h2⟩ => Or.inr ⟨u, by omega, h2⟩), fun _ => hz1⟩
      clear hi
      refine ar_iload (pc := 47) d_Mo_reached_47 rfl ?_
      refine ar_aload_n (pc := 49) d_Mo_reached_49 rfl ?_
      refine ar_getIv (pc := 50) gf_Mo_165 d_Mo_reached_50 (by first | rfl | exact sh_wheel (by omega) | exact sh_milk (by omega)) hwc (fun r_50 => ?_)
      refine ar_icmp_ge (pc := 53) 107 d_Mo_reached_53 (by decide) ⟨by omega, by omega⟩ ⟨by omega, by omega⟩ (fun h_53 => by exfalso; omega) (fun h_53 => ?_)
      refine ar_iload (pc := 56) d_Mo_reached_56 rfl ?_
      refine ar_if_ne (pc := 58) 107 d_Mo_reached_58 (by decide) ⟨by omega, by omega⟩ (fun h_58 => ?_) (fun h_58 => by exfalso; omega)
      rotate_left
      -- leaves: stop 107
      · exact ar_loc kk ⟨rfl, rfl, rfl, rfl, rfl, trivial⟩
    · have hb := cm_Mo_layBeside X d G (a := (v : Int)) (e := (w : Int)) hF ⟨by omega, by omega⟩ ⟨by omega, by omega⟩ hc hc2 ht hl
      have nx1 : v ≠ w → mm_I G 74 (40 * m + v) = 1 → (∃ j, j < c ∧ ∃ k, k < c ∧ sy_P (mm_I G 75) (mm_I G 76) (mm_I G 77) (mm_I G 78) t (v : Int) (w : Int) j k) → aw_W X mt_Mo_reached (d + 2) 47 [(0, some (av_r (some 60))), (1, some (av_i (m : Int))), (2, some (av_l x)), (4, some (av_i (w : Int))), (5, some (av_i 1)), (6, some (av_i ((v + 1 : Nat) : Int)))] [] G 0 0 Q :=
        fun h1 h2 h3 => ih (v + 1) 1 (by omega) (Or.inr rfl) ⟨fun _ => Or.inr ⟨v, by omega, h1, h2, h3⟩, fun _ => rfl⟩
      have nx0 : ¬ (v ≠ w ∧ mm_I G 74 (40 * m + v) = 1 ∧ (∃ j, j < c ∧ ∃ k, k < c ∧ sy_P (mm_I G 75) (mm_I G 76) (mm_I G 77) (mm_I G 78) t (v : Int) (w : Int) j k)) → aw_W X mt_Mo_reached (d + 2) 47 [(0, some (av_r (some 60))), (1, some (av_i (m : Int))), (2, some (av_l x)), (4, some (av_i (w : Int))), (5, some (av_i 0)), (6, some (av_i ((v + 1 : Nat) : Int)))] [] G 0 0 Q := by
        intro hno
        refine ih (v + 1) 0 (by omega) (Or.inl rfl) ⟨fun h => by omega, ?_⟩
        rintro (h | ⟨u, h1, h2⟩)
        · exact absurd (hi.mpr (Or.inl h)) hz1
        · by_cases huv : u = v
          · subst huv; exact absurd h2 hno
          · exact absurd (hi.mpr (Or.inr ⟨u, by omega, h2⟩)) hz1
      clear hi kk ih
      generalize (∃ j, j < c ∧ ∃ k, k < c ∧ sy_P (mm_I G 75) (mm_I G 76) (mm_I G 77) (mm_I G 78) t (v : Int) (w : Int) j k) = P at hb nx1 nx0
      have hbv := bv_c P
      have hv01 := h01 (40 * m + v)
      refine ar_iload (pc := 47) d_Mo_reached_47 rfl ?_
      refine ar_aload_n (pc := 49) d_Mo_reached_49 rfl ?_
      refine ar_getIv (pc := 50) gf_Mo_165 d_Mo_reached_50 (by first | rfl | exact sh_wheel (by omega) | exact sh_milk (by omega)) hwc (fun r_50 => ?_)
      refine ar_icmp_ge (pc := 53) 107 d_Mo_reached_53 (by decide) ⟨by omega, by omega⟩ ⟨by omega, by omega⟩ (fun h_53 => by exfalso; omega) (fun h_53 => ?_)
      refine ar_iload (pc := 56) d_Mo_reached_56 rfl ?_
      refine ar_if_ne (pc := 58) 107 d_Mo_reached_58 (by decide) ⟨by omega, by omega⟩ (fun h_58 => by exfalso; omega) (fun h_58 => ?_)
      refine ar_iload (pc := 61) d_Mo_reached_61 rfl ?_
      refine ar_iload (pc := 63) d_Mo_reached_63 rfl ?_
      refine ar_icmp_eq (pc := 65) 98 d_Mo_reached_65 (by decide) ⟨by omega, by omega⟩ ⟨by omega, by omega⟩ (fun h_65 => ?_) (fun h_65 => ?_)
      refine ar_iconst (pc := 98) d_Mo_reached_98 ?_
      refine ar_istore (pc := 99) d_Mo_reached_99 rfl (by decide) ?_
      refine ar_iinc (pc := 101) d_Mo_reached_101 rfl rfl (by decide) ?_
      refine ar_goto (pc := 104) 47 d_Mo_reached_104 (by decide) ?_
      rotate_left
      refine ar_aload_n (pc := 68) d_Mo_reached_68 rfl ?_
      refine ar_getR (pc := 69) gf_Mo_49 d_Mo_reached_69 (by first | rfl | exact sh_wheel (by omega) | exact sh_milk (by omega)) (hF _ _ _ rfl) ?_
      refine ar_bipush (pc := 72) d_Mo_reached_72 (by decide) ?_
      refine ar_iload_n (pc := 74) d_Mo_reached_74 rfl ?_
      refine ar_imul (pc := 75) d_Mo_reached_75 ?_
      refine ar_iload (pc := 76) d_Mo_reached_76 rfl ?_
      refine ar_iadd (pc := 78) d_Mo_reached_78 ?_
      refine ar_zald (pc := 79) d_Mo_reached_79 rfl (40*m+v) (by omega) (by omega) (fun r_79 => ?_)
      refine ar_if_eq (pc := 80) 98 d_Mo_reached_80 (by decide) ⟨by omega, by omega⟩ (fun h_80 => ?_) (fun h_80 => ?_)
      refine ar_iconst (pc := 98) d_Mo_reached_98 ?_
      refine ar_istore (pc := 99) d_Mo_reached_99 rfl (by decide) ?_
      refine ar_iinc (pc := 101) d_Mo_reached_101 rfl rfl (by decide) ?_
      refine ar_goto (pc := 104) 47 d_Mo_reached_104 (by decide) ?_
      rotate_left
      refine ar_aload_n (pc := 83) d_Mo_reached_83 rfl ?_
      refine ar_iload (pc := 84) d_Mo_reached_84 rfl ?_
      refine ar_iload (pc := 86) d_Mo_reached_86 rfl ?_
      refine ac_virt (pc := 88) (N := mt_Mo_layBeside) _ _ mv_Mo_layBeside ml_Mo_392 ck_12 d_Mo_reached_88 hb (by first | rfl | exact sh_wheel (by omega) | exact sh_milk (by omega)) rfl rfl (Nat.le_of_ble_eq_true rfl) (Nat.le_of_eq (Nat.zero_add _)) (Nat.le_of_eq (Nat.zero_add _)) (fun r_88 G_88 h_88 => ?_)
      obtain ⟨rfl, e_88⟩ := h_88
      subst G_88
      refine ar_if_eq (pc := 91) 98 d_Mo_reached_91 (by decide) ⟨by omega, by omega⟩ (fun h_91 => ?_) (fun h_91 => ?_)
      refine ar_iconst (pc := 98) d_Mo_reached_98 ?_
      refine ar_istore (pc := 99) d_Mo_reached_99 rfl (by decide) ?_
      refine ar_iinc (pc := 101) d_Mo_reached_101 rfl rfl (by decide) ?_
      refine ar_goto (pc := 104) 47 d_Mo_reached_104 (by decide) ?_
      rotate_left
      refine ar_iconst (pc := 94) d_Mo_reached_94 ?_
      refine ar_goto (pc := 95) 99 d_Mo_reached_95 (by decide) ?_
      refine ar_istore (pc := 99) d_Mo_reached_99 rfl (by decide) ?_
      refine ar_iinc (pc := 101) d_Mo_reached_101 rfl rfl (by decide) ?_
      refine ar_goto (pc := 104) 47 d_Mo_reached_104 (by decide) ?_
      rotate_left
      -- leaves: stop 47, stop 47, stop 47, stop 47
      · exact ar_loc (nx0 (by omega)) ⟨rfl, rfl, rfl, rfl, rfl, li_i rfl (by omega), trivial⟩
      · exact ar_loc (nx0 (by omega)) ⟨rfl, rfl, rfl, rfl, rfl, li_i rfl (by omega), trivial⟩
      · refine ar_loc (nx0 (fun z => ?_)) ⟨rfl, rfl, rfl, rfl, rfl, li_i rfl (by omega), trivial⟩
        rcases hbv with h | h
        · omega
        · exact h.2 z.2.2
      · refine ar_loc (nx1 (by omega) (by omega) ?_) ⟨rfl, rfl, rfl, rfl, rfl, li_i rfl (by omega), trivial⟩
        rcases hbv with h | h
        · exact h.2
        · omega
