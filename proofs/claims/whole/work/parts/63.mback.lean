/-! ===== the reference reads lines: behind an e ===== -/
theorem lp_back_ok (X : gx_T) (d : Nat) {B : Nat → Int} {z n : Nat} {G G1 : mm_T} {i v : Nat} {o : List Int} {l : Nat} {le : Nat → Nat} {dd : Nat → Int} {q : Int} {Q : Option av_T → mm_T → Prop} (hF : fx_R G) (hz : mm_I G 60 39 = z) (bb : bb_B B z) (hB : mb_v G = B) (h0 : mm_I G 60 36 = 0) (hE : te_E B z n) (h : mj_F B z G G1 i v o l (l + 1) le l dd) (hi : i ≤ n) (hl : l < 8) (k1 : tn_K B z i = 1) (hq : q = tn_K B z (i + 1)) (hq3 : q = 2 ∨ q = 3 ∨ q = 4) (k59 : tn_K B z (i + 2) = 59)
    (kk : ∀ G2, mj_F B z G G2 (i + 3) v o (l + 1) (l + 1) le (l + 1) (upp dd l q) → aw_W X mt_Mo_orders (d + 6) 47 [(0, some (av_r (some 60)))] [] G2 0 0 Q) : aw_W X mt_Mo_orders (d + 6) 115 [(0, some (av_r (some 60)))] [] G1 0 0 Q := by
  have hin := te_n hE hi (by omega)
  have hin1 := te_n hE (i := i + 1) (by omega) (by omega)
  have hin2 := te_n hE (i := i + 2) (by omega) (by omega)
  obtain ⟨hF1, -, -, e36⟩ := mj_w h hF hz hB h0
  have c125 := cm_Mo_ng X (d + 3) hF hz bb hB h0 hE h hin
  have k3 : ∀ G3, mj_F B z G G3 (i + 1) v o l (l + 1) le (l + 1) (upp dd l q) → aw_W X mt_Mo_orders (d + 6) 210 [(0, some (av_r (some 60)))] [] G3 0 0 Q := by
    intro G3 h3
    have c211 := cm_Mo_ng X (d + 3) hF hz bb hB h0 hE h3 hin1
    refine ar_aload_n (pc := 210) d_Mo_orders_210 rfl ?_
    refine ac_virt (pc := 211) (N := mt_Mo_next) _ _ mv_Mo_next ml_Mo_318 ck_12 d_Mo_orders_211 c211 (by first | rfl | exact sh_wheel (by omega) | exact sh_milk (by omega)) rfl rfl (Nat.le_of_ble_eq_true rfl) (Nat.le_of_eq (Nat.zero_add _)) (Nat.le_of_eq (Nat.zero_add _)) (fun r_211 G_211 h_211 => ?_)
    obtain ⟨rfl, q211⟩ := h_211
    rotate_left
    -- leaves: stop 214
    · have k59' : tn_K B z (i + 1 + 1) = 59 := k59
      have e40 := mo_sg q211.2.2.2.1.1 (by omega)
      obtain ⟨hF4, -, -, e36'⟩ := mj_w q211 hF hz hB h0
      have c238 := cm_Mo_ng X (d + 3) hF hz bb hB h0 hE q211 hin2
      refine ar_aload_n (pc := 214) d_Mo_orders_214 rfl ?_
      refine ar_getIv (pc := 215) gf_Mo_222 d_Mo_orders_215 (by first | rfl | exact sh_wheel (by omega) | exact sh_milk (by omega)) e40 (fun r_215 => ?_)
      refine ar_bipush (pc := 218) d_Mo_orders_218 (by decide) ?_
      refine ar_icmp_eq (pc := 220) 228 d_Mo_orders_220 (by decide) ⟨by omega, by omega⟩ ⟨by omega, by omega⟩ (fun h_220 => ?_) (fun h_220 => by exfalso; omega)
      refine ar_aload_n (pc := 228) d_Mo_orders_228 rfl ?_
      refine ar_getIv (pc := 229) gf_Mo_234 d_Mo_orders_229 (by first | rfl | exact sh_wheel (by omega) | exact sh_milk (by omega)) e36' (fun r_229 => ?_)
      refine ar_if_le (pc := 232) 237 d_Mo_orders_232 (by decide) ⟨by omega, by omega⟩ (fun h_232 => ?_) (fun h_232 => by exfalso; omega)
      refine ar_aload_n (pc := 237) d_Mo_orders_237 rfl ?_
      refine ac_virt (pc := 238) (N := mt_Mo_next) _ _ mv_Mo_next ml_Mo_318 ck_12 d_Mo_orders_238 c238 (by first | rfl | exact sh_wheel (by omega) | exact sh_milk (by omega)) rfl rfl (Nat.le_of_ble_eq_true rfl) (Nat.le_of_eq (Nat.zero_add _)) (Nat.le_of_eq (Nat.zero_add _)) (fun r_238 G_238 h_238 => ?_)
      obtain ⟨rfl, q238⟩ := h_238
      rotate_left
      -- leaves: stop 241
      · have e31 := q238.2.2.2.2.1
        have fin := kk _ (mj_ln q238)
        clear kk
        refine ar_aload_n (pc := 241) d_Mo_orders_241 rfl ?_
        refine ar_dup (pc := 242) d_Mo_orders_242 rfl ?_
        refine ar_getIv (pc := 243) gf_Mo_328 d_Mo_orders_243 (by first | rfl | exact sh_wheel (by omega) | exact sh_milk (by omega)) e31 (fun r_243 => ?_)
        refine ar_iconst (pc := 246) d_Mo_orders_246 ?_
        refine ar_iadd (pc := 247) d_Mo_orders_247 ?_
        refine ar_putI (pc := 248) gf_Mo_328 d_Mo_orders_248 rfl (by first | rfl | exact sh_wheel (by omega) | exact sh_milk (by omega)) ⟨by omega, by omega⟩ ?_
        refine ar_goto (pc := 251) 47 d_Mo_orders_251 (by decide) ?_
        rotate_left
        -- leaves: stop 47
        · exact ar_loc fin ⟨rfl, trivial⟩
  clear kk
  refine ar_aload_n (pc := 115) d_Mo_orders_115 rfl ?_
  refine ar_getIv (pc := 116) gf_Mo_234 d_Mo_orders_116 (by first | rfl | exact sh_wheel (by omega) | exact sh_milk (by omega)) e36 (fun r_116 => ?_)
  refine ar_if_le (pc := 119) 124 d_Mo_orders_119 (by decide) ⟨by omega, by omega⟩ (fun h_119 => ?_) (fun h_119 => by exfalso; omega)
  refine ar_aload_n (pc := 124) d_Mo_orders_124 rfl ?_
  refine ac_virt (pc := 125) (N := mt_Mo_next) _ _ mv_Mo_next ml_Mo_318 ck_12 d_Mo_orders_125 c125 (by first | rfl | exact sh_wheel (by omega) | exact sh_milk (by omega)) rfl rfl (Nat.le_of_ble_eq_true rfl) (Nat.le_of_eq (Nat.zero_add _)) (Nat.le_of_eq (Nat.zero_add _)) (fun r_125 G_125 h_125 => ?_)
  obtain ⟨rfl, q125⟩ := h_125
  rotate_left
  -- leaves: stop 128
  · obtain ⟨hF2, -, -, e36'⟩ := mj_w q125 hF hz hB h0
    have e31 := q125.2.2.2.2.1
    have hT := q125.2.2.2.1.1
    have c2 := cm_Mo_isWord X (d + 4) (w := 2) (c := 1953854062) hT (by omega) rfl
    have c3 := cm_Mo_isWord X (d + 4) (w := 3) (c := 2002875240) hT (by omega) rfl
    have c4 := cm_Mo_isWord X (d + 4) (w := 4) (c := 422827094888) hT (by omega) rfl
    have kw := fun x (hx : x = q - 2) => k3 _ (mj_do q125 hx)
    clear k3 q125 hT
    have hF := hF2
    rcases hq3 with rfl | rfl | rfl
    · rw [if_pos (by omega)] at c2
      refine ar_aload_n (pc := 128) d_Mo_orders_128 rfl ?_
      refine ar_ldc2 (pc := 129) (1953854062) kj_Mo_241 d_Mo_orders_129 (by decide) ?_
      refine ac_virt (pc := 132) (N := mt_Mo_isWord) _ _ mv_Mo_isWord ml_Mo_288 ck_12 d_Mo_orders_132 c2 (by first | rfl | exact sh_wheel (by omega) | exact sh_milk (by omega)) rfl rfl (Nat.le_of_ble_eq_true rfl) (Nat.le_of_eq (Nat.zero_add _)) (Nat.le_of_eq (Nat.zero_add _)) (fun r_132 G_132 h_132 => ?_)
      obtain ⟨rfl, e_132⟩ := h_132
      subst G_132
      refine ar_if_ne (pc := 135) 163 d_Mo_orders_135 (by decide) ⟨by omega, by omega⟩ (fun h_135 => ?_) (fun h_135 => by exfalso; omega)
      refine ar_aload_n (pc := 163) d_Mo_orders_163 rfl ?_
      refine ar_getIv (pc := 164) gf_Mo_234 d_Mo_orders_164 (by first | rfl | exact sh_wheel (by omega) | exact sh_milk (by omega)) e36' (fun r_164 => ?_)
      refine ar_if_le (pc := 167) 172 d_Mo_orders_167 (by decide) ⟨by omega, by omega⟩ (fun h_167 => ?_) (fun h_167 => by exfalso; omega)
      refine ar_aload_n (pc := 172) d_Mo_orders_172 rfl ?_
      refine ar_getR (pc := 173) gf_Mo_86 d_Mo_orders_173 (by first | rfl | exact sh_wheel (by omega) | exact sh_milk (by omega)) (hF _ _ _ rfl) ?_
      refine ar_aload_n (pc := 176) d_Mo_orders_176 rfl ?_
      refine ar_getIv (pc := 177) gf_Mo_328 d_Mo_orders_177 (by first | rfl | exact sh_wheel (by omega) | exact sh_milk (by omega)) e31 (fun r_177 => ?_)
      refine ar_aload_n (pc := 180) d_Mo_orders_180 rfl ?_
      refine ar_ldc2 (pc := 181) (1953854062) kj_Mo_241 d_Mo_orders_181 (by decide) ?_
      refine ac_virt (pc := 184) (N := mt_Mo_isWord) _ _ mv_Mo_isWord ml_Mo_288 ck_12 d_Mo_orders_184 c2 (by first | rfl | exact sh_wheel (by omega) | exact sh_milk (by omega)) rfl rfl (Nat.le_of_ble_eq_true rfl) (Nat.le_of_eq (Nat.zero_add _)) (Nat.le_of_eq (Nat.zero_add _)) (fun r_184 G_184 h_184 => ?_)
      obtain ⟨rfl, e_184⟩ := h_184
      subst G_184
      refine ar_if_eq (pc := 187) 194 d_Mo_orders_187 (by decide) ⟨by omega, by omega⟩ (fun h_187 => by exfalso; omega) (fun h_187 => ?_)
      refine ar_iconst (pc := 190) d_Mo_orders_190 ?_
      refine ar_goto (pc := 191) 209 d_Mo_orders_191 (by decide) ?_
      refine ar_iast (pc := 209) d_Mo_orders_209 rfl (l) (by omega) (by omega) ⟨by omega, by omega⟩ ?_
      rotate_left
      -- leaves: stop 210
      · exact ar_loc (kw 0 (by omega)) ⟨rfl, trivial⟩
    · rw [if_neg (by omega)] at c2
      rw [if_pos (by omega)] at c3
      refine ar_aload_n (pc := 128) d_Mo_orders_128 rfl ?_
      refine ar_ldc2 (pc := 129) (1953854062) kj_Mo_241 d_Mo_orders_129 (by decide) ?_
      refine ac_virt (pc := 132) (N := mt_Mo_isWord) _ _ mv_Mo_isWord ml_Mo_288 ck_12 d_Mo_orders_132 c2 (by first | rfl | exact sh_wheel (by omega) | exact sh_milk (by omega)) rfl rfl (Nat.le_of_ble_eq_true rfl) (Nat.le_of_eq (Nat.zero_add _)) (Nat.le_of_eq (Nat.zero_add _)) (fun r_132 G_132 h_132 => ?_)
      obtain ⟨rfl, e_132⟩ := h_132
      subst G_132
      refine ar_if_ne (pc := 135) 163 d_Mo_orders_135 (by decide) ⟨by omega, by omega⟩ (fun h_135 => by exfalso; omega) (fun h_135 => ?_)
      refine ar_aload_n (pc := 138) d_Mo_orders_138 rfl ?_
      refine ar_ldc2 (pc := 139) (2002875240) kj_Mo_243 d_Mo_orders_139 (by decide) ?_
      refine ac_virt (pc := 142) (N := mt_Mo_isWord) _ _ mv_Mo_isWord ml_Mo_288 ck_12 d_Mo_orders_142 c3 (by first | rfl | exact sh_wheel (by omega) | exact sh_milk (by omega)) rfl rfl (Nat.le_of_ble_eq_true rfl) (Nat.le_of_eq (Nat.zero_add _)) (Nat.le_of_eq (Nat.zero_add _)) (fun r_142 G_142 h_142 => ?_)
      obtain ⟨rfl, e_142⟩ := h_142
      subst G_142
      refine ar_if_ne (pc := 145) 163 d_Mo_orders_145 (by decide) ⟨by omega, by omega⟩ (fun h_145 => ?_) (fun h_145 => by exfalso; omega)
      refine ar_aload_n (pc := 163) d_Mo_orders_163 rfl ?_
      refine ar_getIv (pc := 164) gf_Mo_234 d_Mo_orders_164 (by first | rfl | exact sh_wheel (by omega) | exact sh_milk (by omega)) e36' (fun r_164 => ?_)
      refine ar_if_le (pc := 167) 172 d_Mo_orders_167 (by decide) ⟨by omega, by omega⟩ (fun h_167 => ?_) (fun h_167 => by exfalso; omega)
      refine ar_aload_n (pc := 172) d_Mo_orders_172 rfl ?_
      refine ar_getR (pc := 173) gf_Mo_86 d_Mo_orders_173 (by first | rfl | exact sh_wheel (by omega) | exact sh_milk (by omega)) (hF _ _ _ rfl) ?_
      refine ar_aload_n (pc := 176) d_Mo_orders_176 rfl ?_
      refine ar_getIv (pc := 177) gf_Mo_328 d_Mo_orders_177 (by first | rfl | exact sh_wheel (by omega) | exact sh_milk (by omega)) e31 (fun r_177 => ?_)
      refine ar_aload_n (pc := 180) d_Mo_orders_180 rfl ?_
      refine ar_ldc2 (pc := 181) (1953854062) kj_Mo_241 d_Mo_orders_181 (by decide) ?_
      refine ac_virt (pc := 184) (N := mt_Mo_isWord) _ _ mv_Mo_isWord ml_Mo_288 ck_12 d_Mo_orders_184 c2 (by first | rfl | exact sh_wheel (by omega) | exact sh_milk (by omega)) rfl rfl (Nat.le_of_ble_eq_true rfl) (Nat.le_of_eq (Nat.zero_add _)) (Nat.le_of_eq (Nat.zero_add _)) (fun r_184 G_184 h_184 => ?_)
      obtain ⟨rfl, e_184⟩ := h_184
      subst G_184
      refine ar_if_eq (pc := 187) 194 d_Mo_orders_187 (by decide) ⟨by omega, by omega⟩ (fun h_187 => ?_) (fun h_187 => by exfalso; omega)
      refine ar_aload_n (pc := 194) d_Mo_orders_194 rfl ?_
      refine ar_ldc2 (pc := 195) (2002875240) kj_Mo_243 d_Mo_orders_195 (by decide) ?_
      refine ac_virt (pc := 198) (N := mt_Mo_isWord) _ _ mv_Mo_isWord ml_Mo_288 ck_12 d_Mo_orders_198 c3 (by first | rfl | exact sh_wheel (by omega) | exact sh_milk (by omega)) rfl rfl (Nat.le_of_ble_eq_true rfl) (Nat.le_of_eq (Nat.zero_add _)) (Nat.le_of_eq (Nat.zero_add _)) (fun r_198 G_198 h_198 => ?_)
      obtain ⟨rfl, e_198⟩ := h_198
      subst G_198
      refine ar_if_eq (pc := 201) 208 d_Mo_orders_201 (by decide) ⟨by omega, by omega⟩ (fun h_201 => by exfalso; omega) (fun h_201 => ?_)
      refine ar_iconst (pc := 204) d_Mo_orders_204 ?_
      refine ar_goto (pc := 205) 209 d_Mo_orders_205 (by decide) ?_
      refine ar_iast (pc := 209) d_Mo_orders_209 rfl (l) (by omega) (by omega) ⟨by omega, by omega⟩ ?_
      rotate_left
      -- leaves: stop 210
      · exact ar_loc (kw 1 (by omega)) ⟨rfl, trivial⟩
    · rw [if_neg (by omega)] at c2
      rw [if_neg (by omega)] at c3
      rw [if_pos (by omega)] at c4
      refine ar_aload_n (pc := 128) d_Mo_orders_128 rfl ?_
      refine ar_ldc2 (pc := 129) (1953854062) kj_Mo_241 d_Mo_orders_129 (by decide) ?_
      refine ac_virt (pc := 132) (N := mt_Mo_isWord) _ _ mv_Mo_isWord ml_Mo_288 ck_12 d_Mo_orders_132 c2 (by first | rfl | exact sh_wheel (by omega) | exact sh_milk (by omega)) rfl rfl (Nat.le_of_ble_eq_true rfl) (Nat.le_of_eq (Nat.zero_add _)) (Nat.le_of_eq (Nat.zero_add _)) (fun r_132 G_132 h_132 => ?_)
      obtain ⟨rfl, e_132⟩ := h_132
      subst G_132
      refine ar_if_ne (pc := 135) 163 d_Mo_orders_135 (by decide) ⟨by omega, by omega⟩ (fun h_135 => by exfalso; omega) (fun h_135 => ?_)
      refine ar_aload_n (pc := 138) d_Mo_orders_138 rfl ?_
      refine ar_ldc2 (pc := 139) (2002875240) kj_Mo_243 d_Mo_orders_139 (by decide) ?_
      refine ac_virt (pc := 142) (N := mt_Mo_isWord) _ _ mv_Mo_isWord ml_Mo_288 ck_12 d_Mo_orders_142 c3 (by first | rfl | exact sh_wheel (by omega) | exact sh_milk (by omega)) rfl rfl (Nat.le_of_ble_eq_true rfl) (Nat.le_of_eq (Nat.zero_add _)) (Nat.le_of_eq (Nat.zero_add _)) (fun r_142 G_142 h_142 => ?_)
      obtain ⟨rfl, e_142⟩ := h_142
      subst G_142
      refine ar_if_ne (pc := 145) 163 d_Mo_orders_145 (by decide) ⟨by omega, by omega⟩ (fun h_145 => by exfalso; omega) (fun h_145 => ?_)
      refine ar_aload_n (pc := 148) d_Mo_orders_148 rfl ?_
      refine ar_ldc2 (pc := 149) (422827094888) kj_Mo_245 d_Mo_orders_149 (by decide) ?_
      refine ac_virt (pc := 152) (N := mt_Mo_isWord) _ _ mv_Mo_isWord ml_Mo_288 ck_12 d_Mo_orders_152 c4 (by first | rfl | exact sh_wheel (by omega) | exact sh_milk (by omega)) rfl rfl (Nat.le_of_ble_eq_true rfl) (Nat.le_of_eq (Nat.zero_add _)) (Nat.le_of_eq (Nat.zero_add _)) (fun r_152 G_152 h_152 => ?_)
      obtain ⟨rfl, e_152⟩ := h_152
      subst G_152
      refine ar_if_ne (pc := 155) 163 d_Mo_orders_155 (by decide) ⟨by omega, by omega⟩ (fun h_155 => ?_) (fun h_155 => by exfalso; omega)
      refine ar_aload_n (pc := 163) d_Mo_orders_163 rfl ?_
      refine ar_getIv (pc := 164) gf_Mo_234 d_Mo_orders_164 (by first | rfl | exact sh_wheel (by omega) | exact sh_milk (by omega)) e36' (fun r_164 => ?_)
      refine ar_if_le (pc := 167) 172 d_Mo_orders_167 (by decide) ⟨by omega, by omega⟩ (fun h_167 => ?_) (fun h_167 => by exfalso; omega)
      refine ar_aload_n (pc := 172) d_Mo_orders_172 rfl ?_
      refine ar_getR (pc := 173) gf_Mo_86 d_Mo_orders_173 (by first | rfl | exact sh_wheel (by omega) | exact sh_milk (by omega)) (hF _ _ _ rfl) ?_
      refine ar_aload_n (pc := 176) d_Mo_orders_176 rfl ?_
      refine ar_getIv (pc := 177) gf_Mo_328 d_Mo_orders_177 (by first | rfl | exact sh_wheel (by omega) | exact sh_milk (by omega)) e31 (fun r_177 => ?_)
      refine ar_aload_n (pc := 180) d_Mo_orders_180 rfl ?_
      refine ar_ldc2 (pc := 181) (1953854062) kj_Mo_241 d_Mo_orders_181 (by decide) ?_
      refine ac_virt (pc := 184) (N := mt_Mo_isWord) _ _ mv_Mo_isWord ml_Mo_288 ck_12 d_Mo_orders_184 c2 (by first | rfl | exact sh_wheel (by omega) | exact sh_milk (by omega)) rfl rfl (Nat.le_of_ble_eq_true rfl) (Nat.le_of_eq (Nat.zero_add _)) (Nat.le_of_eq (Nat.zero_add _)) (fun r_184 G_184 h_184 => ?_)
      obtain ⟨rfl, e_184⟩ := h_184
      subst G_184
      refine ar_if_eq (pc := 187) 194 d_Mo_orders_187 (by decide) ⟨by omega, by omega⟩ (fun h_187 => ?_) (fun h_187 => by exfalso; omega)
      refine ar_aload_n (pc := 194) d_Mo_orders_194 rfl ?_
      refine ar_ldc2 (pc := 195) (2002875240) kj_Mo_243 d_Mo_orders_195 (by decide) ?_
      refine ac_virt (pc := 198) (N := mt_Mo_isWord) _ _ mv_Mo_isWord ml_Mo_288 ck_12 d_Mo_orders_198 c3 (by first | rfl | exact sh_wheel (by omega) | exact sh_milk (by omega)) rfl rfl (Nat.le_of_ble_eq_true rfl) (Nat.le_of_eq (Nat.zero_add _)) (Nat.le_of_eq (Nat.zero_add _)) (fun r_198 G_198 h_198 => ?_)
      obtain ⟨rfl, e_198⟩ := h_198
      subst G_198
      refine ar_if_eq (pc := 201) 208 d_Mo_orders_201 (by decide) ⟨by omega, by omega⟩ (fun h_201 => ?_) (fun h_201 => by exfalso; omega)
      refine ar_iconst (pc := 208) d_Mo_orders_208 ?_
      refine ar_iast (pc := 209) d_Mo_orders_209 rfl (l) (by omega) (by omega) ⟨by omega, by omega⟩ ?_
      rotate_left
      -- leaves: stop 210
      · exact ar_loc (kw 2 (by omega)) ⟨rfl, trivial⟩
theorem lp_back_b1 (X : gx_T) (d : Nat) {B : Nat → Int} {z n : Nat} {G G1 : mm_T} {i v : Nat} {o : List Int} {l : Nat} {le : Nat → Nat} {dd : Nat → Int} (hF : fx_R G) (hz : mm_I G 60 39 = z) (bb : bb_B B z) (hB : mb_v G = B) (h0 : mm_I G 60 36 = 0) (hE : te_E B z n) (h : mj_F B z G G1 i v o l (l + 1) le l dd) (hi : i ≤ n) (hl : l < 8) (k1 : tn_K B z i = 1) (hq3 : ¬ (tn_K B z (i + 1) = 2 ∨ tn_K B z (i + 1) = 3 ∨ tn_K B z (i + 1) = 4)) : aw_W X mt_Mo_orders (d + 6) 115 [(0, some (av_r (some 60)))] [] G1 0 0 (fun r G' => r = some (av_i (-1)) ∧ mjb_F G G' (fq_v (tn_K B z) (i + 1) 2) (pl_i B z (i + 1))) := by
  have hin := te_n hE hi (by omega)
  obtain ⟨hF1, -, -, e36⟩ := mj_w h hF hz hB h0
  have c125 := cm_Mo_ng X (d + 3) hF hz bb hB h0 hE h hin
  have b2 := fq_r (tn_K B z) (i + 1) (k := 2) (by omega)
  refine ar_aload_n (pc := 115) d_Mo_orders_115 rfl ?_
  refine ar_getIv (pc := 116) gf_Mo_234 d_Mo_orders_116 (by first | rfl | exact sh_wheel (by omega) | exact sh_milk (by omega)) e36 (fun r_116 => ?_)
  refine ar_if_le (pc := 119) 124 d_Mo_orders_119 (by decide) ⟨by omega, by omega⟩ (fun h_119 => ?_) (fun h_119 => by exfalso; omega)
  refine ar_aload_n (pc := 124) d_Mo_orders_124 rfl ?_
  refine ac_virt (pc := 125) (N := mt_Mo_next) _ _ mv_Mo_next ml_Mo_318 ck_12 d_Mo_orders_125 c125 (by first | rfl | exact sh_wheel (by omega) | exact sh_milk (by omega)) rfl rfl (Nat.le_of_ble_eq_true rfl) (Nat.le_of_eq (Nat.zero_add _)) (Nat.le_of_eq (Nat.zero_add _)) (fun r_125 G_125 h_125 => ?_)
  obtain ⟨rfl, q125⟩ := h_125
  rotate_left
  -- leaves: stop 128
  · obtain ⟨hF2, -, -, e36'⟩ := mj_w q125 hF hz hB h0
    have hT := q125.2.2.2.1.1
    have c2 := cm_Mo_isWord X (d + 4) (w := 2) (c := 1953854062) hT (by omega) rfl
    have c3 := cm_Mo_isWord X (d + 4) (w := 3) (c := 2002875240) hT (by omega) rfl
    have c4 := cm_Mo_isWord X (d + 4) (w := 4) (c := 422827094888) hT (by omega) rfl
    have cw := cm_Mo_wr X (d + 4) q125 e36'
    rw [if_neg (by omega)] at c2
    rw [if_neg (by omega)] at c3
    rw [if_neg (by omega)] at c4
    clear q125 hT
    refine ar_aload_n (pc := 128) d_Mo_orders_128 rfl ?_
    refine ar_ldc2 (pc := 129) (1953854062) kj_Mo_241 d_Mo_orders_129 (by decide) ?_
    refine ac_virt (pc := 132) (N := mt_Mo_isWord) _ _ mv_Mo_isWord ml_Mo_288 ck_12 d_Mo_orders_132 c2 (by first | rfl | exact sh_wheel (by omega) | exact sh_milk (by omega)) rfl rfl (Nat.le_of_ble_eq_true rfl) (Nat.le_of_eq (Nat.zero_add _)) (Nat.le_of_eq (Nat.zero_add _)) (fun r_132 G_132 h_132 => ?_)
    obtain ⟨rfl, e_132⟩ := h_132
    subst G_132
    refine ar_if_ne (pc := 135) 163 d_Mo_orders_135 (by decide) ⟨by omega, by omega⟩ (fun h_135 => by exfalso; omega) (fun h_135 => ?_)
    refine ar_aload_n (pc := 138) d_Mo_orders_138 rfl ?_
    refine ar_ldc2 (pc := 139) (2002875240) kj_Mo_243 d_Mo_orders_139 (by decide) ?_
    refine ac_virt (pc := 142) (N := mt_Mo_isWord) _ _ mv_Mo_isWord ml_Mo_288 ck_12 d_Mo_orders_142 c3 (by first | rfl | exact sh_wheel (by omega) | exact sh_milk (by omega)) rfl rfl (Nat.le_of_ble_eq_true rfl) (Nat.le_of_eq (Nat.zero_add _)) (Nat.le_of_eq (Nat.zero_add _)) (fun r_142 G_142 h_142 => ?_)
    obtain ⟨rfl, e_142⟩ := h_142
    subst G_142
    refine ar_if_ne (pc := 145) 163 d_Mo_orders_145 (by decide) ⟨by omega, by omega⟩ (fun h_145 => by exfalso; omega) (fun h_145 => ?_)
    refine ar_aload_n (pc := 148) d_Mo_orders_148 rfl ?_
    refine ar_ldc2 (pc := 149) (422827094888) kj_Mo_245 d_Mo_orders_149 (by decide) ?_
    refine ac_virt (pc := 152) (N := mt_Mo_isWord) _ _ mv_Mo_isWord ml_Mo_288 ck_12 d_Mo_orders_152 c4 (by first | rfl | exact sh_wheel (by omega) | exact sh_milk (by omega)) rfl rfl (Nat.le_of_ble_eq_true rfl) (Nat.le_of_eq (Nat.zero_add _)) (Nat.le_of_eq (Nat.zero_add _)) (fun r_152 G_152 h_152 => ?_)
    obtain ⟨rfl, e_152⟩ := h_152
    subst G_152
    refine ar_if_ne (pc := 155) 163 d_Mo_orders_155 (by decide) ⟨by omega, by omega⟩ (fun h_155 => by exfalso; omega) (fun h_155 => ?_)
    refine ar_aload_n (pc := 158) d_Mo_orders_158 rfl ?_
    refine ar_iconst (pc := 159) d_Mo_orders_159 ?_
    refine ac_virt (pc := 160) (N := mt_Mo_wrong) _ _ mv_Mo_wrong ml_Mo_309 ck_12 d_Mo_orders_160 cw (by first | rfl | exact sh_wheel (by omega) | exact sh_milk (by omega)) rfl rfl (Nat.le_of_ble_eq_true rfl) (Nat.le_of_eq (Nat.zero_add _)) (Nat.le_of_eq (Nat.zero_add _)) (fun r_160 G_160 h_160 => ?_)
    obtain ⟨rfl, q160⟩ := h_160
    refine ar_aload_n (pc := 163) d_Mo_orders_163 rfl ?_
    refine ar_getIv (pc := 164) gf_Mo_234 d_Mo_orders_164 (by first | rfl | exact sh_wheel (by omega) | exact sh_milk (by omega)) (mjb_e q160) (fun r_164 => ?_)
    refine ar_if_le (pc := 167) 172 d_Mo_orders_167 (by decide) ⟨by omega, by omega⟩ (fun h_167 => by exfalso; omega) (fun h_167 => ?_)
    refine ar_iconst (pc := 170) d_Mo_orders_170 ?_
    refine ar_iret (pc := 171) d_Mo_orders_171 rfl ?_
    rotate_left
    -- leaves: ret 171
    · exact ⟨rfl, q160⟩
theorem lp_back_b2 (X : gx_T) (d : Nat) {B : Nat → Int} {z n : Nat} {G G1 : mm_T} {i v : Nat} {o : List Int} {l : Nat} {le : Nat → Nat} {dd : Nat → Int} (hF : fx_R G) (hz : mm_I G 60 39 = z) (bb : bb_B B z) (hB : mb_v G = B) (h0 : mm_I G 60 36 = 0) (hE : te_E B z n) (h : mj_F B z G G1 i v o l (l + 1) le l dd) (hi : i ≤ n) (hl : l < 8) (k1 : tn_K B z i = 1) (hq3 : tn_K B z (i + 1) = 2 ∨ tn_K B z (i + 1) = 3 ∨ tn_K B z (i + 1) = 4) (k59 : tn_K B z (i + 2) ≠ 59) : aw_W X mt_Mo_orders (d + 6) 115 [(0, some (av_r (some 60)))] [] G1 0 0 (fun r G' => r = some (av_i (-1)) ∧ mjb_F G G' (fq_v (tn_K B z) (i + 2) 2) (pl_i B z (i + 2))) := by
  have hin := te_n hE hi (by omega)
  have hin1 := te_n hE (i := i + 1) (by omega) (by omega)
  obtain ⟨hF1, -, -, e36⟩ := mj_w h hF hz hB h0
  have c125 := cm_Mo_ng X (d + 3) hF hz bb hB h0 hE h hin
  have b2 := fq_r (tn_K B z) (i + 2) (k := 2) (by omega)
  have k3 : ∀ G3, mj_F B z G G3 (i + 1) v o l (l + 1) le (l + 1) (upp dd l (tn_K B z (i + 1))) → aw_W X mt_Mo_orders (d + 6) 210 [(0, some (av_r (some 60)))] [] G3 0 0 (fun r G' => r = some (av_i (-1)) ∧ mjb_F G G' (fq_v (tn_K B z) (i + 2) 2) (pl_i B z (i + 2))) := by
    intro G3 h3
    have c211 := cm_Mo_ng X (d + 3) hF hz bb hB h0 hE h3 hin1
    refine ar_aload_n (pc := 210) d_Mo_orders_210 rfl ?_
    refine ac_virt (pc := 211) (N := mt_Mo_next) _ _ mv_Mo_next ml_Mo_318 ck_12 d_Mo_orders_211 c211 (by first | rfl | exact sh_wheel (by omega) | exact sh_milk (by omega)) rfl rfl (Nat.le_of_ble_eq_true rfl) (Nat.le_of_eq (Nat.zero_add _)) (Nat.le_of_eq (Nat.zero_add _)) (fun r_211 G_211 h_211 => ?_)
    obtain ⟨rfl, q211⟩ := h_211
    rotate_left
    -- leaves: stop 214
    · have t2 := q211.2.2.2.1.1.2.1
      unfold tw_R at t2
      rw [is_sv] at t2
      obtain ⟨hF4, -, -, e36'⟩ := mj_w q211 hF hz hB h0
      have cw := cm_Mo_wr X (d + 4) q211 e36'
      generalize hs : mm_I G_211 60 40 = s at *
      have kr := tk_r (B := B) (z := z) (a := ps_k B z (i + 1 + 1)) bb
      change 0 ≤ tn_K B z (i + 1 + 1) ∧ tn_K B z (i + 1 + 1) ≤ 303 at kr
      have k59' : tn_K B z (i + 1 + 1) ≠ 59 := k59
      have b2' : 1 ≤ fq_v (tn_K B z) (i + 1 + 1) 2 ∧ fq_v (tn_K B z) (i + 1 + 1) 2 ≤ 3 := b2
      have hs59 : s ≠ 59 ∧ i3_in s := by omega
      clear t2 q211
      refine ar_aload_n (pc := 214) d_Mo_orders_214 rfl ?_
      refine ar_getIv (pc := 215) gf_Mo_222 d_Mo_orders_215 (by first | rfl | exact sh_wheel (by omega) | exact sh_milk (by omega)) hs (fun r_215 => ?_)
      refine ar_bipush (pc := 218) d_Mo_orders_218 (by decide) ?_
      refine ar_icmp_eq (pc := 220) 228 d_Mo_orders_220 (by decide) ⟨by omega, by omega⟩ ⟨by omega, by omega⟩ (fun h_220 => by exfalso; omega) (fun h_220 => ?_)
      refine ar_aload_n (pc := 223) d_Mo_orders_223 rfl ?_
      refine ar_iconst (pc := 224) d_Mo_orders_224 ?_
      refine ac_virt (pc := 225) (N := mt_Mo_wrong) _ _ mv_Mo_wrong ml_Mo_309 ck_12 d_Mo_orders_225 cw (by first | rfl | exact sh_wheel (by omega) | exact sh_milk (by omega)) rfl rfl (Nat.le_of_ble_eq_true rfl) (Nat.le_of_eq (Nat.zero_add _)) (Nat.le_of_eq (Nat.zero_add _)) (fun r_225 G_225 h_225 => ?_)
      obtain ⟨rfl, q225⟩ := h_225
      refine ar_aload_n (pc := 228) d_Mo_orders_228 rfl ?_
      refine ar_getIv (pc := 229) gf_Mo_234 d_Mo_orders_229 (by first | rfl | exact sh_wheel (by omega) | exact sh_milk (by omega)) (mjb_e q225) (fun r_229 => ?_)
      refine ar_if_le (pc := 232) 237 d_Mo_orders_232 (by decide) ⟨by omega, by omega⟩ (fun h_232 => by exfalso; omega) (fun h_232 => ?_)
      refine ar_iconst (pc := 235) d_Mo_orders_235 ?_
      refine ar_iret (pc := 236) d_Mo_orders_236 rfl ?_
      rotate_left
      -- leaves: ret 236
      · exact ⟨rfl, q225⟩
  refine ar_aload_n (pc := 115) d_Mo_orders_115 rfl ?_
  refine ar_getIv (pc := 116) gf_Mo_234 d_Mo_orders_116 (by first | rfl | exact sh_wheel (by omega) | exact sh_milk (by omega)) e36 (fun r_116 => ?_)
  refine ar_if_le (pc := 119) 124 d_Mo_orders_119 (by decide) ⟨by omega, by omega⟩ (fun h_119 => ?_) (fun h_119 => by exfalso; omega)
  refine ar_aload_n (pc := 124) d_Mo_orders_124 rfl ?_
  refine ac_virt (pc := 125) (N := mt_Mo_next) _ _ mv_Mo_next ml_Mo_318 ck_12 d_Mo_orders_125 c125 (by first | rfl | exact sh_wheel (by omega) | exact sh_milk (by omega)) rfl rfl (Nat.le_of_ble_eq_true rfl) (Nat.le_of_eq (Nat.zero_add _)) (Nat.le_of_eq (Nat.zero_add _)) (fun r_125 G_125 h_125 => ?_)
  obtain ⟨rfl, q125⟩ := h_125
  rotate_left
  -- leaves: stop 128
  · obtain ⟨hF2, -, -, e36'⟩ := mj_w q125 hF hz hB h0
    have e31 := q125.2.2.2.2.1
    have hT := q125.2.2.2.1.1
    have c2 := cm_Mo_isWord X (d + 4) (w := 2) (c := 1953854062) hT (by omega) rfl
    have c3 := cm_Mo_isWord X (d + 4) (w := 3) (c := 2002875240) hT (by omega) rfl
    have c4 := cm_Mo_isWord X (d + 4) (w := 4) (c := 422827094888) hT (by omega) rfl
    have kw := fun x (hx : x = tn_K B z (i + 1) - 2) => k3 _ (mj_do q125 hx)
    clear k3 q125 hT
    have hF := hF2
    rcases hq3 with e | e | e
    · rw [if_pos (by omega)] at c2
      refine ar_aload_n (pc := 128) d_Mo_orders_128 rfl ?_
      refine ar_ldc2 (pc := 129) (1953854062) kj_Mo_241 d_Mo_orders_129 (by decide) ?_
      refine ac_virt (pc := 132) (N := mt_Mo_isWord) _ _ mv_Mo_isWord ml_Mo_288 ck_12 d_Mo_orders_132 c2 (by first | rfl | exact sh_wheel (by omega) | exact sh_milk (by omega)) rfl rfl (Nat.le_of_ble_eq_true rfl) (Nat.le_of_eq (Nat.zero_add _)) (Nat.le_of_eq (Nat.zero_add _)) (fun r_132 G_132 h_132 => ?_)
      obtain ⟨rfl, e_132⟩ := h_132
      subst G_132
      refine ar_if_ne (pc := 135) 163 d_Mo_orders_135 (by decide) ⟨by omega, by omega⟩ (fun h_135 => ?_) (fun h_135 => by exfalso; omega)
      refine ar_aload_n (pc := 163) d_Mo_orders_163 rfl ?_
      refine ar_getIv (pc := 164) gf_Mo_234 d_Mo_orders_164 (by first | rfl | exact sh_wheel (by omega) | exact sh_milk (by omega)) e36' (fun r_164 => ?_)
      refine ar_if_le (pc := 167) 172 d_Mo_orders_167 (by decide) ⟨by omega, by omega⟩ (fun h_167 => ?_) (fun h_167 => by exfalso; omega)
      refine ar_aload_n (pc := 172) d_Mo_orders_172 rfl ?_
      refine ar_getR (pc := 173) gf_Mo_86 d_Mo_orders_173 (by first | rfl | exact sh_wheel (by omega) | exact sh_milk (by omega)) (hF _ _ _ rfl) ?_
      refine ar_aload_n (pc := 176) d_Mo_orders_176 rfl ?_
      refine ar_getIv (pc := 177) gf_Mo_328 d_Mo_orders_177 (by first | rfl | exact sh_wheel (by omega) | exact sh_milk (by omega)) e31 (fun r_177 => ?_)
      refine ar_aload_n (pc := 180) d_Mo_orders_180 rfl ?_
      refine ar_ldc2 (pc := 181) (1953854062) kj_Mo_241 d_Mo_orders_181 (by decide) ?_
      refine ac_virt (pc := 184) (N := mt_Mo_isWord) _ _ mv_Mo_isWord ml_Mo_288 ck_12 d_Mo_orders_184 c2 (by first | rfl | exact sh_wheel (by omega) | exact sh_milk (by omega)) rfl rfl (Nat.le_of_ble_eq_true rfl) (Nat.le_of_eq (Nat.zero_add _)) (Nat.le_of_eq (Nat.zero_add _)) (fun r_184 G_184 h_184 => ?_)
      obtain ⟨rfl, e_184⟩ := h_184
      subst G_184
      refine ar_if_eq (pc := 187) 194 d_Mo_orders_187 (by decide) ⟨by omega, by omega⟩ (fun h_187 => by exfalso; omega) (fun h_187 => ?_)
      refine ar_iconst (pc := 190) d_Mo_orders_190 ?_
      refine ar_goto (pc := 191) 209 d_Mo_orders_191 (by decide) ?_
      refine ar_iast (pc := 209) d_Mo_orders_209 rfl (l) (by omega) (by omega) ⟨by omega, by omega⟩ ?_
      rotate_left
      -- leaves: stop 210
      · exact ar_loc (kw 0 (by omega)) ⟨rfl, trivial⟩
    · rw [if_neg (by omega)] at c2
      rw [if_pos (by omega)] at c3
      refine ar_aload_n (pc := 128) d_Mo_orders_128 rfl ?_
      refine ar_ldc2 (pc := 129) (1953854062) kj_Mo_241 d_Mo_orders_129 (by decide) ?_
      refine ac_virt (pc := 132) (N := mt_Mo_isWord) _ _ mv_Mo_isWord ml_Mo_288 ck_12 d_Mo_orders_132 c2 (by first | rfl | exact sh_wheel (by omega) | exact sh_milk (by omega)) rfl rfl (Nat.le_of_ble_eq_true rfl) (Nat.le_of_eq (Nat.zero_add _)) (Nat.le_of_eq (Nat.zero_add _)) (fun r_132 G_132 h_132 => ?_)
      obtain ⟨rfl, e_132⟩ := h_132
      subst G_132
      refine ar_if_ne (pc := 135) 163 d_Mo_orders_135 (by decide) ⟨by omega, by omega⟩ (fun h_135 => by exfalso; omega) (fun h_135 => ?_)
      refine ar_aload_n (pc := 138) d_Mo_orders_138 rfl ?_
      refine ar_ldc2 (pc := 139) (2002875240) kj_Mo_243 d_Mo_orders_139 (by decide) ?_
      refine ac_virt (pc := 142) (N := mt_Mo_isWord) _ _ mv_Mo_isWord ml_Mo_288 ck_12 d_Mo_orders_142 c3 (by first | rfl | exact sh_wheel (by omega) | exact sh_milk (by omega)) rfl rfl (Nat.le_of_ble_eq_true rfl) (Nat.le_of_eq (Nat.zero_add _)) (Nat.le_of_eq (Nat.zero_add _)) (fun r_142 G_142 h_142 => ?_)
      obtain ⟨rfl, e_142⟩ := h_142
      subst G_142
      refine ar_if_ne (pc := 145) 163 d_Mo_orders_145 (by decide) ⟨by omega, by omega⟩ (fun h_145 => ?_) (fun h_145 => by exfalso; omega)
      refine ar_aload_n (pc := 163) d_Mo_orders_163 rfl ?_
      refine ar_getIv (pc := 164) gf_Mo_234 d_Mo_orders_164 (by first | rfl | exact sh_wheel (by omega) | exact sh_milk (by omega)) e36' (fun r_164 => ?_)
      refine ar_if_le (pc := 167) 172 d_Mo_orders_167 (by decide) ⟨by omega, by omega⟩ (fun h_167 => ?_) (fun h_167 => by exfalso; omega)
      refine ar_aload_n (pc := 172) d_Mo_orders_172 rfl ?_
      refine ar_getR (pc := 173) gf_Mo_86 d_Mo_orders_173 (by first | rfl | exact sh_wheel (by omega) | exact sh_milk (by omega)) (hF _ _ _ rfl) ?_
      refine ar_aload_n (pc := 176) d_Mo_orders_176 rfl ?_
      refine ar_getIv (pc := 177) gf_Mo_328 d_Mo_orders_177 (by first | rfl | exact sh_wheel (by omega) | exact sh_milk (by omega)) e31 (fun r_177 => ?_)
      refine ar_aload_n (pc := 180) d_Mo_orders_180 rfl ?_
      refine ar_ldc2 (pc := 181) (1953854062) kj_Mo_241 d_Mo_orders_181 (by decide) ?_
      refine ac_virt (pc := 184) (N := mt_Mo_isWord) _ _ mv_Mo_isWord ml_Mo_288 ck_12 d_Mo_orders_184 c2 (by first | rfl | exact sh_wheel (by omega) | exact sh_milk (by omega)) rfl rfl (Nat.le_of_ble_eq_true rfl) (Nat.le_of_eq (Nat.zero_add _)) (Nat.le_of_eq (Nat.zero_add _)) (fun r_184 G_184 h_184 => ?_)
      obtain ⟨rfl, e_184⟩ := h_184
      subst G_184
      refine ar_if_eq (pc := 187) 194 d_Mo_orders_187 (by decide) ⟨by omega, by omega⟩ (fun h_187 => ?_) (fun h_187 => by exfalso; omega)
      refine ar_aload_n (pc := 194) d_Mo_orders_194 rfl ?_
      refine ar_ldc2 (pc := 195) (2002875240) kj_Mo_243 d_Mo_orders_195 (by decide) ?_
      refine ac_virt (pc := 198) (N := mt_Mo_isWord) _ _ mv_Mo_isWord ml_Mo_288 ck_12 d_Mo_orders_198 c3 (by first | rfl | exact sh_wheel (by omega) | exact sh_milk (by omega)) rfl rfl (Nat.le_of_ble_eq_true rfl) (Nat.le_of_eq (Nat.zero_add _)) (Nat.le_of_eq (Nat.zero_add _)) (fun r_198 G_198 h_198 => ?_)
      obtain ⟨rfl, e_198⟩ := h_198
      subst G_198
      refine ar_if_eq (pc := 201) 208 d_Mo_orders_201 (by decide) ⟨by omega, by omega⟩ (fun h_201 => by exfalso; omega) (fun h_201 => ?_)
      refine ar_iconst (pc := 204) d_Mo_orders_204 ?_
      refine ar_goto (pc := 205) 209 d_Mo_orders_205 (by decide) ?_
      refine ar_iast (pc := 209) d_Mo_orders_209 rfl (l) (by omega) (by omega) ⟨by omega, by omega⟩ ?_
      rotate_left
      -- leaves: stop 210
      · exact ar_loc (kw 1 (by omega)) ⟨rfl, trivial⟩
    · rw [if_neg (by omega)] at c2
      rw [if_neg (by omega)] at c3
      rw [if_pos (by omega)] at c4
      refine ar_aload_n (pc := 128) d_Mo_orders_128 rfl ?_
      refine ar_ldc2 (pc := 129) (1953854062) kj_Mo_241 d_Mo_orders_129 (by decide) ?_
      refine ac_virt (pc := 132) (N := mt_Mo_isWord) _ _ mv_Mo_isWord ml_Mo_288 ck_12 d_Mo_orders_132 c2 (by first | rfl | exact sh_wheel (by omega) | exact sh_milk (by omega)) rfl rfl (Nat.le_of_ble_eq_true rfl) (Nat.le_of_eq (Nat.zero_add _)) (Nat.le_of_eq (Nat.zero_add _)) (fun r_132 G_132 h_132 => ?_)
      obtain ⟨rfl, e_132⟩ := h_132
      subst G_132
      refine ar_if_ne (pc := 135) 163 d_Mo_orders_135 (by decide) ⟨by omega, by omega⟩ (fun h_135 => by exfalso; omega) (fun h_135 => ?_)
      refine ar_aload_n (pc := 138) d_Mo_orders_138 rfl ?_
      refine ar_ldc2 (pc := 139) (2002875240) kj_Mo_243 d_Mo_orders_139 (by decide) ?_
      refine ac_virt (pc := 142) (N := mt_Mo_isWord) _ _ mv_Mo_isWord ml_Mo_288 ck_12 d_Mo_orders_142 c3 (by first | rfl | exact sh_wheel (by omega) | exact sh_milk (by omega)) rfl rfl (Nat.le_of_ble_eq_true rfl) (Nat.le_of_eq (Nat.zero_add _)) (Nat.le_of_eq (Nat.zero_add _)) (fun r_142 G_142 h_142 => ?_)
      obtain ⟨rfl, e_142⟩ := h_142
      subst G_142
      refine ar_if_ne (pc := 145) 163 d_Mo_orders_145 (by decide) ⟨by omega, by omega⟩ (fun h_145 => by exfalso; omega) (fun h_145 => ?_)
      refine ar_aload_n (pc := 148) d_Mo_orders_148 rfl ?_
      refine ar_ldc2 (pc := 149) (422827094888) kj_Mo_245 d_Mo_orders_149 (by decide) ?_
      refine ac_virt (pc := 152) (N := mt_Mo_isWord) _ _ mv_Mo_isWord ml_Mo_288 ck_12 d_Mo_orders_152 c4 (by first | rfl | exact sh_wheel (by omega) | exact sh_milk (by omega)) rfl rfl (Nat.le_of_ble_eq_true rfl) (Nat.le_of_eq (Nat.zero_add _)) (Nat.le_of_eq (Nat.zero_add _)) (fun r_152 G_152 h_152 => ?_)
      obtain ⟨rfl, e_152⟩ := h_152
      subst G_152
      refine ar_if_ne (pc := 155) 163 d_Mo_orders_155 (by decide) ⟨by omega, by omega⟩ (fun h_155 => ?_) (fun h_155 => by exfalso; omega)
      refine ar_aload_n (pc := 163) d_Mo_orders_163 rfl ?_
      refine ar_getIv (pc := 164) gf_Mo_234 d_Mo_orders_164 (by first | rfl | exact sh_wheel (by omega) | exact sh_milk (by omega)) e36' (fun r_164 => ?_)
      refine ar_if_le (pc := 167) 172 d_Mo_orders_167 (by decide) ⟨by omega, by omega⟩ (fun h_167 => ?_) (fun h_167 => by exfalso; omega)
      refine ar_aload_n (pc := 172) d_Mo_orders_172 rfl ?_
      refine ar_getR (pc := 173) gf_Mo_86 d_Mo_orders_173 (by first | rfl | exact sh_wheel (by omega) | exact sh_milk (by omega)) (hF _ _ _ rfl) ?_
      refine ar_aload_n (pc := 176) d_Mo_orders_176 rfl ?_
      refine ar_getIv (pc := 177) gf_Mo_328 d_Mo_orders_177 (by first | rfl | exact sh_wheel (by omega) | exact sh_milk (by omega)) e31 (fun r_177 => ?_)
      refine ar_aload_n (pc := 180) d_Mo_orders_180 rfl ?_
      refine ar_ldc2 (pc := 181) (1953854062) kj_Mo_241 d_Mo_orders_181 (by decide) ?_
      refine ac_virt (pc := 184) (N := mt_Mo_isWord) _ _ mv_Mo_isWord ml_Mo_288 ck_12 d_Mo_orders_184 c2 (by first | rfl | exact sh_wheel (by omega) | exact sh_milk (by omega)) rfl rfl (Nat.le_of_ble_eq_true rfl) (Nat.le_of_eq (Nat.zero_add _)) (Nat.le_of_eq (Nat.zero_add _)) (fun r_184 G_184 h_184 => ?_)
      obtain ⟨rfl, e_184⟩ := h_184
      subst G_184
      refine ar_if_eq (pc := 187) 194 d_Mo_orders_187 (by decide) ⟨by omega, by omega⟩ (fun h_187 => ?_) (fun h_187 => by exfalso; omega)
      refine ar_aload_n (pc := 194) d_Mo_orders_194 rfl ?_
      refine ar_ldc2 (pc := 195) (2002875240) kj_Mo_243 d_Mo_orders_195 (by decide) ?_
      refine ac_virt (pc := 198) (N := mt_Mo_isWord) _ _ mv_Mo_isWord ml_Mo_288 ck_12 d_Mo_orders_198 c3 (by first | rfl | exact sh_wheel (by omega) | exact sh_milk (by omega)) rfl rfl (Nat.le_of_ble_eq_true rfl) (Nat.le_of_eq (Nat.zero_add _)) (Nat.le_of_eq (Nat.zero_add _)) (fun r_198 G_198 h_198 => ?_)
      obtain ⟨rfl, e_198⟩ := h_198
      subst G_198
      refine ar_if_eq (pc := 201) 208 d_Mo_orders_201 (by decide) ⟨by omega, by omega⟩ (fun h_201 => ?_) (fun h_201 => by exfalso; omega)
      refine ar_iconst (pc := 208) d_Mo_orders_208 ?_
      refine ar_iast (pc := 209) d_Mo_orders_209 rfl (l) (by omega) (by omega) ⟨by omega, by omega⟩ ?_
      rotate_left
      -- leaves: stop 210
      · exact ar_loc (kw 2 (by omega)) ⟨rfl, trivial⟩
/-- what comes of an e -/
theorem e_ok {K P N : Nat → Int} {i v i1 v1 : Nat} {o o1 : List Int} (h : s_or K P N 0 i v o i1 v1 o1) (k1 : K i1 = 1) : ∃ W o2, rc_R K P N (.inr (0, i, v, [], o)) (.inr (2, i1, v1, W, o2)) ∧ tm_T K (.inr (2, i1, v1, W, o2)) ∧ (pp_s 0 W o2).2 = o1 := by
  obtain ⟨Q, o2, h1, h2, h3, -⟩ := h.2 [] rfl (Or.inl rfl)
  rw [List.append_nil] at h1
  refine ⟨Q, o2, h1, Or.inr ⟨i1, v1, Q, o2, rfl, k1, fun q => by have := h3 48 q; omega⟩, ?_⟩
  have := pp_sa (l := 0) Q [] o2 (fun x hx => by have := h3 x hx; omega)
  rw [List.append_nil] at this
  rw [this, ← h2]; rfl
theorem e_no {K P N : Nat → Int} {i v i1 v1 : Nat} {o o1 : List Int} (h : s_or K P N 0 i v o i1 v1 o1) (k1 : K i1 ≠ 1) : rc_R K P N (.inr (0, i, v, [], o)) (.inl (fq_v K i1 2, P i1)) := by
  obtain ⟨Q, o2, h1, h2, h3, h4⟩ := h.2 [] rfl (Or.inl rfl)
  exact rc_t h1 (rc_g (Or.inl k1) (e_bad h.1 h4 (fun q => by
    rw [List.append_nil] at q
    have := h3 48 q.2; omega)))
def lq_I (n i v : Nat) (o : List Int) (l : Nat) (le : Nat → Nat) : Prop := i ≤ n ∧ v ≤ 80 ∧ o.length ≤ i ∧ l ≤ 8 ∧ le l = o.length
theorem ln_q {B : Nat → Int} {z n i v i' v' : Nat} {o o' : List Int} {l : Nat} {le : Nat → Nat} {q : Int} (bb : bb_B B z) (hE : te_E B z n) (hI : lq_I n i v o l le) (hl : l < 8) (h : ln_ok (tn_K B z) (pl_i B z) (tn_M B z) i v o i' v' o' q) : lq_I n i' v' o' (l + 1) (upn le (l + 1) o'.length) ∧ ∃ e, o' = o ++ e ∧ wq_R e 0 1 := by
  obtain ⟨k0, i1, hs, k1, hq, hq3, k59, rfl⟩ := h
  obtain ⟨h1, h2, h3, h4, h5⟩ := hI
  have hin := te_n hE h1 (by omega)
  obtain ⟨e, w1, w2, w3, w4, w5⟩ := e_wq (n := n) hE.2 (fun k _ => (tm_r bb).1) h2 (by omega) (by omega) hs
  have j1 := te_n hE w3 (by omega)
  have j2 := te_n hE (i := i1 + 1) (by omega) (by omega)
  have j3 := te_n hE (i := i1 + 2) (by omega) (by omega)
  refine ⟨⟨by omega, w4, by omega, by omega, ?_⟩, e, w1, w2⟩
  unfold upn; rw [if_pos rfl]
theorem mo_line (X : gx_T) (d : Nat) {B : Nat → Int} {z n : Nat} {G G1 : mm_T} {i v : Nat} {o : List Int} {l : Nat} {le : Nat → Nat} {dd : Nat → Int} {i' v' : Nat} {o' : List Int} {q : Int} {Q : Option av_T → mm_T → Prop} (hF : fx_R G) (hz : mm_I G 60 39 = z) (bb : bb_B B z) (hB : mb_v G = B) (h0 : mm_I G 60 36 = 0) (hE : te_E B z n) (h : mj_F B z G G1 i v o l l le l dd) (hI : lq_I n i v o l le) (hl : l < 8) (hk : ln_ok (tn_K B z) (pl_i B z) (tn_M B z) i v o i' v' o' q)
    (kk : ∀ G2, mj_F B z G G2 i' v' o' (l + 1) (l + 1) (upn le (l + 1) o'.length) (l + 1) (upp dd l q) → aw_W X mt_Mo_orders (d + 6) 47 [(0, some (av_r (some 60)))] [] G2 0 0 Q) : aw_W X mt_Mo_orders (d + 6) 47 [(0, some (av_r (some 60)))] [] G1 0 0 Q := by
  obtain ⟨k0, i1, hs, k1, hq, hq3, k59, rfl⟩ := hk
  obtain ⟨h1, h2, h3, h4, h5⟩ := hI
  have hin := te_n hE h1 (by omega)
  obtain ⟨e, w1, w2, w3, w4, w5⟩ := e_wq (n := n) hE.2 (fun k _ => (tm_r bb).1) h2 (by omega) (by omega) hs
  obtain ⟨W, o2, r1, r2, r3⟩ := e_ok hs k1
  refine lp_front X d hF hz bb hB h0 hE h h5 h1 h2 h3 hl k0 r2 r1 ?_ (fun G4 k p e => by cases e)
  intro G4 i2 v2 W2 o3 e4 h4'
  cases e4
  rw [r3] at h4'
  refine lp_back_ok X d hF hz bb hB h0 hE h4' w3 hl k1 hq hq3 k59 (fun G2 h2' => kk G2 (mj_le h2' (fun j hj => ?_)))
  unfold upn; rw [if_neg (by omega)]
theorem mo_lineb (X : gx_T) (d : Nat) {B : Nat → Int} {z n : Nat} {G G1 : mm_T} {i v : Nat} {o : List Int} {l : Nat} {le : Nat → Nat} {dd : Nat → Int} {k p : Int} (hF : fx_R G) (hz : mm_I G 60 39 = z) (bb : bb_B B z) (hB : mb_v G = B) (h0 : mm_I G 60 36 = 0) (hE : te_E B z n) (h : mj_F B z G G1 i v o l l le l dd) (hI : lq_I n i v o l le) (hl : l < 8) (k301 : tn_K B z i ≠ 301) (hk : ln_bad (tn_K B z) (pl_i B z) (tn_M B z) i v o k p) : aw_W X mt_Mo_orders (d + 6) 47 [(0, some (av_r (some 60)))] [] G1 0 0 (fun r G' => r = some (av_i (-1)) ∧ mjb_F G G' k p) := by
  obtain ⟨h1, h2, h3, h4, h5⟩ := hI
  have fault : ∀ G4 k p, (1 ≤ k ∧ k ≤ 3) → mjb_F G G4 k p → aw_W X mt_Mo_orders (d + 6) 115 [(0, some (av_r (some 60)))] [] G4 0 0 (fun r G' => r = some (av_i (-1)) ∧ mjb_F G G' k p) := by
    intro G4 k p hk hb
    have e36 := mjb_e hb
    refine ar_aload_n (pc := 115) d_Mo_orders_115 rfl ?_
    refine ar_getIv (pc := 116) gf_Mo_234 d_Mo_orders_116 (by first | rfl | exact sh_wheel (by omega) | exact sh_milk (by omega)) e36 (fun r_116 => ?_)
    refine ar_if_le (pc := 119) 124 d_Mo_orders_119 (by decide) ⟨by omega, by omega⟩ (fun h_119 => by exfalso; omega) (fun h_119 => ?_)
    refine ar_iconst (pc := 122) d_Mo_orders_122 ?_
    refine ar_iret (pc := 123) d_Mo_orders_123 rfl ?_
    rotate_left
    -- leaves: ret 123
    · exact ⟨rfl, hb⟩
  rcases hk with ⟨k0, rfl, rfl⟩ | ⟨k0, hb⟩ | ⟨k0, i1, v1, o1, hs, hb⟩
  · obtain ⟨hF1, -, -, e36⟩ := mj_w h hF hz hB h0
    have t2 := h.2.2.2.1.1.2.1
    unfold tw_R at t2
    rw [is_sv] at t2
    have kr := tk_r (B := B) (z := z) (a := ps_k B z i) bb
    change 0 ≤ tn_K B z i ∧ tn_K B z i ≤ 303 at kr
    have c65 := cm_Mo_isWord X (d + 4) (w := 0) (c := 2003330414) h.2.2.2.1.1 (by omega) rfl
    rw [if_neg (by omega)] at c65
    have cw := cm_Mo_wr X (d + 4) h e36
    have b2 := fq_r (tn_K B z) i (k := 2) (by omega)
    generalize hs : mm_I G1 60 40 = s at *
    have hs0 : s ≠ 0 ∧ i3_in s := by omega
    clear t2 h fault
    refine ar_aload_n (pc := 47) d_Mo_orders_47 rfl ?_
    refine ar_getIv (pc := 48) gf_Mo_234 d_Mo_orders_48 (by first | rfl | exact sh_wheel (by omega) | exact sh_milk (by omega)) e36 (fun r_48 => ?_)
    refine ar_if_ne (pc := 51) 254 d_Mo_orders_51 (by decide) ⟨by omega, by omega⟩ (fun h_51 => by exfalso; omega) (fun h_51 => ?_)
    refine ar_aload_n (pc := 54) d_Mo_orders_54 rfl ?_
    refine ar_getIv (pc := 55) gf_Mo_222 d_Mo_orders_55 (by first | rfl | exact sh_wheel (by omega) | exact sh_milk (by omega)) hs (fun r_55 => ?_)
    refine ar_if_eq (pc := 58) 254 d_Mo_orders_58 (by decide) ⟨by omega, by omega⟩ (fun h_58 => by exfalso; omega) (fun h_58 => ?_)
    refine ar_aload_n (pc := 61) d_Mo_orders_61 rfl ?_
    refine ar_ldc2 (pc := 62) (2003330414) kj_Mo_237 d_Mo_orders_62 (by decide) ?_
    refine ac_virt (pc := 65) (N := mt_Mo_isWord) _ _ mv_Mo_isWord ml_Mo_288 ck_12 d_Mo_orders_65 c65 (by first | rfl | exact sh_wheel (by omega) | exact sh_milk (by omega)) rfl rfl (Nat.le_of_ble_eq_true rfl) (Nat.le_of_eq (Nat.zero_add _)) (Nat.le_of_eq (Nat.zero_add _)) (fun r_65 G_65 h_65 => ?_)
    obtain ⟨rfl, e_65⟩ := h_65
    subst G_65
    refine ar_if_eq (pc := 68) 80 d_Mo_orders_68 (by decide) ⟨by omega, by omega⟩ (fun h_68 => ?_) (fun h_68 => by exfalso; omega)
    refine ar_aload_n (pc := 80) d_Mo_orders_80 rfl ?_
    refine ar_iconst (pc := 81) d_Mo_orders_81 ?_
    refine ac_virt (pc := 82) (N := mt_Mo_wrong) _ _ mv_Mo_wrong ml_Mo_309 ck_12 d_Mo_orders_82 cw (by first | rfl | exact sh_wheel (by omega) | exact sh_milk (by omega)) rfl rfl (Nat.le_of_ble_eq_true rfl) (Nat.le_of_eq (Nat.zero_add _)) (Nat.le_of_eq (Nat.zero_add _)) (fun r_82 G_82 h_82 => ?_)
    obtain ⟨rfl, q82⟩ := h_82
    refine ar_aload_n (pc := 85) d_Mo_orders_85 rfl ?_
    refine ar_getIv (pc := 86) gf_Mo_234 d_Mo_orders_86 (by first | rfl | exact sh_wheel (by omega) | exact sh_milk (by omega)) (mjb_e q82) (fun r_86 => ?_)
    refine ar_if_le (pc := 89) 94 d_Mo_orders_89 (by decide) ⟨by omega, by omega⟩ (fun h_89 => by exfalso; omega) (fun h_89 => ?_)
    refine ar_iconst (pc := 92) d_Mo_orders_92 ?_
    refine ar_iret (pc := 93) d_Mo_orders_93 rfl ?_
    rotate_left
    -- leaves: ret 93
    · exact ⟨rfl, q82⟩
  · refine lp_front X d hF hz bb hB h0 hE h h5 h1 h2 h3 hl k0 (Or.inl ⟨_, rfl⟩) (hb [] rfl (Or.inl rfl)) (fun G4 i1 v1 W o2 e => by cases e) (fun G4 k' p' e hk' hm => ?_)
    cases e
    exact fault G4 _ _ hk' hm
  · have hin := te_n hE h1 (by omega)
    obtain ⟨e, w1, w2, w3, w4, w5⟩ := e_wq (n := n) hE.2 (fun k _ => (tm_r bb).1) h2 (by omega) (by omega) hs
    rcases hb with ⟨k1, rfl, rfl⟩ | ⟨k1, hq, rfl, rfl⟩ | ⟨k1, hq, k59, rfl, rfl⟩
    · refine lp_front X d hF hz bb hB h0 hE h h5 h1 h2 h3 hl k0 (Or.inl ⟨_, rfl⟩) (e_no hs k1) (fun G4 i1 v1 W o2 e => by cases e) (fun G4 k' p' e hk' hm => ?_)
      cases e
      exact fault G4 _ _ hk' hm
    · obtain ⟨W, o2, r1, r2, r3⟩ := e_ok hs k1
      refine lp_front X d hF hz bb hB h0 hE h h5 h1 h2 h3 hl k0 r2 r1 ?_ (fun G4 k p e => by cases e)
      intro G4 i2 v2 W2 o3 e4 h4'
      cases e4
      exact lp_back_b1 X d hF hz bb hB h0 hE h4' w3 hl k1 hq
    · obtain ⟨W, o2, r1, r2, r3⟩ := e_ok hs k1
      refine lp_front X d hF hz bb hB h0 hE h h5 h1 h2 h3 hl k0 r2 r1 ?_ (fun G4 k p e => by cases e)
      intro G4 i2 v2 W2 o3 e4 h4'
      cases e4
      exact lp_back_b2 X d hF hz bb hB h0 hE h4' w3 hl k1 hq k59
theorem lp_Mo_ordersb (X : gx_T) (d : Nat) {B : Nat → Int} {z n : Nat} {G : mm_T} {k p : Int} (hF : fx_R G) (hz : mm_I G 60 39 = z) (bb : bb_B B z) (hB : mb_v G = B) (h0 : mm_I G 60 36 = 0) (hE : te_E B z n) : ∀ m i v o l le dd G1, dr_bad (tn_K B z) (pl_i B z) (tn_M B z) k p m i v o l → lq_I n i v o l le → mj_F B z G G1 i v o l l le l dd → aw_W X mt_Mo_orders (d + 6) 47 [(0, some (av_r (some 60)))] [] G1 0 0 (fun r G' => r = some (av_i (-1)) ∧ mjb_F G G' k p) := by
  intro m
  induction m with
  | zero =>
    intro i v o l le dd G1 hd hI h
    obtain ⟨k301, hd⟩ := hd
    rcases hd with ⟨rfl, rfl, rfl⟩ | ⟨hl, hd⟩
    · obtain ⟨hF1, -, -, e36⟩ := mj_w h hF hz hB h0
      have t2 := h.2.2.2.1.1.2.1
      unfold tw_R at t2
      rw [is_sv] at t2
      have kr := tk_r (B := B) (z := z) (a := ps_k B z i) bb
      change 0 ≤ tn_K B z i ∧ tn_K B z i ≤ 303 at kr
      have c65 := cm_Mo_isWord X (d + 4) (w := 0) (c := 2003330414) h.2.2.2.1.1 (by omega) rfl
      have cw := cm_Mo_wr X (d + 4) h e36
      have b2 := fq_r (tn_K B z) i (k := 2) (by omega)
      have e31 := h.2.2.2.2.1
      generalize hs : mm_I G1 60 40 = s at *
      have hs0 : s ≠ 0 ∧ i3_in s := by omega
      clear t2 h
      have back : aw_W X mt_Mo_orders (d + 6) 80 [(0, some (av_r (some 60)))] [] G1 0 0 (fun r G' => r = some (av_i (-1)) ∧ mjb_F G G' (fq_v (tn_K B z) i 2) (pl_i B z i)) := by
        refine ar_aload_n (pc := 80) d_Mo_orders_80 rfl ?_
        refine ar_iconst (pc := 81) d_Mo_orders_81 ?_
        refine ac_virt (pc := 82) (N := mt_Mo_wrong) _ _ mv_Mo_wrong ml_Mo_309 ck_12 d_Mo_orders_82 cw (by first | rfl | exact sh_wheel (by omega) | exact sh_milk (by omega)) rfl rfl (Nat.le_of_ble_eq_true rfl) (Nat.le_of_eq (Nat.zero_add _)) (Nat.le_of_eq (Nat.zero_add _)) (fun r_82 G_82 h_82 => ?_)
        obtain ⟨rfl, q82⟩ := h_82
        refine ar_aload_n (pc := 85) d_Mo_orders_85 rfl ?_
        refine ar_getIv (pc := 86) gf_Mo_234 d_Mo_orders_86 (by first | rfl | exact sh_wheel (by omega) | exact sh_milk (by omega)) (mjb_e q82) (fun r_86 => ?_)
        refine ar_if_le (pc := 89) 94 d_Mo_orders_89 (by decide) ⟨by omega, by omega⟩ (fun h_89 => by exfalso; omega) (fun h_89 => ?_)
        refine ar_iconst (pc := 92) d_Mo_orders_92 ?_
        refine ar_iret (pc := 93) d_Mo_orders_93 rfl ?_
        rotate_left
        -- leaves: ret 93
        · exact ⟨rfl, q82⟩
      by_cases k0 : tn_K B z i = 0
      · rw [if_pos (by omega)] at c65
        refine ar_aload_n (pc := 47) d_Mo_orders_47 rfl ?_
        refine ar_getIv (pc := 48) gf_Mo_234 d_Mo_orders_48 (by first | rfl | exact sh_wheel (by omega) | exact sh_milk (by omega)) e36 (fun r_48 => ?_)
        refine ar_if_ne (pc := 51) 254 d_Mo_orders_51 (by decide) ⟨by omega, by omega⟩ (fun h_51 => by exfalso; omega) (fun h_51 => ?_)
        refine ar_aload_n (pc := 54) d_Mo_orders_54 rfl ?_
        refine ar_getIv (pc := 55) gf_Mo_222 d_Mo_orders_55 (by first | rfl | exact sh_wheel (by omega) | exact sh_milk (by omega)) hs (fun r_55 => ?_)
        refine ar_if_eq (pc := 58) 254 d_Mo_orders_58 (by decide) ⟨by omega, by omega⟩ (fun h_58 => by exfalso; omega) (fun h_58 => ?_)
        refine ar_aload_n (pc := 61) d_Mo_orders_61 rfl ?_
        refine ar_ldc2 (pc := 62) (2003330414) kj_Mo_237 d_Mo_orders_62 (by decide) ?_
        refine ac_virt (pc := 65) (N := mt_Mo_isWord) _ _ mv_Mo_isWord ml_Mo_288 ck_12 d_Mo_orders_65 c65 (by first | rfl | exact sh_wheel (by omega) | exact sh_milk (by omega)) rfl rfl (Nat.le_of_ble_eq_true rfl) (Nat.le_of_eq (Nat.zero_add _)) (Nat.le_of_eq (Nat.zero_add _)) (fun r_65 G_65 h_65 => ?_)
        obtain ⟨rfl, e_65⟩ := h_65
        subst G_65
        refine ar_if_eq (pc := 68) 80 d_Mo_orders_68 (by decide) ⟨by omega, by omega⟩ (fun h_68 => by exfalso; omega) (fun h_68 => ?_)
        refine ar_aload_n (pc := 71) d_Mo_orders_71 rfl ?_
        refine ar_getIv (pc := 72) gf_Mo_328 d_Mo_orders_72 (by first | rfl | exact sh_wheel (by omega) | exact sh_milk (by omega)) e31 (fun r_72 => ?_)
        refine ar_bipush (pc := 75) d_Mo_orders_75 (by decide) ?_
        refine ar_icmp_ne (pc := 77) 85 d_Mo_orders_77 (by decide) ⟨by omega, by omega⟩ ⟨by omega, by omega⟩ (fun h_77 => by exfalso; omega) (fun h_77 => ?_)
        rotate_left
        -- leaves: stop 80
        · exact ar_loc back ⟨rfl, trivial⟩
      · rw [if_neg (by omega)] at c65
        refine ar_aload_n (pc := 47) d_Mo_orders_47 rfl ?_
        refine ar_getIv (pc := 48) gf_Mo_234 d_Mo_orders_48 (by first | rfl | exact sh_wheel (by omega) | exact sh_milk (by omega)) e36 (fun r_48 => ?_)
        refine ar_if_ne (pc := 51) 254 d_Mo_orders_51 (by decide) ⟨by omega, by omega⟩ (fun h_51 => by exfalso; omega) (fun h_51 => ?_)
        refine ar_aload_n (pc := 54) d_Mo_orders_54 rfl ?_
        refine ar_getIv (pc := 55) gf_Mo_222 d_Mo_orders_55 (by first | rfl | exact sh_wheel (by omega) | exact sh_milk (by omega)) hs (fun r_55 => ?_)
        refine ar_if_eq (pc := 58) 254 d_Mo_orders_58 (by decide) ⟨by omega, by omega⟩ (fun h_58 => by exfalso; omega) (fun h_58 => ?_)
        refine ar_aload_n (pc := 61) d_Mo_orders_61 rfl ?_
        refine ar_ldc2 (pc := 62) (2003330414) kj_Mo_237 d_Mo_orders_62 (by decide) ?_
        refine ac_virt (pc := 65) (N := mt_Mo_isWord) _ _ mv_Mo_isWord ml_Mo_288 ck_12 d_Mo_orders_65 c65 (by first | rfl | exact sh_wheel (by omega) | exact sh_milk (by omega)) rfl rfl (Nat.le_of_ble_eq_true rfl) (Nat.le_of_eq (Nat.zero_add _)) (Nat.le_of_eq (Nat.zero_add _)) (fun r_65 G_65 h_65 => ?_)
        obtain ⟨rfl, e_65⟩ := h_65
        subst G_65
        refine ar_if_eq (pc := 68) 80 d_Mo_orders_68 (by decide) ⟨by omega, by omega⟩ (fun h_68 => ?_) (fun h_68 => by exfalso; omega)
        rotate_left
        -- leaves: stop 80
        · exact ar_loc back ⟨rfl, trivial⟩
    · exact mo_lineb X d hF hz bb hB h0 hE h hI hl k301 hd
  | succ m ih =>
    intro i v o l le dd G1 hd hI h
    obtain ⟨hl, k301, i1, v1, o1, q, hk, hd⟩ := hd
    exact mo_line X d hF hz bb hB h0 hE h hI hl hk (fun G2 h2 => ih _ _ _ _ _ _ G2 hd (ln_q bb hE hI hl hk).1 h2)
