/-! ===== plan of the reference, whole ===== -/
theorem rc_df {q : Nat → Nat → Int} {room : Nat → Int} {n : Nat} {b : Nat → Nat} {all : Int} (h : rc_I q room n 24 b 0 0 all) : df_F q room n 0 b (2 ^ n - 1) ∧ dv_v q b (2 ^ n - 1) n = all := by
  obtain ⟨h1, h2, h3⟩ := h
  refine ⟨⟨fun k hk _ => ⟨by omega, h1 k hk (Nat.zero_testBit k)⟩, fun t _ ht => ?_⟩, ?_⟩
  · have g := h2 t ht ht
    have e : cx_v b (2 ^ n - 1) t n = sm_f (fun k => if Nat.testBit 0 k = false ∧ b k = t then 1 else 0) n := by
      unfold cx_v
      apply sm_cg
      intro k hk
      rw [all_b hk, Nat.zero_testBit]
      by_cases z : b k = t
      · rw [if_pos ⟨rfl, z⟩, if_pos ⟨rfl, z⟩]
      · rw [if_neg (fun y => z y.2), if_neg (fun y => z y.2)]
    rw [e]; exact g
  · rw [← h3, Int.add_zero]
    unfold dv_v
    apply sm_cg
    intro k hk
    rw [all_b hk, Nat.zero_testBit, if_pos rfl, if_pos rfl]
def mp_O (G : mm_T) (n : Nat) (gw : Nat → Nat) (sh : Nat → Int) (q : Nat → Nat → Int) (room : Nat → Int) (r : Option av_T) (G' : mm_T) : Prop := (mm_R G' = mm_R G ∧ mm_A G' = mm_A G) ∧ (∀ b j, b ≠ 95 → b ≠ 96 → b ≠ 97 → b ≠ 98 → ¬ (b = 60 ∧ (j = 53 ∨ j = 54 ∨ j = 55)) → mm_I G' b j = mm_I G b j) ∧ (∀ b j, b ≠ 99 → b ≠ 100 → mm_J G' b j = mm_J G b j) ∧
  ((((10 < n ∧ r = some (av_i (-3))) ∨ (n ≤ 10 ∧ (∀ b, ¬ df_F q room n 0 b (2 ^ n - 1)) ∧ r = some (av_i (-2)))) ∧ ∀ b j, (b = 96 ∨ b = 97 ∨ (b = 60 ∧ (j = 53 ∨ j = 55))) → mm_I G' b j = mm_I G b j)
  ∨ (n ≤ 10 ∧ ∃ b, df_F q room n 0 b (2 ^ n - 1) ∧ (∀ b', df_F q room n 0 b' (2 ^ n - 1) → dv_v q b (2 ^ n - 1) n ≤ dv_v q b' (2 ^ n - 1) n) ∧ r = some (av_i (sm_f (fun k => wy_v (sh (gw k)).toNat (b k)) n)) ∧ mm_I G' 60 55 = n ∧ mm_I G' 60 53 = 1 ∧ ∀ k, k < n → mm_I G' 96 k = (gw k : Nat) ∧ mm_I G' 97 k = (b k : Nat)))
theorem cm_Mo_plan (X : gx_T) (d : Nat) {G : mm_T} {wc n : Nat} {gw : Nat → Nat} {q : Nat → Nat → Int} {room : Nat → Int} (H : mpl_I G wc) (hn : n = gy_c (su_m G) (mm_I G 67) wc) (hgw : gw = gy_w (su_m G) (mm_I G 67) wc) (hq : q = qm_v (su_m G) (mm_I G 67) gw n) (hroom : ∀ s, s < 24 → room s = 4 - ct_n (mm_I G 67) s wc + rk_c (mm_I G 67) gw s n) : aw_M X (d + 4) mt_Mo_plan [av_r (some 60)] G 0 0 (mp_O G n gw (mm_I G 67) q room) := by
  have hF := H.1
  have hnw : ∀ i, gy_c (su_m G) (mm_I G 67) i ≤ i := fun i => by
    induction i with
    | zero => exact Nat.le_refl _
    | succ i ih => rw [gy_c]; split <;> omega
  have hn40 : n ≤ 40 := by have := hnw wc; have := H.2.1.2; omega
  have lp1 := lp_Mo_plan1 X d (su := su_m G) (sh := mm_I G 67) (Q := mp_O G n gw (mm_I G 67) q room) H rfl rfl (fun G2 h2 => by
    rw [← hn]
    obtain ⟨⟨h2R, h2J, h2A⟩, h2I, h2g⟩ := h2
    have hF2 : fx_R G2 := fun a k b z => by rw [h2R]; exact H.1 a k b z
    by_cases h10 : 10 < n
    · have fin : mp_O G n gw (mm_I G 67) q room (some (av_i (-3))) G2 := ⟨⟨h2R, h2A⟩, fun b j b1 _ _ _ b5 => h2I b j (by omega) b1, fun b j _ _ => by rw [h2J], Or.inl ⟨Or.inl ⟨h10, rfl⟩, fun b j z => h2I b j (by omega) (by omega)⟩⟩
      clear hq hroom h2g h2I hgw
      refine ar_iload_n (pc := 65) d_Mo_plan_65 rfl ?_
      refine ar_bipush (pc := 66) d_Mo_plan_66 (by decide) ?_
      refine ar_icmp_le (pc := 68) 74 d_Mo_plan_68 (by decide) ⟨by omega, by omega⟩ ⟨by omega, by omega⟩ (fun h_68 => by exfalso; omega) (fun h_68 => ?_)
      refine ar_bipush (pc := 71) d_Mo_plan_71 (by decide) ?_
      refine ar_iret (pc := 73) d_Mo_plan_73 rfl ?_
      rotate_left
      -- leaves: ret 73
      · exact fin
    · have hn10 : n ≤ 10 := by omega
      have fI : ∀ b j, ¬ (b = 60 ∧ j = 54) → b ≠ 95 → mm_I (ms_I G2 60 54 (n : Int)) b j = mm_I G b j := fun b j b1 b2 => by rw [mi_n (by omega)]; exact h2I b j b1 b2
      have e67 : mm_I (ms_I G2 60 54 (n : Int)) 67 = mm_I G 67 := funext fun j => fI _ _ (by omega) (by omega)
      have esu : su_m (ms_I G2 60 54 (n : Int)) = su_m G := by
        funext w s
        unfold su_m
        rw [show mm_I (ms_I G2 60 54 (n : Int)) 91 = mm_I G 91 from funext fun j => fI _ _ (by omega) (by omega), show mm_I (ms_I G2 60 54 (n : Int)) 92 = mm_I G 92 from funext fun j => fI _ _ (by omega) (by omega), show mm_I (ms_I G2 60 54 (n : Int)) 93 = mm_I G 93 from funext fun j => fI _ _ (by omega) (by omega), show mm_I (ms_I G2 60 54 (n : Int)) 94 = mm_I G 94 from funext fun j => fI _ _ (by omega) (by omega), fI 66 w (by omega) (by omega), fI 60 0 (by omega) (by omega), fI 71 w (by omega) (by omega), fI 61 s (by omega) (by omega)]
      have hsr : ∀ k, k < n → gw k < wc ∧ 0 ≤ mm_I G 67 (gw k) ∧ mm_I G 67 (gw k) ≤ 23 := fun k hk => by
        have g := gy_p (su := su_m G) (sh := mm_I G 67) wc k (by omega)
        rw [← hgw] at g
        have g2 := H.2.2.1 (gw k) g.1
        exact ⟨g.1, by omega, by omega⟩
      have M3 : mgo_I (ms_I G2 60 54 (n : Int)) wc n gw := by
        refine ⟨by exact hF2, ⟨by rw [fI _ _ (by omega) (by omega)]; exact H.2.1.1, H.2.1.2⟩, ⟨mi_s _ _ _ _, hn10⟩, fun k hk => ?_⟩
        have g := hsr k hk
        rw [e67]
        refine ⟨?_, g⟩
        rw [mi_n (by omega), hgw]; exact h2g k (by omega) (by omega)
      have W3 : mww_I (ms_I G2 60 54 (n : Int)) wc := by
        refine ⟨fun w hw => ?_, fun k hk => ?_⟩
        · rw [fI _ _ (by omega) (by omega), fI _ _ (by omega) (by omega), fI _ _ (by omega) (by omega), fI _ _ (by omega) (by omega)]; exact H.2.2.1 w hw
        · rw [fI _ _ (by omega) (by omega)]; exact H.2.2.2 k hk
      have c80 := cm_Mo_seek X d (q := q) (room := room) M3 W3 (by rw [esu, e67]; exact hq) (fun s hs => by rw [e67]; exact hroom s hs)
      have es := shl_t ⟨n, by omega⟩
      dsimp only at es
      have hpos : 0 < 2 ^ n := Nat.two_pow_pos n
      have nx : ∀ G4, skf_F (ms_I G2 60 54 (n : Int)) G4 → (∃ G1, lv_I q room n G1 G4 0) → mm_J G4 99 (2 ^ n - 1) ≠ 9223372036854775807 → aw_W X mt_Mo_plan (d + 4) 105 [(0, some (av_r (some 60))), (1, some (av_i (n : Int))), (2, some (av_i 0)), (3, some (av_i ((2 ^ n - 1 : Nat) : Int))), (4, some (av_i 0))] [] (ms_I G4 60 55 (n : Int)) 0 0 (mp_O G n gw (mm_I G 67) q room) := by
        intro G4 h4 h5 h6
        obtain ⟨h4a, h4I, h4J⟩ := h4
        obtain ⟨G0, _, _, _, hz, hfi, hdl⟩ := h5
        have f5 : ∀ b j, b ≠ 98 → ¬ (b = 60 ∧ j = 55) → ¬ (b = 60 ∧ j = 54) → b ≠ 95 → mm_I (ms_I G4 60 55 (n : Int)) b j = mm_I G b j := fun b j b1 b2 b3 b4 => by rw [mi_n (by omega), h4I b j b1]; exact fI b j b3 b4
        have e67b : mm_I (ms_I G4 60 55 (n : Int)) 67 = mm_I G 67 := funext fun j => f5 _ _ (by omega) (by omega) (by omega) (by omega)
        have M5 : mgo_I (ms_I G4 60 55 (n : Int)) wc n gw := by
          obtain ⟨z1, z2, z3, z4⟩ := M3
          refine ⟨fun a k b z => ?_, ⟨by rw [mi_n (by omega), h4I _ _ (by omega)]; exact z2.1, z2.2⟩, ⟨by rw [mi_n (by omega), h4I _ _ (by omega)]; exact z3.1, z3.2⟩, fun k hk => ?_⟩
          · have zz := z1 a k b z
            rw [← h4a.1] at zz; exact zz
          · have g := z4 k hk
            rw [e67b]; rw [e67] at g
            rw [mi_n (by omega), h4I _ _ (by omega)]; exact g
        have lp2 := lp_Mo_plan2 X d (h := fun k => (mm_I G 67 (gw k)).toNat) (q := q) (room := room) (all := mm_J G4 99 (2 ^ n - 1)) (Q := mp_O G n gw (mm_I G 67) q room) M5 (fun k hk => by rw [e67b]; have := hsr k hk; omega) hz (fun t y t1 t2 => by rw [mi_n (by omega)]; exact hfi t y (by omega) t1 t2) (fun G6 b h7 h8 => by
          obtain ⟨⟨h7R, h7J, h7A⟩, h7I, h7g⟩ := h7
          have hb := rc_df h8
          have hd := hdl (2 ^ n - 1) (by omega)
          dsimp only at hd; rw [Nat.mul_zero, Nat.zero_add] at hd
          have fin : mp_O G n gw (mm_I G 67) q room (some (av_i (sm_f (fun k => wy_v (mm_I G 67 (gw k)).toNat (b k)) n))) (ms_I G6 60 53 1) := by
            refine ⟨⟨?_, ?_⟩, fun b' j b1 b2 b3 b4 b5 => ?_, fun b' j b1 b2 => ?_, Or.inr ⟨hn10, b, hb.1, ?_, rfl, ?_, ?_, fun k hk => ?_⟩⟩
            · exact h7R.trans (h4a.1.trans h2R)
            · exact h7A.trans (h4a.2.trans h2A)
            · rw [mi_n (by omega), h7I _ _ (by omega) (by omega)]; exact f5 b' j b4 (by omega) (by omega) b1
            · have z1 : mm_J (ms_I G6 60 53 1) b' j = mm_J G4 b' j := by have := congrFun (congrFun h7J b') j; exact this
              have z2 : mm_J (ms_I G2 60 54 (n : Int)) b' j = mm_J G b' j := by have := congrFun (congrFun h2J b') j; exact this
              rw [z1, h4J b' j b1 b2, z2]
            · intro b' hb'
              rcases hd with hd | hd
              · exact absurd hd.1 h6
              · rw [hb.2]; exact hd.2 b' hb'
            · rw [mi_n (by omega), h7I _ _ (by omega) (by omega), mi_s]
            · exact mi_s _ _ _ _
            · rw [mi_n (by omega), mi_n (by omega)]; exact h7g k hk (Nat.zero_testBit k)
          have ew : wx_v (fun k => (mm_I G 67 (gw k)).toNat) b 0 n = sm_f (fun k => wy_v (mm_I G 67 (gw k)).toNat (b k)) n := by
            unfold wx_v
            apply sm_cg
            intro k hk
            rw [Nat.zero_testBit, if_pos rfl]
          rw [ew]
          clear hq hroom h2g h2I hgw W3 M3 esu e67 fI hsr hnw hd hb hz hfi hdl h8 h7I h7g M5 f5 e67b c80
          generalize sm_f (fun k => wy_v (mm_I G 67 (gw k)).toNat (b k)) n = V at *
          refine ar_aload_n (pc := 239) d_Mo_plan_239 rfl ?_
          refine ar_iconst (pc := 240) d_Mo_plan_240 ?_
          refine ar_putZ (pc := 241) gf_Mo_158 d_Mo_plan_241 rfl (by first | rfl | exact sh_wheel (by omega) | exact sh_milk (by omega)) (by omega) ?_
          refine ar_iload_n (pc := 244) d_Mo_plan_244 rfl ?_
          refine ar_iret (pc := 245) d_Mo_plan_245 rfl ?_
          rotate_left
          -- leaves: ret 245
          · exact fin) 24 0 (fun _ => 0) (2 ^ n - 1) (ms_I G4 60 55 (n : Int)) (by omega) (by omega) ⟨⟨rfl, rfl, rfl⟩, fun _ _ _ _ => rfl, fun k hk z => by rw [all_b hk] at z; exact absurd z (by decide)⟩ (by rw [Nat.mul_zero, Nat.zero_add]; exact h6) (by
            rw [Nat.mul_zero, Nat.zero_add]
            refine ⟨fun k hk z => by rw [all_b hk] at z; exact absurd z (by decide), fun t ht => absurd ht (Nat.not_lt_zero t), ?_⟩
            rw [sm_cg (g := fun _ => 0) n (fun k hk => by rw [all_b hk]; rfl), sm_z, Int.zero_add]; rfl)
        have ew0 : wx_v (fun k => (mm_I G 67 (gw k)).toNat) (fun _ => 0) (2 ^ n - 1) n = 0 := by
          unfold wx_v
          rw [sm_cg (g := fun _ => 0) n (fun k hk => by rw [all_b hk]; rfl), sm_z]
        rw [ew0] at lp2
        exact lp2
      have no : ∀ G4, skf_F (ms_I G2 60 54 (n : Int)) G4 → (∃ G1, lv_I q room n G1 G4 0) → mm_J G4 99 (2 ^ n - 1) = 9223372036854775807 → mp_O G n gw (mm_I G 67) q room (some (av_i (-2))) G4 := by
        intro G4 h4 h5 h6
        obtain ⟨h4a, h4I, h4J⟩ := h4
        obtain ⟨G0, _, _, _, hz, hfi, hdl⟩ := h5
        have hd := hdl (2 ^ n - 1) (by omega)
        dsimp only at hd; rw [Nat.mul_zero, Nat.zero_add] at hd
        refine ⟨⟨h4a.1.trans h2R, h4a.2.trans h2A⟩, fun b j b1 b2 b3 b4 b5 => by rw [h4I b j b4]; exact fI b j (by omega) b1, fun b j b1 b2 => ?_, Or.inl ⟨Or.inr ⟨hn10, ?_, rfl⟩, fun b j z => by rw [h4I b j (by omega)]; exact fI b j (by omega) (by omega)⟩⟩
        · have z2 : mm_J (ms_I G2 60 54 (n : Int)) b j = mm_J G b j := by have := congrFun (congrFun h2J b) j; exact this
          rw [h4J b j b1 b2, z2]
        · rcases hd with hd | hd
          · exact hd.2
          · have := hd.1.2; omega
      have c80b := am_mono (Q := fun r G' => (r = some (av_i 0) ∧ mp_O G n gw (mm_I G 67) q room (some (av_i (-2))) G') ∨ (r = some (av_i 1) ∧ aw_W X mt_Mo_plan (d + 4) 105 [(0, some (av_r (some 60))), (1, some (av_i (n : Int))), (2, some (av_i 0)), (3, some (av_i ((2 ^ n - 1 : Nat) : Int))), (4, some (av_i 0))] [] (ms_I G' 60 55 (n : Int)) 0 0 (mp_O G n gw (mm_I G 67) q room))) (fun r G4 z => by
        by_cases e : mm_J G4 99 (2 ^ n - 1) = 9223372036854775807
        · exact Or.inl ⟨by rw [z.2.2, if_pos e], no G4 z.1 z.2.1 e⟩
        · exact Or.inr ⟨by rw [z.2.2, if_neg e], nx G4 z.1 z.2.1 e⟩) c80
      clear c80 no nx hq hroom h2g h2I hgw W3 M3 esu e67 fI hsr hnw
      generalize 2 ^ n = N at *
      generalize hP : mp_O G n gw (mm_I G 67) q room = P at *
      clear hP
      refine ar_iload_n (pc := 65) d_Mo_plan_65 rfl ?_
      refine ar_bipush (pc := 66) d_Mo_plan_66 (by decide) ?_
      refine ar_icmp_le (pc := 68) 74 d_Mo_plan_68 (by decide) ⟨by omega, by omega⟩ ⟨by omega, by omega⟩ (fun h_68 => ?_) (fun h_68 => by exfalso; omega)
      refine ar_aload_n (pc := 74) d_Mo_plan_74 rfl ?_
      refine ar_iload_n (pc := 75) d_Mo_plan_75 rfl ?_
      refine ar_putI (pc := 76) gf_Mo_357 d_Mo_plan_76 rfl (by first | rfl | exact sh_wheel (by omega) | exact sh_milk (by omega)) ⟨by omega, by omega⟩ ?_
      refine ar_aload_n (pc := 79) d_Mo_plan_79 rfl ?_
      refine ac_virt (pc := 80) (N := mt_Mo_seek) _ _ mv_Mo_seek ml_Mo_383 ck_12 d_Mo_plan_80 c80b (by first | rfl | exact sh_wheel (by omega) | exact sh_milk (by omega)) rfl rfl (Nat.le_of_ble_eq_true rfl) (Nat.le_of_eq (Nat.zero_add _)) (Nat.le_of_eq (Nat.zero_add _)) (fun r_80 G_80 h_80 => ?_)
      obtain ⟨rfl, e80⟩ | ⟨rfl, e80⟩ := h_80
      rotate_left
      rotate_left
      -- leaves: stop 83, stop 83
      · skip
        refine ar_if_ne (pc := 83) 89 d_Mo_plan_83 (by decide) ⟨by omega, by omega⟩ (fun h_83 => by exfalso; omega) (fun h_83 => ?_)
        refine ar_bipush (pc := 86) d_Mo_plan_86 (by decide) ?_
        refine ar_iret (pc := 88) d_Mo_plan_88 rfl ?_
        rotate_left
        -- leaves: ret 88
        · exact e80
      · skip
        refine ar_if_ne (pc := 83) 89 d_Mo_plan_83 (by decide) ⟨by omega, by omega⟩ (fun h_83 => ?_) (fun h_83 => by exfalso; omega)
        refine ar_aload_n (pc := 89) d_Mo_plan_89 rfl ?_
        refine ar_iload_n (pc := 90) d_Mo_plan_90 rfl ?_
        refine ar_putI (pc := 91) gf_Mo_386 d_Mo_plan_91 rfl (by first | rfl | exact sh_wheel (by omega) | exact sh_milk (by omega)) ⟨by omega, by omega⟩ ?_
        refine ar_iconst (pc := 94) d_Mo_plan_94 ?_
        refine ar_istore_n (pc := 95) d_Mo_plan_95 rfl (by decide) ?_
        refine ar_iconst (pc := 96) d_Mo_plan_96 ?_
        refine ar_iload_n (pc := 97) d_Mo_plan_97 rfl ?_
        refine ar_ishl (pc := 98) d_Mo_plan_98 ?_
        refine ar_iconst (pc := 99) d_Mo_plan_99 ?_
        refine ar_isub (pc := 100) d_Mo_plan_100 ?_
        rw [es]
        refine ar_istore_n (pc := 101) d_Mo_plan_101 rfl (by decide) ?_
        refine ar_iconst (pc := 102) d_Mo_plan_102 ?_
        refine ar_istore (pc := 103) d_Mo_plan_103 rfl (by decide) ?_
        rotate_left
        -- leaves: stop 105
        · exact ar_loc e80 ⟨rfl, rfl, rfl, rfl, rfl, trivial⟩) wc 0 (ms_I G 60 54 0) (by omega) ⟨⟨rfl, rfl, rfl⟩, fun b j b1 b2 => mi_n (by omega), fun k hk => absurd hk (Nat.not_lt_zero k)⟩ (Nat.le_refl _)
  refine aw_enter pf_Mo_plan (Nat.le_of_ble_eq_true rfl) ?_
  refine ar_aload_n (pc := 0) d_Mo_plan_0 rfl ?_
  refine ar_iconst (pc := 1) d_Mo_plan_1 ?_
  refine ar_putI (pc := 2) gf_Mo_357 d_Mo_plan_2 rfl (by first | rfl | exact sh_wheel (by omega) | exact sh_milk (by omega)) ⟨by omega, by omega⟩ ?_
  refine ar_iconst (pc := 5) d_Mo_plan_5 ?_
  refine ar_istore_n (pc := 6) d_Mo_plan_6 rfl (by decide) ?_
  refine ar_iconst (pc := 7) d_Mo_plan_7 ?_
  refine ar_istore_n (pc := 8) d_Mo_plan_8 rfl (by decide) ?_
  rotate_left
  -- leaves: stop 9
  · exact ar_loc lp1 ⟨rfl, rfl, rfl, trivial⟩
