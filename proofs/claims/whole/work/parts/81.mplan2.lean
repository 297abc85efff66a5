/-! ===== plan of the reference: telling the best ===== -/
theorem bk_y {b : Nat → Nat} {p s n k : Nat} (hk : k < n) (h : Nat.testBit p k = true) : bk_v b p s n k = s := by unfold bk_v; rw [if_pos ⟨hk, h⟩]
theorem bk_z {b : Nat → Nat} {p s n k : Nat} (h : Nat.testBit p k = false) : bk_v b p s n k = b k := by unfold bk_v; rw [if_neg (fun z => by rw [h] at z; exact absurd z.2 (by decide))]
theorem lp_Mo_plan2 (X : gx_T) (d : Nat) {G : mm_T} {wc n : Nat} {gw h : Nat → Nat} {q : Nat → Nat → Int} {room : Nat → Int} {all : Int} {Q : Option av_T → mm_T → Prop} (H : mgo_I G wc n gw) (hh : ∀ k, k < n → mm_I G 67 (gw k) = (h k : Nat))
    (hz : ∀ y, y < 2 ^ n → mm_J G 99 (24576 + y) = if y = 0 then 0 else 9223372036854775807)
    (hfi : ∀ t y, t < 24 → y < 2 ^ n → fi_I q room n t (fun y => mm_J G 99 (1024 * (t + 1) + y)) y (fun _ => True) (mm_J G 99 (1024 * t + y)) (mm_I G 98 (1024 * t + y)))
    (kk : ∀ G2 b, tp_F G G2 gw b n 0 → rc_I q room n 24 b 0 0 all → aw_W X mt_Mo_plan (d + 4) 239 [(0, some (av_r (some 60))), (2, some (av_i (wx_v h b 0 n)))] [] G2 0 0 Q) : ∀ m s b x G1, s + m = 24 → x < 2 ^ n → tp_F G G1 gw b n x → mm_J G 99 (1024 * s + x) ≠ 9223372036854775807 → rc_I q room n s b x (mm_J G 99 (1024 * s + x)) all → aw_W X mt_Mo_plan (d + 4) 105 [(0, some (av_r (some 60))), (1, some (av_i (n : Int))), (2, some (av_i (wx_v h b x n))), (3, some (av_i (x : Int))), (4, some (av_i (s : Int)))] [] G1 0 0 Q := by
  have hn := H.2.2.1.2
  have hFG := H.1
  intro m
  induction m with
  | zero =>
    intro s b x G1 hs hx h1 hM hrc
    have hs : s = 24 := by omega
    subst hs
    have hzx := hz x hx
    rw [show 1024 * 24 + x = 24576 + x by omega] at hM hrc
    by_cases e : x = 0
    · subst e
      rw [if_pos rfl] at hzx
      rw [hzx] at hrc
      have k1 := kk G1 b h1 hrc
      clear kk hfi hz
      refine ar_iload (pc := 105) d_Mo_plan_105 rfl ?_
      refine ar_bipush (pc := 107) d_Mo_plan_107 (by decide) ?_
      refine ar_icmp_ge (pc := 109) 239 d_Mo_plan_109 (by decide) ⟨by omega, by omega⟩ ⟨by omega, by omega⟩ (fun h_109 => ?_) (fun h_109 => by exfalso; omega)
      rotate_left
      -- leaves: stop 239
      · exact ar_loc k1 ⟨rfl, rfl, trivial⟩
    · rw [if_neg e] at hzx; exact absurd hzx hM
  | succ m ih =>
    intro s b x G1 hs hx h1 hM hrc
    have h2 := (hfi s x (by omega) hx).1
    rcases h2 with h2 | ⟨p, hv, hval, hbp⟩
    · exact absurd h2 hM
    · have hpx : p ≤ x := by have : p &&& x ≤ x := Nat.and_le_right; rw [hv.1] at this; exact this
      have hp : p < 2 ^ n := by omega
      have hx10 : x < 1024 := Nat.lt_of_lt_of_le hx (p2_10 hn)
      have hrl := rmv_le x p
      have hrc2 := rc_s (C := fun y => mm_J G 99 (1024 * (s + 1) + y)) (C' := fun y => mm_J G 99 (1024 * s + y)) (b' := bk_v b p s n) hn hx hrc hv hval (fun k hk hb => bk_y hk hb) (fun k hk hb => bk_z hb)
      have ih1 := fun G2 t1 => ih (s + 1) (bk_v b p s n) (rmv x p) G2 (by omega) (by omega) t1 hv.2.2.2 hrc2
      have hF : fx_R G1 := fun a k b z => by rw [h1.1.1]; exact hFG a k b z
      have e98 : mm_I G1 98 (1024 * s + x) = (p : Nat) := by rw [h1.2.1 _ _ (by omega) (by omega)]; exact hbp
      have k130 := lp_Mo_plan3 X d (s := s) (b := b) (x := x) (p := p) (Q := Q) H hh hp (by omega) hv.1 (fun G2 t2 => by
        have g := ih1 G2 t2
        clear ih ih1 kk hfi hz hrc hrc2 hval hv hbp
        generalize wx_v h (bk_v b p s n) (rmv x p) n = V at *
        refine ar_iload_n (pc := 226) d_Mo_plan_226 rfl ?_
        refine ar_iload (pc := 227) d_Mo_plan_227 rfl ?_
        refine ar_iconst (pc := 229) d_Mo_plan_229 ?_
        refine ar_ixor (pc := 230) d_Mo_plan_230 ?_
        refine ar_iand (pc := 231) d_Mo_plan_231 ?_
        rw [ia_rm (by omega) (by omega)]
        refine ar_istore_n (pc := 232) d_Mo_plan_232 rfl (by decide) ?_
        refine ar_iinc (pc := 233) d_Mo_plan_233 rfl rfl (by decide) ?_
        refine ar_goto (pc := 236) 105 d_Mo_plan_236 (by decide) ?_
        rotate_left
        -- leaves: stop 105
        · exact ar_loc g ⟨rfl, rfl, rfl, rfl, li_i rfl (by omega), trivial⟩) n 0 G1 (by omega) (by
          have e1 : bk_v b p s 0 = b := funext fun j => by unfold bk_v; rw [if_neg (by omega)]
          have e2 : rmv x (p % 2 ^ 0) = x := by rw [show p % 2 ^ 0 = 0 from Nat.mod_one p]; apply Nat.eq_of_testBit_eq; intro j; rw [rmv_b, Nat.zero_testBit]; simp
          rw [e1, e2]; exact h1)
      have e1 : bk_v b p s 0 = b := funext fun j => by unfold bk_v; rw [if_neg (by omega)]
      have e2 : rmv x (p % 2 ^ 0) = x := by rw [show p % 2 ^ 0 = 0 from Nat.mod_one p]; apply Nat.eq_of_testBit_eq; intro j; rw [rmv_b, Nat.zero_testBit]; simp
      rw [e1, e2] at k130
      clear ih ih1 kk hfi hz hrc hrc2 hval hv hbp
      generalize wx_v h b x n = V at *
      refine ar_iload (pc := 105) d_Mo_plan_105 rfl ?_
      refine ar_bipush (pc := 107) d_Mo_plan_107 (by decide) ?_
      refine ar_icmp_ge (pc := 109) 239 d_Mo_plan_109 (by decide) ⟨by omega, by omega⟩ ⟨by omega, by omega⟩ (fun h_109 => by exfalso; omega) (fun h_109 => ?_)
      refine ar_aload_n (pc := 112) d_Mo_plan_112 rfl ?_
      refine ar_getR (pc := 113) gf_Mo_126 d_Mo_plan_113 (by first | rfl | exact sh_wheel (by omega) | exact sh_milk (by omega)) (hF _ _ _ rfl) ?_
      refine ar_sipush (pc := 116) d_Mo_plan_116 (by decide) ?_
      refine ar_iload (pc := 119) d_Mo_plan_119 rfl ?_
      refine ar_imul (pc := 121) d_Mo_plan_121 ?_
      refine ar_iload_n (pc := 122) d_Mo_plan_122 rfl ?_
      refine ar_iadd (pc := 123) d_Mo_plan_123 ?_
      refine ar_ialdv (pc := 124) d_Mo_plan_124 rfl (1024*s+x) (by omega) (by omega) e98 (fun r_124 => ?_)
      refine ar_istore (pc := 125) d_Mo_plan_125 rfl (by decide) ?_
      refine ar_iconst (pc := 127) d_Mo_plan_127 ?_
      refine ar_istore (pc := 128) d_Mo_plan_128 rfl (by decide) ?_
      rotate_left
      -- leaves: stop 130
      · exact ar_loc k130 ⟨rfl, rfl, rfl, rfl, rfl, rfl, li_i rfl (by omega), trivial⟩
