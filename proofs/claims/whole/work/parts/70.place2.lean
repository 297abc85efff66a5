/-! ===== the planner places a row ===== -/
/-- between rounds -/
def rn_I (p : Nat → Nat → Int) (a : Nat → Nat) (n : Nat) (y D C : Nat → Int) (V : Int) : Prop := bf_B p n y D V ∧ ∃ T c, (∀ x, x < 24 → T x < c) ∧ bf_C p a n y D C T
/-- within a round -/
def rj_J (p : Nat → Nat → Int) (a : Nat → Nat) (n : Nat) (y D0 S : Nat → Int) (u U : Nat) (o s : Nat) (D C : Nat → Int) (b : Int) : Prop := (b = 0 ∨ b = 1) ∧ rn_I p a n y D C (4184623143714816 * ((1 + U + o : Nat) + if s = 0 then 0 else 1)) ∧ (o < n → D (a o) = 4611686018427387904 ∨ D (a o) ≤ 4184623143714816 * (1 + U + o : Nat)) ∧ rd_I p a n y D0 S u o s D ∧ (b = 0 → ∀ o' s', (o' < o ∨ (o' = o ∧ s' < s)) → o' < n → s' < 24 → D (a o') ≠ 4611686018427387904 → p o' s' ≠ 4611686018427387904 → D s' ≤ D (a o') - p o' (a o') + p o' s')
theorem bf_up {p : Nat → Nat → Int} {n : Nat} {y D : Nat → Int} {V V' : Int} (h : bf_B p n y D V) (hV : V ≤ V') : bf_B p n y D V' := ⟨h.1, fun s hs => by rcases h.2 s hs with q | q; exact Or.inl q; exact Or.inr ⟨by omega, q.2⟩⟩
theorem rj_H {G : mm_T} {p : Nat → Nat → Int} {r : Nat → Int} {a : Nat → Nat} {n : Nat} {y D0 S : Nat → Int} {u U : Nat} (n9 : n ≤ 9) (hF : fx_R G) (hp : pc_P p (n + 1)) (ha : as_F p r a n) (hy : as_Y p r a n y) (hpm : ∀ k s, k < n + 1 → s < 24 → mm_J G 28 (24 * k + s) = p k s) (ham : ∀ o, o < n → mm_I G 27 o = (a o : Nat)) (hu : u < 24) (hSu : S u ≠ 1) (hU : U ≤ 207) : sp_H G n p a (rj_J p a n y D0 S u U) := by
  have hp' : pc_P p n := fun k s hk hs => hp k s (by omega) hs
  refine ⟨⟨n9, hF⟩, fun o s ho hs => hpm o s (by omega) hs, fun o ho => ⟨ham o ho, (ha.1 o ho).1⟩, ?_, fun o s D C b h => h.1, ?_, ?_, ?_⟩
  · rintro o s D C b ho hs ⟨-, ⟨hB, -⟩, hD, -⟩ h1 h2
    have ps := hp o s (by omega) hs
    have a1 := (ha.1 o ho).1
    have pa := hp o (a o) (by omega) a1
    have pa2 := (ha.1 o ho).2
    have d1 := hD ho
    have b1 := hB.2 (a o) a1
    have y1 := hy.1 (a o) a1
    have y2 := hy.2.2 o s ho hs h2
    have y3 := hy.1 s hs
    constructor <;> omega
  · rintro o s D C b ho hs ⟨hb, ⟨hB, T, c, hT, hC⟩, hD, hr, hf⟩ hx
    have d1 := hD ho
    have d2 : D (a o) ≤ 4184623143714816 * (1 + U + o : Nat) := by rcases d1 with q | q; exact absurd q hx.1; exact q
    have hB2 := bf_up (V' := 4184623143714816 * ((1 + U + o : Nat) + 1)) hB (by split <;> omega)
    obtain ⟨k1, k2, k3⟩ := rx_s hp' ha hy ho hs hx (V := 4184623143714816 * ((1 + U + o : Nat) + 1)) (by omega) (by omega) hB2 hT hC
    have hne : a o ≠ s := fun e => by have := hx.2.2; rw [e] at this; omega
    refine ⟨Or.inr rfl, ⟨by rw [if_neg (by omega)]; exact k1, upn T s c, c + 1, k2, k3⟩, fun _ => ?_, rd_c hu hSu ha hy ho hs hr hx, fun q => by omega⟩
    have e : upp D s (D (a o) - p o (a o) + p o s) (a o) = D (a o) := by unfold upp; rw [if_neg hne]
    rw [e]; exact d1
  · rintro o s D C b ho hs ⟨hb, ⟨hB, hTC⟩, hD, hr, hf⟩ hx
    refine ⟨hb, ⟨bf_up hB (by rw [if_neg (show ¬ s + 1 = 0 by omega)]; split <;> omega), hTC⟩, hD, rd_n hr hx, fun q o' s' h1 h2 h3 h4 h5 => ?_⟩
    by_cases e : o' = o ∧ s' = s
    · obtain ⟨rfl, rfl⟩ := e
      have : ¬ (D (a o') - p o' (a o') + p o' s' < D s') := fun z => hx ⟨h4, h5, z⟩
      omega
    · exact hf q o' s' (by omega) h2 h3 h4 h5
  · rintro o D C b ho ⟨hb, ⟨hB, hTC⟩, hD, hr, hf⟩
    refine ⟨hb, ⟨bf_up hB (by rw [if_neg (by omega), if_pos rfl]; omega), hTC⟩, fun ho1 => ?_, rd_o hr, fun q o' s' h1 h2 h3 h4 h5 => hf q o' s' (by omega) h2 h3 h4 h5⟩
    rcases hB.2 (a (o + 1)) (ha.1 (o + 1) ho1).1 with q | q
    · exact Or.inl q
    · right; have := q.1; rw [if_neg (by omega)] at this; omega
/-- a round -/
theorem cm_Pl_round (X : gx_T) (d : Nat) {G G1 : mm_T} {p : Nat → Nat → Int} {r : Nat → Int} {a : Nat → Nat} {n : Nat} {y D C S : Nat → Int} {U i : Nat} (n9 : n ≤ 9) (hF : fx_R G) (hp : pc_P p (n + 1)) (ha : as_F p r a n) (hy : as_Y p r a n y) (hpm : ∀ k s, k < n + 1 → s < 24 → mm_J G 28 (24 * k + s) = p k s) (ham : ∀ o, o < n → mm_I G 27 o = (a o : Nat)) (hU : U ≤ 207) (hI : rn_I p a n y D C (4184623143714816 * (1 + U : Nat))) (hst : st_I p a n y D S) (hc : cs_n S 24 = i) (hi : i < 24) (hw : pw_F G G1 D C) : aw_M X (d + 1) mt_Pl_spread [av_r (some 24), av_i (n : Int)] G1 0 0 (fun r G' => ∃ D' C' b', r = some (av_i b') ∧ rn_I p a n y D' C' (4184623143714816 * (1 + (U + n) : Nat)) ∧ pw_F G G' D' C' ∧ ((b' = 0 ∧ bf_X p a n D') ∨ (b' = 1 ∧ ∃ S', st_I p a n y D' S' ∧ cs_n S' 24 = i + 1))) := by
  obtain ⟨u, u1, u2, u3⟩ := cs_min (S := S) (f := fun s => D s + y s) 24 (by omega)
  have H := rj_H (G := G) (D0 := D) (u := u) (U := U) n9 hF hp ha hy hpm ham u1 u2 hU
  have J0 : rj_J p a n y D S u U 0 0 D C 0 := ⟨Or.inl rfl, ⟨bf_up hI.1 (by rw [if_pos rfl]; omega), hI.2⟩, fun h0 => by
    rcases hI.1.2 (a 0) (ha.1 0 h0).1 with q | q
    · exact Or.inl q
    · exact Or.inr (by omega), rd_0 hst u1 u2 u3, fun q o' s' h => by omega⟩
  refine am_mono (fun r G' hr => ?_) (cm_Pl_spread X d H J0 hw)
  obtain ⟨D', C', b', e, hb, ⟨-, ⟨hB, hTC⟩, -, hrd, hf⟩, hw'⟩ := hr
  refine ⟨D', C', b', e, ⟨bf_up hB (by rw [if_pos rfl]; omega), hTC⟩, hw', ?_⟩
  rcases hb with rfl | rfl
  · exact Or.inl ⟨rfl, fun o s ho hs q1 q2 => hf rfl o s (Or.inl ho) ho hs q1 q2⟩
  · refine Or.inr ⟨rfl, upp S u 1, rd_e u1 hrd, ?_⟩
    rw [cs_up u2 24, if_pos u1, hc]
def pk_F (G G1 : mm_T) (p : Nat → Nat → Int) (n k : Nat) : Prop := (mm_R G1 = mm_R G ∧ mm_A G1 = mm_A G) ∧ (∀ b j, b ≠ 31 → mm_I G1 b j = mm_I G b j) ∧ (∀ b j, b ≠ 30 → mm_J G1 b j = mm_J G b j) ∧ (∀ s, s < k → mm_J G1 30 s = p n s) ∧ ∀ s, s < k → mm_I G1 31 s = (n : Nat)
theorem lp_place0 (X : gx_T) (d : Nat) {G : mm_T} {p : Nat → Nat → Int} {n : Nat} {Q : Option av_T → mm_T → Prop} (n9 : n ≤ 9) (hF : fx_R G) (hpm : ∀ k s, k < n + 1 → s < 24 → mm_J G 28 (24 * k + s) = p k s)
    (kk : ∀ G2, pk_F G G2 p n 24 → aw_W X mt_Pl_placeRow (d + 2) 38 [(0, some (av_r (some 24))), (1, some (av_i (n : Int)))] [] G2 0 0 Q) : ∀ m k G1, k + m = 24 → pk_F G G1 p n k → aw_W X mt_Pl_placeRow (d + 2) 2 [(0, some (av_r (some 24))), (1, some (av_i (n : Int))), (2, some (av_i (k : Int)))] [] G1 0 0 Q := by
  intro m
  induction m with
  | zero =>
    intro k G1 hk h
    have hk : k = 24 := by omega
    subst hk
    have k1 := kk G1 h
    clear kk
    refine ar_iload_n (pc := 2) d_Pl_placeRow_2 rfl ?_
    refine ar_bipush (pc := 3) d_Pl_placeRow_3 (by decide) ?_
    refine ar_icmp_ge (pc := 5) 38 d_Pl_placeRow_5 (by decide) ⟨by omega, by omega⟩ ⟨by omega, by omega⟩ (fun h_5 => ?_) (fun h_5 => by exfalso; omega)
    rotate_left
    -- leaves: stop 38
    · exact ar_loc k1 ⟨rfl, rfl, trivial⟩
  | succ m ih =>
    intro k G1 hk h
    obtain ⟨h1, h2, h3, h4, h5⟩ := h
    have hFG := hF
    clear hF
    have hF : fx_R G1 := fun x k b q => by rw [h1.1]; exact hFG x k b q
    have ep : mm_J G1 28 (24 * n + k) = p n k := by rw [h3 _ _ (by omega)]; exact hpm n k (by omega) (by omega)
    have i1 := ih (k + 1) (ms_I (ms_J G1 30 k (p n k)) 31 k (n : Int)) (by omega) (by
      refine ⟨h1, fun b j hb => ?_, fun b j hb => ?_, fun s hs => ?_, fun s hs => ?_⟩
      · rw [mi_n (fun q => hb q.1)]; exact h2 b j hb
      · show mm_J (ms_J G1 30 k (p n k)) b j = _
        rw [mj_sn _ _ (fun q => hb q.1)]; exact h3 b j hb
      · show mm_J (ms_J G1 30 k (p n k)) 30 s = _
        by_cases e : s = k
        · rw [e, mj_ss]
        · rw [mj_sn _ _ (by omega)]; exact h4 s (by omega)
      · by_cases e : s = k
        · rw [e, mi_s]
        · rw [mi_n (by omega)]; exact h5 s (by omega))
    clear ih kk h2 h3 h4 h5
    refine ar_iload_n (pc := 2) d_Pl_placeRow_2 rfl ?_
    refine ar_bipush (pc := 3) d_Pl_placeRow_3 (by decide) ?_
    refine ar_icmp_ge (pc := 5) 38 d_Pl_placeRow_5 (by decide) ⟨by omega, by omega⟩ ⟨by omega, by omega⟩ (fun h_5 => by exfalso; omega) (fun h_5 => ?_)
    refine ar_aload_n (pc := 8) d_Pl_placeRow_8 rfl ?_
    refine ar_getR (pc := 9) gf_Pl_28 d_Pl_placeRow_9 (by first | rfl | exact sh_wheel (by omega) | exact sh_milk (by omega)) (hF _ _ _ rfl) ?_
    refine ar_iload_n (pc := 12) d_Pl_placeRow_12 rfl ?_
    refine ar_aload_n (pc := 13) d_Pl_placeRow_13 rfl ?_
    refine ar_getR (pc := 14) gf_Pl_21 d_Pl_placeRow_14 (by first | rfl | exact sh_wheel (by omega) | exact sh_milk (by omega)) (hF _ _ _ rfl) ?_
    refine ar_iload_n (pc := 17) d_Pl_placeRow_17 rfl ?_
    refine ar_bipush (pc := 18) d_Pl_placeRow_18 (by decide) ?_
    refine ar_imul (pc := 20) d_Pl_placeRow_20 ?_
    refine ar_iload_n (pc := 21) d_Pl_placeRow_21 rfl ?_
    refine ar_iadd (pc := 22) d_Pl_placeRow_22 ?_
    refine ar_laldv (pc := 23) d_Pl_placeRow_23 rfl (24*n+k) (by omega) (by omega) ep (fun r_23 => ?_)
    refine ar_last (pc := 24) d_Pl_placeRow_24 rfl (k) (by omega) (by omega) r_23 ?_
    refine ar_aload_n (pc := 25) d_Pl_placeRow_25 rfl ?_
    refine ar_getR (pc := 26) gf_Pl_31 d_Pl_placeRow_26 (by first | rfl | exact sh_wheel (by omega) | exact sh_milk (by omega)) (hF _ _ _ rfl) ?_
    refine ar_iload_n (pc := 29) d_Pl_placeRow_29 rfl ?_
    refine ar_iload_n (pc := 30) d_Pl_placeRow_30 rfl ?_
    refine ar_iast (pc := 31) d_Pl_placeRow_31 rfl (k) (by omega) (by omega) ⟨by omega, by omega⟩ ?_
    refine ar_iinc (pc := 32) d_Pl_placeRow_32 rfl rfl (by decide) ?_
    refine ar_goto (pc := 35) 2 d_Pl_placeRow_35 (by decide) ?_
    rotate_left
    -- leaves: stop 2
    · exact ar_loc i1 ⟨rfl, rfl, li_i rfl (by omega), trivial⟩
theorem lp_rounds (X : gx_T) (d : Nat) {G : mm_T} {p : Nat → Nat → Int} {r : Nat → Int} {a : Nat → Nat} {n : Nat} {y : Nat → Int} {Q : Option av_T → mm_T → Prop} (n9 : n ≤ 9) (hF : fx_R G) (hp : pc_P p (n + 1)) (ha : as_F p r a n) (hy : as_Y p r a n y) (hpm : ∀ k s, k < n + 1 → s < 24 → mm_J G 28 (24 * k + s) = p k s) (ham : ∀ o, o < n → mm_I G 27 o = (a o : Nat))
    (kk : ∀ G2 D C, rn_I p a n y D C 945724830479548416 → bf_X p a n D → pw_F G G2 D C → aw_W X mt_Pl_placeRow (d + 2) 64 [(0, some (av_r (some 24))), (1, some (av_i (n : Int)))] [] G2 0 0 Q) : ∀ m i U D C S G1 (b : Int), i + m = 24 → U ≤ 9 * i → rn_I p a n y D C (4184623143714816 * (1 + U : Nat)) → pw_F G G1 D C → ((b = 0 ∧ bf_X p a n D) ∨ (b = 1 ∧ st_I p a n y D S ∧ cs_n S 24 = i)) → aw_W X mt_Pl_placeRow (d + 2) 42 [(0, some (av_r (some 24))), (1, some (av_i (n : Int))), (2, some (av_i b)), (3, some (av_i (i : Int)))] [] G1 0 0 Q := by
  intro m
  induction m with
  | zero =>
    intro i U D C S G1 b hi hU hI hw hb
    have hi : i = 24 := by omega
    subst hi
    have hX : bf_X p a n D := by
      rcases hb with ⟨-, q⟩ | ⟨-, q1, q2⟩
      · exact q
      · exact st_x ha q1 q2
    have k1 := kk G1 D C ⟨bf_up hI.1 (by omega), hI.2⟩ hX hw
    clear kk hb
    refine ar_iload_n (pc := 42) d_Pl_placeRow_42 rfl ?_
    refine ar_bipush (pc := 43) d_Pl_placeRow_43 (by decide) ?_
    refine ar_icmp_ge (pc := 45) 64 d_Pl_placeRow_45 (by decide) ⟨by omega, by omega⟩ ⟨by omega, by omega⟩ (fun h_45 => ?_) (fun h_45 => by exfalso; omega)
    rotate_left
    -- leaves: stop 64
    · exact ar_loc k1 ⟨rfl, rfl, trivial⟩
  | succ m ih =>
    intro i U D C S G1 b hi hU hI hw hb
    rcases hb with ⟨rfl, hX⟩ | ⟨rfl, hst, hc⟩
    · have k1 := kk G1 D C ⟨bf_up hI.1 (by omega), hI.2⟩ hX hw
      clear kk ih
      refine ar_iload_n (pc := 42) d_Pl_placeRow_42 rfl ?_
      refine ar_bipush (pc := 43) d_Pl_placeRow_43 (by decide) ?_
      refine ar_icmp_ge (pc := 45) 64 d_Pl_placeRow_45 (by decide) ⟨by omega, by omega⟩ ⟨by omega, by omega⟩ (fun h_45 => by exfalso; omega) (fun h_45 => ?_)
      refine ar_iload_n (pc := 48) d_Pl_placeRow_48 rfl ?_
      refine ar_if_eq (pc := 49) 64 d_Pl_placeRow_49 (by decide) ⟨by omega, by omega⟩ (fun h_49 => ?_) (fun h_49 => by exfalso; omega)
      rotate_left
      -- leaves: stop 64
      · exact ar_loc k1 ⟨rfl, rfl, trivial⟩
    · have c54 := cm_Pl_round X d n9 hF hp ha hy hpm ham (by omega) hI hst hc (by omega) hw
      clear kk
      refine ar_iload_n (pc := 42) d_Pl_placeRow_42 rfl ?_
      refine ar_bipush (pc := 43) d_Pl_placeRow_43 (by decide) ?_
      refine ar_icmp_ge (pc := 45) 64 d_Pl_placeRow_45 (by decide) ⟨by omega, by omega⟩ ⟨by omega, by omega⟩ (fun h_45 => by exfalso; omega) (fun h_45 => ?_)
      refine ar_iload_n (pc := 48) d_Pl_placeRow_48 rfl ?_
      refine ar_if_eq (pc := 49) 64 d_Pl_placeRow_49 (by decide) ⟨by omega, by omega⟩ (fun h_49 => by exfalso; omega) (fun h_49 => ?_)
      refine ar_aload_n (pc := 52) d_Pl_placeRow_52 rfl ?_
      refine ar_iload_n (pc := 53) d_Pl_placeRow_53 rfl ?_
      refine ac_virt (pc := 54) (N := mt_Pl_spread) _ _ mv_Pl_spread ml_Pl_96 ck_4 d_Pl_placeRow_54 c54 (by first | rfl | exact sh_wheel (by omega) | exact sh_milk (by omega)) rfl rfl (Nat.le_of_ble_eq_true rfl) (Nat.le_of_eq (Nat.zero_add _)) (Nat.le_of_eq (Nat.zero_add _)) (fun r_54 G_54 h_54 => ?_)
      obtain ⟨D', C', b', rfl, q1, q2, q3⟩ := h_54
      rotate_left
      -- leaves: stop 57
      · have i1 : aw_W X mt_Pl_placeRow (d + 2) 42 [(0, some (av_r (some 24))), (1, some (av_i (n : Int))), (2, some (av_i b')), (3, some (av_i ((i + 1 : Nat) : Int)))] [] G_54 0 0 Q := by
          rcases q3 with ⟨rfl, q⟩ | ⟨rfl, S', q, qc⟩
          · exact ih (i + 1) (U + n) D' C' S G_54 0 (by omega) (by omega) q1 q2 (Or.inl ⟨rfl, q⟩)
          · exact ih (i + 1) (U + n) D' C' S' G_54 1 (by omega) (by omega) q1 q2 (Or.inr ⟨rfl, q, qc⟩)
        clear ih
        refine ar_istore_n (pc := 57) d_Pl_placeRow_57 rfl (by decide) ?_
        refine ar_iinc (pc := 58) d_Pl_placeRow_58 rfl rfl (by decide) ?_
        refine ar_goto (pc := 61) 42 d_Pl_placeRow_61 (by decide) ?_
        rotate_left
        -- leaves: stop 42
        · exact ar_loc i1 ⟨rfl, rfl, rfl, li_i rfl (by omega), trivial⟩
/-- the planner's rows: prices, rooms that are left, shelves of the first n -/
def pn_F (G : mm_T) (p : Nat → Nat → Int) (r : Nat → Int) (a : Nat → Nat) (c n : Nat) : Prop := (∀ k s, k < c → s < 24 → mm_J G 28 (24 * k + s) = p k s) ∧ (∀ o, o < n → mm_I G 27 o = (a o : Nat)) ∧ ∀ s, s < 24 → mm_I G 29 s = r s - (cn_f a s n : Nat)
/-- what stays while rows are placed -/
def pq_F (G G1 : mm_T) : Prop := (mm_R G1 = mm_R G ∧ mm_A G1 = mm_A G) ∧ (∀ b j, b ≠ 27 → b ≠ 29 → b ≠ 31 → mm_I G1 b j = mm_I G b j) ∧ ∀ b j, b ≠ 30 → mm_J G1 b j = mm_J G b j
def sr_S (D : Nat → Int) (s : Nat) : Int := if D s = 4611686018427387904 then 0 else 1
theorem sr_1 {D : Nat → Int} {s : Nat} : sr_S D s = 1 ↔ D s ≠ 4611686018427387904 := by unfold sr_S; split <;> omega
theorem cm_Pl_placeRow (X : gx_T) (d : Nat) {G : mm_T} {p : Nat → Nat → Int} {r : Nat → Int} {a : Nat → Nat} {c n : Nat} {y : Nat → Int} (hn : n < c) (hc : c ≤ 10) (hF : fx_R G) (hp : pc_P p c) (ha : as_F p r a n) (hy : as_Y p r a n y) (hr14 : ∀ s, s < 24 → r s ≤ 100) (hm : pn_F G p r a c n) : aw_M X (d + 2) mt_Pl_placeRow [av_r (some 24), av_i (n : Int)] G 0 0 (fun rr G' => (rr = some (av_i 1) ∧ ∃ a' y', as_F p r a' (n + 1) ∧ as_Y p r a' (n + 1) y' ∧ pn_F G' p r a' c (n + 1) ∧ pq_F G G') ∨ (rr = some (av_i 0) ∧ (∀ b, ¬ as_F p r b (n + 1)) ∧ pq_F G G')) := by
  obtain ⟨hpm, ham, hrm⟩ := hm
  have n9 : n ≤ 9 := by omega
  have hp' : pc_P p (n + 1) := fun k s hk hs => hp k s (by omega) hs
  have hpm' : ∀ k s, k < n + 1 → s < 24 → mm_J G 28 (24 * k + s) = p k s := fun k s hk hs => hpm k s (by omega) hs
  have main : ∀ G2 D C, rn_I p a n y D C 945724830479548416 → bf_X p a n D → pw_F G G2 D C → aw_W X mt_Pl_placeRow (d + 2) 64 [(0, some (av_r (some 24))), (1, some (av_i (n : Int)))] [] G2 0 0 (fun rr G' => (rr = some (av_i 1) ∧ ∃ a' y', as_F p r a' (n + 1) ∧ as_Y p r a' (n + 1) y' ∧ pn_F G' p r a' c (n + 1) ∧ pq_F G G') ∨ (rr = some (av_i 0) ∧ (∀ b, ¬ as_F p r b (n + 1)) ∧ pq_F G G')) := by
    intro G2 D C hI hX hw
    obtain ⟨hB, T, cl, hT, hC⟩ := hI
    have hF2 : fx_R G2 := fun x k b q => by rw [hw.1.1]; exact hF x k b q
    have hRm : ∀ s, s < 24 → mm_I G2 29 s = r s - (cn_f a s n : Nat) := fun s hs => by rw [hw.2.1 _ _ (by omega)]; exact hrm s hs
    have c65 := cm_Pl_cheap X d (D := D) (rm := fun s => r s - (cn_f a s n : Nat)) hF2 hw.2.2.2.1 hRm
    refine ar_aload_n (pc := 64) d_Pl_placeRow_64 rfl ?_
    refine ac_virt (pc := 65) (N := mt_Pl_cheapestWithRoom) _ _ mv_Pl_cheapestWithRoom ml_Pl_99 ck_4 d_Pl_placeRow_65 c65 (by first | rfl | exact sh_wheel (by omega) | exact sh_milk (by omega)) rfl rfl (Nat.le_of_ble_eq_true rfl) (Nat.le_of_eq (Nat.zero_add _)) (Nat.le_of_eq (Nat.zero_add _)) (fun r_65 G_65 h_65 => ?_)
    obtain ⟨⟨bt, rfl, hbt⟩, e65⟩ := h_65
    rotate_left
    -- leaves: stop 68
    · subst e65
      rcases hbt with ⟨rfl, hno⟩ | ⟨t, t1, rfl, t3, t4, t5⟩
      · have none : ∀ b, ¬ as_F p r b (n + 1) := by
          intro b hb
          refine as_none (S := sr_S D) ha (fun s => by unfold sr_S; split <;> omega) (fun s hs q => ?_) (fun k s hk q hs q2 => ?_) (fun s hs q => ?_) hb
          · have hDs := sr_1.mp q
            have := ha.2 s hs
            have : ¬ (0 < r s - (cn_f a s n : Nat)) := fun z => hno s hs ⟨z, hDs⟩
            omega
          · have hDa := sr_1.mp q
            have := hX k s hk hs hDa q2
            have a1 := (ha.1 k hk).1
            have b1 := hB.2 (a k) a1
            have pk := hp k s (by omega) hs
            have pk2 := hp k (a k) (by omega) a1
            exact sr_1.mpr (by omega)
          · have := hB.1 s hs
            have pk := hp n s (by omega) hs
            exact sr_1.mpr (by omega)
        refine ar_istore_n (pc := 68) d_Pl_placeRow_68 rfl (by decide) ?_
        refine ar_iload_n (pc := 69) d_Pl_placeRow_69 rfl ?_
        refine ar_iconst (pc := 70) d_Pl_placeRow_70 ?_
        refine ar_icmp_ne (pc := 71) 76 d_Pl_placeRow_71 (by decide) ⟨by omega, by omega⟩ ⟨by omega, by omega⟩ (fun h_71 => by exfalso; omega) (fun h_71 => ?_)
        refine ar_iconst (pc := 74) d_Pl_placeRow_74 ?_
        refine ar_zret (pc := 75) d_Pl_placeRow_75 rfl (by omega) ?_
        rotate_left
        -- leaves: ret 75
        · exact Or.inr ⟨rfl, none, hw.1, fun b j b1 b2 b3 => hw.2.1 b j b3, hw.2.2.1⟩
      · have y0 : y t = 0 := hy.2.1 t t1 (by omega)
        have ct := hRm t t1
        have cr := hr14 t t1
        have c89 := cm_Pl_shift X d (G := ms_I G_65 29 t (r t - (cn_f a t n : Nat) - 1)) (T := T) (C := C) (by exact hF2) n9 ha hy hX hC (fun s hs => by rw [mi_n (by omega)]; exact hw.2.2.2.2 s hs) (fun o ho => by rw [mi_n (by omega), hw.2.1 _ _ (by omega)]; exact ham o ho) t1 t4 y0
        have hF := hF2
        refine ar_istore_n (pc := 68) d_Pl_placeRow_68 rfl (by decide) ?_
        refine ar_iload_n (pc := 69) d_Pl_placeRow_69 rfl ?_
        refine ar_iconst (pc := 70) d_Pl_placeRow_70 ?_
        refine ar_icmp_ne (pc := 71) 76 d_Pl_placeRow_71 (by decide) ⟨by omega, by omega⟩ ⟨by omega, by omega⟩ (fun h_71 => ?_) (fun h_71 => by exfalso; omega)
        refine ar_aload_n (pc := 76) d_Pl_placeRow_76 rfl ?_
        refine ar_getR (pc := 77) gf_Pl_25 d_Pl_placeRow_77 (by first | rfl | exact sh_wheel (by omega) | exact sh_milk (by omega)) (hF _ _ _ rfl) ?_
        refine ar_iload_n (pc := 80) d_Pl_placeRow_80 rfl ?_
        refine ar_dup2 (pc := 81) d_Pl_placeRow_81 rfl rfl ?_
        refine ar_ialdv (pc := 82) d_Pl_placeRow_82 rfl (t) (by omega) (by omega) ct (fun r_82 => ?_)
        refine ar_iconst (pc := 83) d_Pl_placeRow_83 ?_
        refine ar_isub (pc := 84) d_Pl_placeRow_84 ?_
        refine ar_iast (pc := 85) d_Pl_placeRow_85 rfl (t) (by omega) (by omega) ⟨by omega, by omega⟩ ?_
        refine ar_aload_n (pc := 86) d_Pl_placeRow_86 rfl ?_
        refine ar_iload_n (pc := 87) d_Pl_placeRow_87 rfl ?_
        refine ar_iload_n (pc := 88) d_Pl_placeRow_88 rfl ?_
        refine ac_virt (pc := 89) (N := mt_Pl_shiftChain) _ _ mv_Pl_shiftChain ml_Pl_103 ck_4 d_Pl_placeRow_89 c89 (by first | rfl | exact sh_wheel (by omega) | exact sh_milk (by omega)) rfl rfl (Nat.le_of_ble_eq_true rfl) (Nat.le_of_eq (Nat.zero_add _)) (Nat.le_of_eq (Nat.zero_add _)) (fun r_89 G_89 h_89 => ?_)
        obtain ⟨rfl, a2, s2, w1, w2, w3⟩ := h_89
        refine ar_iconst (pc := 92) d_Pl_placeRow_92 ?_
        refine ar_zret (pc := 93) d_Pl_placeRow_93 rfl (by omega) ?_
        rotate_left
        -- leaves: ret 93
        · obtain ⟨f1, f2⟩ := ch_e hp' ha hy hX hB (by omega) t1 t4 (by omega) (fun x hx q q2 => t5 x hx (by omega) q2) w1 w2
          refine Or.inl ⟨rfl, _, _, f1, f2, ⟨fun k s hk hs => ?_, fun o ho => w3.2.2 o ho, fun s hs => ?_⟩, ⟨w3.1.1.trans hw.1.1, w3.1.2.2.trans hw.1.2⟩, fun b j b1 b2 b3 => ?_, fun b j hb => ?_⟩
          · rw [w3.1.2.1]; show mm_J G_65 28 (24 * k + s) = _; rw [hw.2.2.1 _ _ (by omega)]; exact hpm k s hk hs
          · rw [w3.2.1 _ _ (by omega)]
            have cnt : cn_f (upn a2 n s2) s (n + 1) = cn_f a s n + (if s = t then 1 else 0) := by
              have e3 : upn a2 n s2 n = s2 := by unfold upn; rw [if_pos rfl]
              rw [cn_f, cn_o n (Nat.le_refl _), e3, ← w1.2.2.2.2 s]
              by_cases q : s2 = s
              · rw [if_pos q, if_pos q.symm]
              · rw [if_neg q, if_neg (fun z => q z.symm)]
            rw [cnt]
            by_cases e : s = t
            · rw [e, mi_s, if_pos rfl]; omega
            · rw [mi_n (by omega), if_neg e]; exact hRm s hs
          · rw [w3.2.1 _ _ b1, mi_n (by omega)]; exact hw.2.1 b j b3
          · rw [w3.1.2.1]; exact hw.2.2.1 b j hb
  have init : ∀ G2, pk_F G G2 p n 24 → aw_W X mt_Pl_placeRow (d + 2) 38 [(0, some (av_r (some 24))), (1, some (av_i (n : Int)))] [] G2 0 0 (fun rr G' => (rr = some (av_i 1) ∧ ∃ a' y', as_F p r a' (n + 1) ∧ as_Y p r a' (n + 1) y' ∧ pn_F G' p r a' c (n + 1) ∧ pq_F G G') ∨ (rr = some (av_i 0) ∧ (∀ b, ¬ as_F p r b (n + 1)) ∧ pq_F G G')) := by
    intro G2 hk
    have hI0 : rn_I p a n y (p n) (fun _ => (n : Int)) (4184623143714816 * (1 + 0 : Nat)) := by
      refine ⟨⟨fun s hs => Int.le_refl _, fun s hs => ?_⟩, fun _ => 0, 1, fun _ _ => Nat.lt_succ_self 0, fun s hs q => Or.inl ⟨rfl, rfl⟩⟩
      have := hp n s hn hs; have := (hy.1 s hs).1; omega
    have hst0 : st_I p a n y (p n) (fun _ => 0) := ⟨fun s x hs hx (q : (0 : Int) = 1) => by omega, fun o s ho hs (q : (0 : Int) = 1) => by omega⟩
    have lp := lp_rounds X d n9 hF hp' ha hy hpm' ham main 24 0 0 (p n) (fun _ => (n : Int)) (fun _ => 0) G2 1 (by omega) (by omega) hI0 hk (Or.inr ⟨rfl, hst0, by decide⟩)
    clear main
    refine ar_iconst (pc := 38) d_Pl_placeRow_38 ?_
    refine ar_istore_n (pc := 39) d_Pl_placeRow_39 rfl (by decide) ?_
    refine ar_iconst (pc := 40) d_Pl_placeRow_40 ?_
    refine ar_istore_n (pc := 41) d_Pl_placeRow_41 rfl (by decide) ?_
    rotate_left
    -- leaves: stop 42
    · exact ar_loc lp ⟨rfl, rfl, rfl, rfl, trivial⟩
  have lp0 := lp_place0 X d n9 hF hpm' init 24 0 G (by omega) ⟨⟨rfl, rfl⟩, fun _ _ _ => rfl, fun _ _ _ => rfl, fun s hs => by omega, fun s hs => by omega⟩
  clear main init
  refine aw_enter pf_Pl_placeRow (Nat.le_of_ble_eq_true rfl) ?_
  refine ar_iconst (pc := 0) d_Pl_placeRow_0 ?_
  refine ar_istore_n (pc := 1) d_Pl_placeRow_1 rfl (by decide) ?_
  rotate_left
  -- leaves: stop 2
  · exact ar_loc lp0 ⟨rfl, rfl, rfl, trivial⟩
