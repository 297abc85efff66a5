/-! ===== rows of the abstract machine (printed by wip/gen/rows.py) ===== -/
theorem ok_c {am : am_T} {v : av_T} {st : List av_T} (hv : av_ok am v) (h : ∀ w ∈ st, av_ok am w) : ∀ w ∈ v :: st, av_ok am w := fun w hw => by
  rcases List.mem_cons.mp hw with rfl | hw
  · exact hv
  · exact h w hw
theorem ok_t {am : am_T} {v : av_T} {st : List av_T} (h : ∀ w ∈ v :: st, av_ok am w) : ∀ w ∈ st, av_ok am w := fun w hw => h w (List.mem_cons_of_mem _ hw)
theorem ok_h {am : am_T} {v : av_T} {st : List av_T} (h : ∀ w ∈ v :: st, av_ok am w) : av_ok am v := h v List.mem_cons_self
theorem ok_i {am : am_T} {x : Int} {st : List av_T} (h : ∀ w ∈ st, av_ok am w) : ∀ w ∈ av_i x :: st, av_ok am w := ok_c trivial h
theorem ok_l {am : am_T} {x : Int} {st : List av_T} (h : ∀ w ∈ st, av_ok am w) : ∀ w ∈ av_l x :: st, av_ok am w := ok_c trivial h
theorem i3_t {x : Int} (h : i3_in x) : (Int32.ofInt x).toInt = x := Int32.toInt_ofInt_of_le (by omega) (by omega)
theorem j6_t {x : Int} (h : j6_in x) : (Int64.ofInt x).toInt = x := Int64.toInt_ofInt_of_le (by omega) (by omega)
theorem i3_lt {x y : Int} (hx : i3_in x) (hy : i3_in y) : Int32.ofInt x < Int32.ofInt y ↔ x < y := by rw [Int32.lt_iff_toInt_lt, i3_t hx, i3_t hy]
theorem i3_le {x y : Int} (hx : i3_in x) (hy : i3_in y) : Int32.ofInt x ≤ Int32.ofInt y ↔ x ≤ y := by rw [Int32.le_iff_toInt_le, i3_t hx, i3_t hy]
theorem i3_eq {x y : Int} (hx : i3_in x) (hy : i3_in y) : Int32.ofInt x = Int32.ofInt y ↔ x = y := by rw [← Int32.toInt_inj, i3_t hx, i3_t hy]
theorem j6_lt {x y : Int} (hx : j6_in x) (hy : j6_in y) : Int64.ofInt x < Int64.ofInt y ↔ x < y := by rw [Int64.lt_iff_toInt_lt, j6_t hx, j6_t hy]
theorem j6_eq {x y : Int} (hx : j6_in x) (hy : j6_in y) : Int64.ofInt x = Int64.ofInt y ↔ x = y := by rw [← Int64.toInt_inj, j6_t hx, j6_t hy]
theorem i3_0 : i3_in 0 := by constructor <;> omega
theorem i3_clamp {x : Int} (hx : i3_in x) : (Int32.ofInt x).toNatClampNeg = x.toNat := by
  show (Int32.ofInt x).toInt.toNat = _
  rw [i3_t hx]
theorem i3_vin {x : Int} {N : Nat} (h0 : 0 ≤ x) (hN : x < N) (hx : x ≤ 2147483647) : vp_in (Int32.ofInt x) N := by
  rw [vp_in_iff, i3_t ⟨by omega, hx⟩]; exact ⟨h0, hN⟩
theorem av_ref {am : am_T} {a : Nat} (h : av_ok am (av_r (some a))) : ∃ q, am a = some q ∧ av_t am (av_r (some a)) = .ref q := by
  obtain ⟨q, hq⟩ := h
  exact ⟨q, hq, av_t_r hq⟩
/-- the same state told otherwise -/
theorem ar_eq {X : gx_T} {M : mt_T} {d pc : Nat} {L : List (Nat × Option av_T)} {st : List av_T} {G : mm_T} {k n : Nat} {Q : Option av_T → mm_T → Prop} {pc' : Nat} {L' : List (Nat × Option av_T)} {st' : List av_T} {G' : mm_T} (kk : aw_W X M d pc' L' st' G' k n Q) (h1 : pc = pc') (h2 : L = L') (h3 : st = st') (h4 : G = G') : aw_W X M d pc L st G k n Q := by
  subst h1; subst h2; subst h3; subst h4; exact kk
/-- fewer locals -/
def ll_s (L : List (Nat × Option av_T)) : List (Nat × Option av_T) → Prop
  | [] => True
  | (i, some v) :: t => ll_k L i = some v ∧ ll_s L t
  | (_, none) :: t => ll_s L t
theorem ll_s_k {L L' : List (Nat × Option av_T)} (h : ll_s L L') : ∀ i v, ll_k L' i = some v → ll_k L i = some v := by
  induction L' with
  | nil => intro i v h; cases h
  | cons q t ih =>
    obtain ⟨j, w⟩ := q
    intro i v hk
    by_cases hj : j = i
    · subst hj
      have : Nat.beq j j = true := Nat.beq_refl _
      simp only [ll_k, this, cond_true] at hk
      subst hk
      exact h.1
    · have : Nat.beq j i = false := nb_f hj
      simp only [ll_k, this, cond_false] at hk
      cases w with
      | none => exact ih h i v hk
      | some w => exact ih h.2 i v hk
theorem ar_locals {X : gx_T} {M : mt_T} {d pc : Nat} {L : List (Nat × Option av_T)} {st : List av_T} {G : mm_T} {k n : Nat} {Q : Option av_T → mm_T → Prop} (L' : List (Nat × Option av_T)) (h : ll_s L L') (kk : aw_W X M d pc L' st G k n Q) : aw_W X M d pc L st G k n Q := by
  intro g p e R s m args below meth c H locs cells slots am am0 ls mc ms QQ hC hR hx hL hs hl h1 h2 h3 h4 hQ
  exact kk g p e R s m args below meth c H locs cells slots am am0 ls mc ms QQ hC hR hx ⟨hL.1, hL.2.1, fun i v hk => hL.2.2 i v (ll_s_k h i v hk)⟩ hs hl h1 h2 h3 h4 hQ
/-- a weaker end -/
theorem ar_mono {X : gx_T} {M : mt_T} {d pc : Nat} {L : List (Nat × Option av_T)} {st : List av_T} {G : mm_T} {k n : Nat} {Q : Option av_T → mm_T → Prop} {Q' : Option av_T → mm_T → Prop} (h : ∀ r G, Q' r G → Q r G) (kk : aw_W X M d pc L st G k n Q') : aw_W X M d pc L st G k n Q := by
  intro g p e R s m args below meth c H locs cells slots am am0 ls mc ms QQ hC hR hx hL hs hl h1 h2 h3 h4 hQ
  exact kk g p e R s m args below meth c H locs cells slots am am0 ls mc ms QQ hC hR hx hL hs hl h1 h2 h3 h4 (fun pc ls H locs am G r a b => hQ pc ls H locs am G r a (h r G b))
theorem am_mono {X : gx_T} {d : Nat} {M : mt_T} {as : List av_T} {G : mm_T} {k n : Nat} {Q Q' : Option av_T → mm_T → Prop} (h : ∀ r G, Q' r G → Q r G) (kk : aw_M X d M as G k n Q') : aw_M X d M as G k n Q := by
  intro g am p e ha hc hk s m args below h1 h2 h3 h4
  obtain ⟨t, o, a1, a2, a3, ⟨r, G', am', b1, b2, b3⟩, a5⟩ := kk g am p e ha hc hk s m args below h1 h2 h3 h4
  exact ⟨t, o, a1, a2, a3, ⟨r, G', am', b1, h r G' b2, b3⟩, a5⟩
/-- an int on the stack may be told by another of its class -/
theorem ar_mod {X : gx_T} {M : mt_T} {d pc : Nat} {L : List (Nat × Option av_T)} {st : List av_T} {G : mm_T} {k n : Nat} {Q : Option av_T → mm_T → Prop} {x y : Int} (h : Int32.ofInt x = Int32.ofInt y) (kk : aw_W X M d pc L (av_i y :: st) G k n Q) : aw_W X M d pc L (av_i x :: st) G k n Q := by
  intro g p e R s m args below meth c H locs cells slots am am0 ls mc ms QQ hC hR hx hL hs hl h1 h2 h3 h4 hQ
  have h9 := kk g p e R s m args below meth c H locs cells slots am am0 ls mc ms QQ hC hR hx hL (ok_i (ok_t hs)) hl h1 h2 h3 h4 hQ
  show W _ _ _ _ _ _ _ _ _ _ _ _ _ _ _ (F0 m pc ls (.int (Int32.ofInt x) :: st.map (av_t am)))
  rw [h]
  exact h9
theorem ar_modl {X : gx_T} {M : mt_T} {d pc : Nat} {L : List (Nat × Option av_T)} {st : List av_T} {G : mm_T} {k n : Nat} {Q : Option av_T → mm_T → Prop} {x y : Int} (h : Int64.ofInt x = Int64.ofInt y) (kk : aw_W X M d pc L (av_l y :: st) G k n Q) : aw_W X M d pc L (av_l x :: st) G k n Q := by
  intro g p e R s m args below meth c H locs cells slots am am0 ls mc ms QQ hC hR hx hL hs hl h1 h2 h3 h4 hQ
  have h9 := kk g p e R s m args below meth c H locs cells slots am am0 ls mc ms QQ hC hR hx hL (ok_l (ok_t hs)) hl h1 h2 h3 h4 hQ
  show W _ _ _ _ _ _ _ _ _ _ _ _ _ _ _ (F0 m pc ls (.long (Int64.ofInt x) :: st.map (av_t am)))
  rw [h]
  exact h9
/-- what the memory's ints keep -/
theorem ar_rngI {X : gx_T} {M : mt_T} {d pc : Nat} {L : List (Nat × Option av_T)} {st : List av_T} {G : mm_T} {k n : Nat} {Q : Option av_T → mm_T → Prop} (kk : (∀ a j, i3_in (mm_I G a j)) → aw_W X M d pc L st G k n Q) : aw_W X M d pc L st G k n Q := by
  intro g p e R s m args below meth c H locs cells slots am am0 ls mc ms QQ hC hR hx hL hs hl h1 h2 h3 h4 hQ
  exact kk hR.2.2.2.2.1 g p e R s m args below meth c H locs cells slots am am0 ls mc ms QQ hC hR hx hL hs hl h1 h2 h3 h4 hQ
theorem ar_rngJ {X : gx_T} {M : mt_T} {d pc : Nat} {L : List (Nat × Option av_T)} {st : List av_T} {G : mm_T} {k n : Nat} {Q : Option av_T → mm_T → Prop} (kk : (∀ a j, j6_in (mm_J G a j)) → aw_W X M d pc L st G k n Q) : aw_W X M d pc L st G k n Q := by
  intro g p e R s m args below meth c H locs cells slots am am0 ls mc ms QQ hC hR hx hL hs hl h1 h2 h3 h4 hQ
  exact kk hR.2.2.2.2.2.1 g p e R s m args below meth c H locs cells slots am am0 ls mc ms QQ hC hR hx hL hs hl h1 h2 h3 h4 hQ
theorem ar_iconst {X : gx_T} {M : mt_T} {d pc : Nat} {L : List (Nat × Option av_T)} {st : List av_T} {G : mm_T} {k n : Nat} {Q : Option av_T → mm_T → Prop} {x : Int} (hd : decode M.2.1 pc = .ok (.iconst x, 1)) (kk : aw_W X M d (pc + 1) L (av_i x :: st) G k n Q) : aw_W X M d pc L st G k n Q := by
  intro g p e R s m args below meth c H locs cells slots am am0 ls mc ms QQ hC hR hx hL hs hl h1 h2 h3 h4 hQ
  exact lv_iconst hC.1 hC.2.1 hd rfl (kk g p e R s m args below meth c H locs cells slots am am0 ls mc ms QQ hC hR hx hL (ok_i hs) hl h1 h2 h3 h4 hQ)
theorem ar_bipush {X : gx_T} {M : mt_T} {d pc : Nat} {L : List (Nat × Option av_T)} {st : List av_T} {G : mm_T} {k n : Nat} {Q : Option av_T → mm_T → Prop} {x : Int} (hd : decode M.2.1 pc = .ok (.bipush x, 2)) (hv : (Int8.ofInt x).toInt32 = Int32.ofInt x) (kk : aw_W X M d (pc + 2) L (av_i x :: st) G k n Q) : aw_W X M d pc L st G k n Q := by
  intro g p e R s m args below meth c H locs cells slots am am0 ls mc ms QQ hC hR hx hL hs hl h1 h2 h3 h4 hQ
  exact lv_bipush hC.1 hC.2.1 hd hv (kk g p e R s m args below meth c H locs cells slots am am0 ls mc ms QQ hC hR hx hL (ok_i hs) hl h1 h2 h3 h4 hQ)
theorem ar_sipush {X : gx_T} {M : mt_T} {d pc : Nat} {L : List (Nat × Option av_T)} {st : List av_T} {G : mm_T} {k n : Nat} {Q : Option av_T → mm_T → Prop} {x : Int} (hd : decode M.2.1 pc = .ok (.sipush x, 3)) (hv : (Int16.ofInt x).toInt32 = Int32.ofInt x) (kk : aw_W X M d (pc + 3) L (av_i x :: st) G k n Q) : aw_W X M d pc L st G k n Q := by
  intro g p e R s m args below meth c H locs cells slots am am0 ls mc ms QQ hC hR hx hL hs hl h1 h2 h3 h4 hQ
  exact lv_sipush hC.1 hC.2.1 hd hv (kk g p e R s m args below meth c H locs cells slots am am0 ls mc ms QQ hC hR hx hL (ok_i hs) hl h1 h2 h3 h4 hQ)
theorem ar_lconst {X : gx_T} {M : mt_T} {d pc : Nat} {L : List (Nat × Option av_T)} {st : List av_T} {G : mm_T} {k n : Nat} {Q : Option av_T → mm_T → Prop} {z : Fin 2} (x : Int) (hd : decode M.2.1 pc = .ok (.lconst z, 1)) (hv : Int64.ofNat (z : Nat) = Int64.ofInt x) (kk : aw_W X M d (pc + 1) L (av_l x :: st) G k n Q) : aw_W X M d pc L st G k n Q := by
  intro g p e R s m args below meth c H locs cells slots am am0 ls mc ms QQ hC hR hx hL hs hl h1 h2 h3 h4 hQ
  exact lv_lconst hC.1 hC.2.1 hd hv (kk g p e R s m args below meth c H locs cells slots am am0 ls mc ms QQ hC hR hx hL (ok_l hs) hl h1 h2 h3 h4 hQ)
theorem ar_ldc {X : gx_T} {M : mt_T} {d pc : Nat} {L : List (Nat × Option av_T)} {st : List av_T} {G : mm_T} {k n : Nat} {Q : Option av_T → mm_T → Prop} {i : Nat} {v : Int32} (x : Int) (hw : Cond.constant M.1.cls i v ∈ gw_all) (hd : decode M.2.1 pc = .ok (.ldc i, 2)) (hv : v = Int32.ofInt x) (kk : aw_W X M d (pc + 2) L (av_i x :: st) G k n Q) : aw_W X M d pc L st G k n Q := by
  intro g p e R s m args below meth c H locs cells slots am am0 ls mc ms QQ hC hR hx hL hs hl h1 h2 h3 h4 hQ
  subst hv
  exact lv_ldc hC.1 hC.2.1 hC.2.2.2.1 (hC.2.2.2.2.1 _ hw) hd (kk g p e R s m args below meth c H locs cells slots am am0 ls mc ms QQ hC hR hx hL (ok_i hs) hl h1 h2 h3 h4 hQ)
theorem ar_ldcw {X : gx_T} {M : mt_T} {d pc : Nat} {L : List (Nat × Option av_T)} {st : List av_T} {G : mm_T} {k n : Nat} {Q : Option av_T → mm_T → Prop} {i : Nat} {v : Int32} (x : Int) (hw : Cond.constant M.1.cls i v ∈ gw_all) (hd : decode M.2.1 pc = .ok (.ldc_w i, 3)) (hv : v = Int32.ofInt x) (kk : aw_W X M d (pc + 3) L (av_i x :: st) G k n Q) : aw_W X M d pc L st G k n Q := by
  intro g p e R s m args below meth c H locs cells slots am am0 ls mc ms QQ hC hR hx hL hs hl h1 h2 h3 h4 hQ
  subst hv
  exact lv_ldcw hC.1 hC.2.1 hC.2.2.2.1 (hC.2.2.2.2.1 _ hw) hd (kk g p e R s m args below meth c H locs cells slots am am0 ls mc ms QQ hC hR hx hL (ok_i hs) hl h1 h2 h3 h4 hQ)
theorem ar_ldc2 {X : gx_T} {M : mt_T} {d pc : Nat} {L : List (Nat × Option av_T)} {st : List av_T} {G : mm_T} {k n : Nat} {Q : Option av_T → mm_T → Prop} {i : Nat} {v : Int64} (x : Int) (hw : Cond.constantLong M.1.cls i v ∈ gw_all) (hd : decode M.2.1 pc = .ok (.ldc2_w i, 3)) (hv : v = Int64.ofInt x) (kk : aw_W X M d (pc + 3) L (av_l x :: st) G k n Q) : aw_W X M d pc L st G k n Q := by
  intro g p e R s m args below meth c H locs cells slots am am0 ls mc ms QQ hC hR hx hL hs hl h1 h2 h3 h4 hQ
  subst hv
  exact lv_ldc2 hC.1 hC.2.1 hC.2.2.2.1 (hC.2.2.2.2.1 _ hw) hd (kk g p e R s m args below meth c H locs cells slots am am0 ls mc ms QQ hC hR hx hL (ok_l hs) hl h1 h2 h3 h4 hQ)
theorem ar_null {X : gx_T} {M : mt_T} {d pc : Nat} {L : List (Nat × Option av_T)} {st : List av_T} {G : mm_T} {k n : Nat} {Q : Option av_T → mm_T → Prop} (hd : decode M.2.1 pc = .ok (.aconst_null, 1)) (kk : aw_W X M d (pc + 1) L (av_r none :: st) G k n Q) : aw_W X M d pc L st G k n Q := by
  intro g p e R s m args below meth c H locs cells slots am am0 ls mc ms QQ hC hR hx hL hs hl h1 h2 h3 h4 hQ
  exact lv_null hC.1 hC.2.1 hd (kk g p e R s m args below meth c H locs cells slots am am0 ls mc ms QQ hC hR hx hL (ok_c trivial hs) hl h1 h2 h3 h4 hQ)
theorem ar_iload {X : gx_T} {M : mt_T} {d pc : Nat} {L : List (Nat × Option av_T)} {st : List av_T} {G : mm_T} {k n : Nat} {Q : Option av_T → mm_T → Prop} {i : Nat} {x : Int} (hd : decode M.2.1 pc = .ok (.iload i, 2)) (hk : ll_k L i = some (av_i x)) (kk : aw_W X M d (pc + 2) L (av_i x :: st) G k n Q) : aw_W X M d pc L st G k n Q := by
  intro g p e R s m args below meth c H locs cells slots am am0 ls mc ms QQ hC hR hx hL hs hl h1 h2 h3 h4 hQ
  exact lv_iload hC.1 hC.2.1 hd (hL.at hk) (kk g p e R s m args below meth c H locs cells slots am am0 ls mc ms QQ hC hR hx hL (ok_i hs) hl h1 h2 h3 h4 hQ)
theorem ar_iload_n {X : gx_T} {M : mt_T} {d pc : Nat} {L : List (Nat × Option av_T)} {st : List av_T} {G : mm_T} {k n : Nat} {Q : Option av_T → mm_T → Prop} {i : Fin 4} {x : Int} (hd : decode M.2.1 pc = .ok (.iload_n i, 1)) (hk : ll_k L (i : Nat) = some (av_i x)) (kk : aw_W X M d (pc + 1) L (av_i x :: st) G k n Q) : aw_W X M d pc L st G k n Q := by
  intro g p e R s m args below meth c H locs cells slots am am0 ls mc ms QQ hC hR hx hL hs hl h1 h2 h3 h4 hQ
  exact lv_iload_n hC.1 hC.2.1 hd rfl (hL.at hk) (kk g p e R s m args below meth c H locs cells slots am am0 ls mc ms QQ hC hR hx hL (ok_i hs) hl h1 h2 h3 h4 hQ)
theorem ar_lload {X : gx_T} {M : mt_T} {d pc : Nat} {L : List (Nat × Option av_T)} {st : List av_T} {G : mm_T} {k n : Nat} {Q : Option av_T → mm_T → Prop} {i : Nat} {x : Int} (hd : decode M.2.1 pc = .ok (.lload i, 2)) (hk : ll_k L i = some (av_l x)) (kk : aw_W X M d (pc + 2) L (av_l x :: st) G k n Q) : aw_W X M d pc L st G k n Q := by
  intro g p e R s m args below meth c H locs cells slots am am0 ls mc ms QQ hC hR hx hL hs hl h1 h2 h3 h4 hQ
  exact lv_lload hC.1 hC.2.1 hd (hL.at hk) (kk g p e R s m args below meth c H locs cells slots am am0 ls mc ms QQ hC hR hx hL (ok_l hs) hl h1 h2 h3 h4 hQ)
theorem ar_lload_n {X : gx_T} {M : mt_T} {d pc : Nat} {L : List (Nat × Option av_T)} {st : List av_T} {G : mm_T} {k n : Nat} {Q : Option av_T → mm_T → Prop} {i : Fin 4} {x : Int} (hd : decode M.2.1 pc = .ok (.lload_n i, 1)) (hk : ll_k L (i : Nat) = some (av_l x)) (kk : aw_W X M d (pc + 1) L (av_l x :: st) G k n Q) : aw_W X M d pc L st G k n Q := by
  intro g p e R s m args below meth c H locs cells slots am am0 ls mc ms QQ hC hR hx hL hs hl h1 h2 h3 h4 hQ
  exact lv_lload_n hC.1 hC.2.1 hd rfl (hL.at hk) (kk g p e R s m args below meth c H locs cells slots am am0 ls mc ms QQ hC hR hx hL (ok_l hs) hl h1 h2 h3 h4 hQ)
theorem ar_aload {X : gx_T} {M : mt_T} {d pc : Nat} {L : List (Nat × Option av_T)} {st : List av_T} {G : mm_T} {k n : Nat} {Q : Option av_T → mm_T → Prop} {i : Nat} {r : Option Nat} (hd : decode M.2.1 pc = .ok (.aload i, 2)) (hk : ll_k L i = some (av_r r)) (kk : aw_W X M d (pc + 2) L (av_r r :: st) G k n Q) : aw_W X M d pc L st G k n Q := by
  intro g p e R s m args below meth c H locs cells slots am am0 ls mc ms QQ hC hR hx hL hs hl h1 h2 h3 h4 hQ
  have hok := (hL.2.2 _ _ hk).2
  have hat := hL.at hk
  have h9 := kk g p e R s m args below meth c H locs cells slots am am0 ls mc ms QQ hC hR hx hL (ok_c hok hs) hl h1 h2 h3 h4 hQ
  cases r with
  | none => exact lv_aloadN hC.1 hC.2.1 hd hat h9
  | some a =>
    obtain ⟨q, hq, e⟩ := av_ref hok
    rw [e] at hat
    rw [List.map_cons, e] at h9
    exact lv_aload hC.1 hC.2.1 hd hat h9
theorem ar_aload_n {X : gx_T} {M : mt_T} {d pc : Nat} {L : List (Nat × Option av_T)} {st : List av_T} {G : mm_T} {k n : Nat} {Q : Option av_T → mm_T → Prop} {i : Fin 4} {r : Option Nat} (hd : decode M.2.1 pc = .ok (.aload_n i, 1)) (hk : ll_k L (i : Nat) = some (av_r r)) (kk : aw_W X M d (pc + 1) L (av_r r :: st) G k n Q) : aw_W X M d pc L st G k n Q := by
  intro g p e R s m args below meth c H locs cells slots am am0 ls mc ms QQ hC hR hx hL hs hl h1 h2 h3 h4 hQ
  have hok := (hL.2.2 _ _ hk).2
  have hat := hL.at hk
  have h9 := kk g p e R s m args below meth c H locs cells slots am am0 ls mc ms QQ hC hR hx hL (ok_c hok hs) hl h1 h2 h3 h4 hQ
  cases r with
  | none => exact lv_aload_nN hC.1 hC.2.1 hd rfl hat h9
  | some a =>
    obtain ⟨q, hq, e⟩ := av_ref hok
    rw [e] at hat
    rw [List.map_cons, e] at h9
    exact lv_aload_n hC.1 hC.2.1 hd rfl hat h9
theorem ar_istore {X : gx_T} {M : mt_T} {d pc : Nat} {L : List (Nat × Option av_T)} {st : List av_T} {G : mm_T} {k n : Nat} {Q : Option av_T → mm_T → Prop} {i : Nat} {x : Int} (hd : decode M.2.1 pc = .ok (.istore i, 2)) (h0 : ll_1 L i = true) (hn : i < M.2.2.1) (kk : aw_W X M d (pc + 2) ((i, some (av_i x)) :: L) st G k n Q) : aw_W X M d pc L (av_i x :: st) G k n Q := by
  intro g p e R s m args below meth c H locs cells slots am am0 ls mc ms QQ hC hR hx hL hs hl h1 h2 h3 h4 hQ
  exact lv_istore hC.1 hC.2.1 hd hL.has hn rfl (fun ls2 hl2 => kk g p e R s m args below meth c H locs cells slots am am0 ls2 mc ms QQ hC hR hx (hL.put1 (v := av_i x) trivial h0 hl2) (ok_t hs) hl h1 h2 h3 h4 hQ)
theorem ar_lstore {X : gx_T} {M : mt_T} {d pc : Nat} {L : List (Nat × Option av_T)} {st : List av_T} {G : mm_T} {k n : Nat} {Q : Option av_T → mm_T → Prop} {i : Nat} {x : Int} (hd : decode M.2.1 pc = .ok (.lstore i, 2)) (h0 : ll_1 L i = true) (hn : i + 1 < M.2.2.1) (kk : aw_W X M d (pc + 2) ((i, some (av_l x)) :: (i + 1, none) :: L) st G k n Q) : aw_W X M d pc L (av_l x :: st) G k n Q := by
  intro g p e R s m args below meth c H locs cells slots am am0 ls mc ms QQ hC hR hx hL hs hl h1 h2 h3 h4 hQ
  exact lv_lstore hC.1 hC.2.1 hd hL.has hn rfl (fun ls2 hl2 => kk g p e R s m args below meth c H locs cells slots am am0 ls2 mc ms QQ hC hR hx (hL.put2 (v := av_l x) trivial h0 hl2) (ok_t hs) hl h1 h2 h3 h4 hQ)
theorem ar_astore {X : gx_T} {M : mt_T} {d pc : Nat} {L : List (Nat × Option av_T)} {st : List av_T} {G : mm_T} {k n : Nat} {Q : Option av_T → mm_T → Prop} {i : Nat} {r : Option Nat} (hd : decode M.2.1 pc = .ok (.astore i, 2)) (h0 : ll_1 L i = true) (hn : i < M.2.2.1) (kk : aw_W X M d (pc + 2) ((i, some (av_r r)) :: L) st G k n Q) : aw_W X M d pc L (av_r r :: st) G k n Q := by
  intro g p e R s m args below meth c H locs cells slots am am0 ls mc ms QQ hC hR hx hL hs hl h1 h2 h3 h4 hQ
  have hok := ok_h hs
  have key : ∀ (ls2 : Array Slot), lv_has ls2 M.2.2.1 ((i, av_t am (av_r r)) :: (ll_v am L).filter (fun q => !(q.1 == i) && !(q.1 + 1 == i && q.2.category == 2))) → W p (gp_l g) e R s m args below meth c H locs cells slots QQ (F0 m (pc + 2) ls2 (st.map (av_t am))) := fun ls2 hl2 => kk g p e R s m args below meth c H locs cells slots am am0 ls2 mc ms QQ hC hR hx (hL.put1 (v := av_r r) hok h0 hl2) (ok_t hs) hl h1 h2 h3 h4 hQ
  cases r with
  | none => exact lv_astoreN hC.1 hC.2.1 hd hL.has hn rfl key
  | some a =>
    obtain ⟨q, hq, e⟩ := av_ref hok
    rw [e] at key
    rw [List.map_cons, e]
    exact lv_astore hC.1 hC.2.1 hd hL.has hn rfl key
theorem ar_istore_n {X : gx_T} {M : mt_T} {d pc : Nat} {L : List (Nat × Option av_T)} {st : List av_T} {G : mm_T} {k n : Nat} {Q : Option av_T → mm_T → Prop} {i : Fin 4} {x : Int} (hd : decode M.2.1 pc = .ok (.istore_n i, 1)) (h0 : ll_1 L (i : Nat) = true) (hn : (i : Nat) < M.2.2.1) (kk : aw_W X M d (pc + 1) (((i : Nat), some (av_i x)) :: L) st G k n Q) : aw_W X M d pc L (av_i x :: st) G k n Q := by
  intro g p e R s m args below meth c H locs cells slots am am0 ls mc ms QQ hC hR hx hL hs hl h1 h2 h3 h4 hQ
  exact lv_istore_n hC.1 hC.2.1 hd rfl hL.has hn rfl (fun ls2 hl2 => kk g p e R s m args below meth c H locs cells slots am am0 ls2 mc ms QQ hC hR hx (hL.put1 (v := av_i x) trivial h0 hl2) (ok_t hs) hl h1 h2 h3 h4 hQ)
theorem ar_lstore_n {X : gx_T} {M : mt_T} {d pc : Nat} {L : List (Nat × Option av_T)} {st : List av_T} {G : mm_T} {k n : Nat} {Q : Option av_T → mm_T → Prop} {i : Fin 4} {x : Int} (hd : decode M.2.1 pc = .ok (.lstore_n i, 1)) (h0 : ll_1 L (i : Nat) = true) (hn : (i : Nat) + 1 < M.2.2.1) (kk : aw_W X M d (pc + 1) (((i : Nat), some (av_l x)) :: ((i : Nat) + 1, none) :: L) st G k n Q) : aw_W X M d pc L (av_l x :: st) G k n Q := by
  intro g p e R s m args below meth c H locs cells slots am am0 ls mc ms QQ hC hR hx hL hs hl h1 h2 h3 h4 hQ
  exact lv_lstore_n hC.1 hC.2.1 hd rfl hL.has hn rfl (fun ls2 hl2 => kk g p e R s m args below meth c H locs cells slots am am0 ls2 mc ms QQ hC hR hx (hL.put2 (v := av_l x) trivial h0 hl2) (ok_t hs) hl h1 h2 h3 h4 hQ)
theorem ar_astore_n {X : gx_T} {M : mt_T} {d pc : Nat} {L : List (Nat × Option av_T)} {st : List av_T} {G : mm_T} {k n : Nat} {Q : Option av_T → mm_T → Prop} {i : Fin 4} {r : Option Nat} (hd : decode M.2.1 pc = .ok (.astore_n i, 1)) (h0 : ll_1 L (i : Nat) = true) (hn : (i : Nat) < M.2.2.1) (kk : aw_W X M d (pc + 1) (((i : Nat), some (av_r r)) :: L) st G k n Q) : aw_W X M d pc L (av_r r :: st) G k n Q := by
  intro g p e R s m args below meth c H locs cells slots am am0 ls mc ms QQ hC hR hx hL hs hl h1 h2 h3 h4 hQ
  have hok := ok_h hs
  have key : ∀ (ls2 : Array Slot), lv_has ls2 M.2.2.1 (((i : Nat), av_t am (av_r r)) :: (ll_v am L).filter (fun q => !(q.1 == (i : Nat)) && !(q.1 + 1 == (i : Nat) && q.2.category == 2))) → W p (gp_l g) e R s m args below meth c H locs cells slots QQ (F0 m (pc + 1) ls2 (st.map (av_t am))) := fun ls2 hl2 => kk g p e R s m args below meth c H locs cells slots am am0 ls2 mc ms QQ hC hR hx (hL.put1 (v := av_r r) hok h0 hl2) (ok_t hs) hl h1 h2 h3 h4 hQ
  cases r with
  | none => exact lv_astore_nN hC.1 hC.2.1 hd rfl hL.has hn rfl key
  | some a =>
    obtain ⟨q, hq, e⟩ := av_ref hok
    rw [e] at key
    rw [List.map_cons, e]
    exact lv_astore_n hC.1 hC.2.1 hd rfl hL.has hn rfl key
theorem ar_iinc {X : gx_T} {M : mt_T} {d pc : Nat} {L : List (Nat × Option av_T)} {st : List av_T} {G : mm_T} {k n : Nat} {Q : Option av_T → mm_T → Prop} {i : Nat} {x z : Int} (hd : decode M.2.1 pc = .ok (.iinc i z, 3)) (hk : ll_k L i = some (av_i x)) (h0 : ll_1 L i = true) (hn : i < M.2.2.1) (kk : aw_W X M d (pc + 3) ((i, some (av_i (x + z))) :: L) st G k n Q) : aw_W X M d pc L st G k n Q := by
  intro g p e R s m args below meth c H locs cells slots am am0 ls mc ms QQ hC hR hx hL hs hl h1 h2 h3 h4 hQ
  have hm : (i, Value.int (Int32.ofInt x)) ∈ ll_v am L := ll_vis hk
  obtain ⟨j, hj⟩ := List.getElem?_of_mem hm
  exact lv_iinc hC.1 hC.2.1 hd hL.has hj (Int32.ofInt_add x z).symm hn rfl (fun ls2 hl2 => kk g p e R s m args below meth c H locs cells slots am am0 ls2 mc ms QQ hC hR hx (hL.put1 (v := av_i (x + z)) trivial h0 hl2) (hs) hl h1 h2 h3 h4 hQ)
theorem ar_iadd {X : gx_T} {M : mt_T} {d pc : Nat} {L : List (Nat × Option av_T)} {st : List av_T} {G : mm_T} {k n : Nat} {Q : Option av_T → mm_T → Prop} {x y : Int} (hd : decode M.2.1 pc = .ok (.iadd, 1)) (kk : aw_W X M d (pc + 1) L (av_i (x + y) :: st) G k n Q) : aw_W X M d pc L (av_i y :: av_i x :: st) G k n Q := by
  intro g p e R s m args below meth c H locs cells slots am am0 ls mc ms QQ hC hR hx hL hs hl h1 h2 h3 h4 hQ
  have h9 := kk g p e R s m args below meth c H locs cells slots am am0 ls mc ms QQ hC hR hx hL (ok_i (ok_t (ok_t hs))) hl h1 h2 h3 h4 hQ
  rw [List.map_cons, av_t_i, Int32.ofInt_add] at h9
  exact lv_iadd hC.1 hC.2.1 hd h9
theorem ar_isub {X : gx_T} {M : mt_T} {d pc : Nat} {L : List (Nat × Option av_T)} {st : List av_T} {G : mm_T} {k n : Nat} {Q : Option av_T → mm_T → Prop} {x y : Int} (hd : decode M.2.1 pc = .ok (.isub, 1)) (kk : aw_W X M d (pc + 1) L (av_i (x - y) :: st) G k n Q) : aw_W X M d pc L (av_i y :: av_i x :: st) G k n Q := by
  intro g p e R s m args below meth c H locs cells slots am am0 ls mc ms QQ hC hR hx hL hs hl h1 h2 h3 h4 hQ
  have h9 := kk g p e R s m args below meth c H locs cells slots am am0 ls mc ms QQ hC hR hx hL (ok_i (ok_t (ok_t hs))) hl h1 h2 h3 h4 hQ
  rw [List.map_cons, av_t_i, Int32.ofInt_sub] at h9
  exact lv_isub hC.1 hC.2.1 hd h9
theorem ar_imul {X : gx_T} {M : mt_T} {d pc : Nat} {L : List (Nat × Option av_T)} {st : List av_T} {G : mm_T} {k n : Nat} {Q : Option av_T → mm_T → Prop} {x y : Int} (hd : decode M.2.1 pc = .ok (.imul, 1)) (kk : aw_W X M d (pc + 1) L (av_i (x * y) :: st) G k n Q) : aw_W X M d pc L (av_i y :: av_i x :: st) G k n Q := by
  intro g p e R s m args below meth c H locs cells slots am am0 ls mc ms QQ hC hR hx hL hs hl h1 h2 h3 h4 hQ
  have h9 := kk g p e R s m args below meth c H locs cells slots am am0 ls mc ms QQ hC hR hx hL (ok_i (ok_t (ok_t hs))) hl h1 h2 h3 h4 hQ
  rw [List.map_cons, av_t_i, Int32.ofInt_mul] at h9
  exact lv_imul hC.1 hC.2.1 hd h9
theorem ar_ladd {X : gx_T} {M : mt_T} {d pc : Nat} {L : List (Nat × Option av_T)} {st : List av_T} {G : mm_T} {k n : Nat} {Q : Option av_T → mm_T → Prop} {x y : Int} (hd : decode M.2.1 pc = .ok (.ladd, 1)) (kk : aw_W X M d (pc + 1) L (av_l (x + y) :: st) G k n Q) : aw_W X M d pc L (av_l y :: av_l x :: st) G k n Q := by
  intro g p e R s m args below meth c H locs cells slots am am0 ls mc ms QQ hC hR hx hL hs hl h1 h2 h3 h4 hQ
  have h9 := kk g p e R s m args below meth c H locs cells slots am am0 ls mc ms QQ hC hR hx hL (ok_l (ok_t (ok_t hs))) hl h1 h2 h3 h4 hQ
  rw [List.map_cons, av_t_l, Int64.ofInt_add] at h9
  exact lv_ladd hC.1 hC.2.1 hd h9
theorem ar_lsub {X : gx_T} {M : mt_T} {d pc : Nat} {L : List (Nat × Option av_T)} {st : List av_T} {G : mm_T} {k n : Nat} {Q : Option av_T → mm_T → Prop} {x y : Int} (hd : decode M.2.1 pc = .ok (.lsub, 1)) (kk : aw_W X M d (pc + 1) L (av_l (x - y) :: st) G k n Q) : aw_W X M d pc L (av_l y :: av_l x :: st) G k n Q := by
  intro g p e R s m args below meth c H locs cells slots am am0 ls mc ms QQ hC hR hx hL hs hl h1 h2 h3 h4 hQ
  have h9 := kk g p e R s m args below meth c H locs cells slots am am0 ls mc ms QQ hC hR hx hL (ok_l (ok_t (ok_t hs))) hl h1 h2 h3 h4 hQ
  rw [List.map_cons, av_t_l, Int64.ofInt_sub] at h9
  exact lv_lsub hC.1 hC.2.1 hd h9
theorem ar_lmul {X : gx_T} {M : mt_T} {d pc : Nat} {L : List (Nat × Option av_T)} {st : List av_T} {G : mm_T} {k n : Nat} {Q : Option av_T → mm_T → Prop} {x y : Int} (hd : decode M.2.1 pc = .ok (.lmul, 1)) (kk : aw_W X M d (pc + 1) L (av_l (x * y) :: st) G k n Q) : aw_W X M d pc L (av_l y :: av_l x :: st) G k n Q := by
  intro g p e R s m args below meth c H locs cells slots am am0 ls mc ms QQ hC hR hx hL hs hl h1 h2 h3 h4 hQ
  have h9 := kk g p e R s m args below meth c H locs cells slots am am0 ls mc ms QQ hC hR hx hL (ok_l (ok_t (ok_t hs))) hl h1 h2 h3 h4 hQ
  rw [List.map_cons, av_t_l, Int64.ofInt_mul] at h9
  exact lv_lmul hC.1 hC.2.1 hd h9
theorem ar_ineg {X : gx_T} {M : mt_T} {d pc : Nat} {L : List (Nat × Option av_T)} {st : List av_T} {G : mm_T} {k n : Nat} {Q : Option av_T → mm_T → Prop} {x : Int} (hd : decode M.2.1 pc = .ok (.ineg, 1)) (kk : aw_W X M d (pc + 1) L (av_i (-x) :: st) G k n Q) : aw_W X M d pc L (av_i x :: st) G k n Q := by
  intro g p e R s m args below meth c H locs cells slots am am0 ls mc ms QQ hC hR hx hL hs hl h1 h2 h3 h4 hQ
  have h9 := kk g p e R s m args below meth c H locs cells slots am am0 ls mc ms QQ hC hR hx hL (ok_i (ok_t hs)) hl h1 h2 h3 h4 hQ
  rw [List.map_cons, av_t_i, Int32.ofInt_neg] at h9
  exact lv_ineg hC.1 hC.2.1 hd h9
theorem ar_idiv {X : gx_T} {M : mt_T} {d pc : Nat} {L : List (Nat × Option av_T)} {st : List av_T} {G : mm_T} {k n : Nat} {Q : Option av_T → mm_T → Prop} {x y : Int} (hd : decode M.2.1 pc = .ok (.idiv, 1)) (hy0 : y ≠ 0) (hxr : i3_in x) (hyr : i3_in y) (kk : aw_W X M d (pc + 1) L (av_i (x.tdiv y) :: st) G k n Q) : aw_W X M d pc L (av_i y :: av_i x :: st) G k n Q := by
  intro g p e R s m args below meth c H locs cells slots am am0 ls mc ms QQ hC hR hx hL hs hl h1 h2 h3 h4 hQ
  have h9 := kk g p e R s m args below meth c H locs cells slots am am0 ls mc ms QQ hC hR hx hL (ok_i (ok_t (ok_t hs))) hl h1 h2 h3 h4 hQ
  rw [List.map_cons, av_t_i, Int32.ofInt_tdiv hxr.1 hxr.2 hyr.1 hyr.2] at h9
  exact lv_idiv hC.1 hC.2.1 hd (fun z => hy0 ((i3_eq hyr i3_0).mp z)) h9
theorem ar_idivp {X : gx_T} {M : mt_T} {d pc : Nat} {L : List (Nat × Option av_T)} {st : List av_T} {G : mm_T} {k n : Nat} {Q : Option av_T → mm_T → Prop} {x y : Int} (hd : decode M.2.1 pc = .ok (.idiv, 1)) (hx0 : 0 ≤ x) (hx9 : x ≤ 2147483647) (hy0 : 0 < y) (hy9 : y ≤ 2147483647) (kk : aw_W X M d (pc + 1) L (av_i (x / y) :: st) G k n Q) : aw_W X M d pc L (av_i y :: av_i x :: st) G k n Q := by
  intro g p e R s m args below meth c H locs cells slots am am0 ls mc ms QQ hC hR hx hL hs hl h1 h2 h3 h4 hQ
  exact ar_idiv hd (by omega) ⟨by omega, hx9⟩ ⟨by omega, hy9⟩ (by rw [Int.tdiv_eq_ediv_of_nonneg hx0]; exact kk) g p e R s m args below meth c H locs cells slots am am0 ls mc ms QQ hC hR hx hL hs hl h1 h2 h3 h4 hQ
theorem ar_irem {X : gx_T} {M : mt_T} {d pc : Nat} {L : List (Nat × Option av_T)} {st : List av_T} {G : mm_T} {k n : Nat} {Q : Option av_T → mm_T → Prop} {x y : Int} (hd : decode M.2.1 pc = .ok (.irem, 1)) (hx0 : 0 ≤ x) (hx9 : x ≤ 2147483647) (hy0 : 0 < y) (hy9 : y ≤ 2147483647) (kk : aw_W X M d (pc + 1) L (av_i (x % y) :: st) G k n Q) : aw_W X M d pc L (av_i y :: av_i x :: st) G k n Q := by
  intro g p e R s m args below meth c H locs cells slots am am0 ls mc ms QQ hC hR hx hL hs hl h1 h2 h3 h4 hQ
  have h9 := kk g p e R s m args below meth c H locs cells slots am am0 ls mc ms QQ hC hR hx hL (ok_i (ok_t (ok_t hs))) hl h1 h2 h3 h4 hQ
  have hyr : i3_in y := ⟨by omega, hy9⟩
  have e1 : x % y = x - x.tdiv y * y := by rw [Int.tdiv_eq_ediv_of_nonneg hx0, Int.emod_def, Int.mul_comm]
  rw [List.map_cons, av_t_i, e1, Int32.ofInt_sub, Int32.ofInt_mul, Int32.ofInt_tdiv (show (-2147483648 : Int) ≤ x by omega) hx9 hyr.1 hyr.2] at h9
  exact lv_irem hC.1 hC.2.1 hd (fun z => by have := (i3_eq hyr i3_0).mp z; omega) h9
theorem ar_ldivp {X : gx_T} {M : mt_T} {d pc : Nat} {L : List (Nat × Option av_T)} {st : List av_T} {G : mm_T} {k n : Nat} {Q : Option av_T → mm_T → Prop} {x y : Int} (hd : decode M.2.1 pc = .ok (.ldiv, 1)) (hx0 : 0 ≤ x) (hx9 : x ≤ 9223372036854775807) (hy0 : 0 < y) (hy9 : y ≤ 9223372036854775807) (kk : aw_W X M d (pc + 1) L (av_l (x / y) :: st) G k n Q) : aw_W X M d pc L (av_l y :: av_l x :: st) G k n Q := by
  intro g p e R s m args below meth c H locs cells slots am am0 ls mc ms QQ hC hR hx hL hs hl h1 h2 h3 h4 hQ
  have h9 := kk g p e R s m args below meth c H locs cells slots am am0 ls mc ms QQ hC hR hx hL (ok_l (ok_t (ok_t hs))) hl h1 h2 h3 h4 hQ
  have hyr : j6_in y := ⟨by omega, hy9⟩
  rw [List.map_cons, av_t_l, ← Int.tdiv_eq_ediv_of_nonneg hx0, Int64.ofInt_tdiv (show (-9223372036854775808 : Int) ≤ x by omega) hx9 hyr.1 hyr.2] at h9
  exact lv_ldiv hC.1 hC.2.1 hd (fun z => by have := (j6_eq (y := 0) hyr ⟨by omega, by omega⟩).mp (z.trans rfl); omega) h9
theorem ar_i2l {X : gx_T} {M : mt_T} {d pc : Nat} {L : List (Nat × Option av_T)} {st : List av_T} {G : mm_T} {k n : Nat} {Q : Option av_T → mm_T → Prop} {x : Int} (hd : decode M.2.1 pc = .ok (.i2l, 1)) (hxr : i3_in x) (kk : aw_W X M d (pc + 1) L (av_l x :: st) G k n Q) : aw_W X M d pc L (av_i x :: st) G k n Q := by
  intro g p e R s m args below meth c H locs cells slots am am0 ls mc ms QQ hC hR hx hL hs hl h1 h2 h3 h4 hQ
  exact lv_i2l hC.1 hC.2.1 hd (Int32.toInt64_ofInt hxr.1 hxr.2) (kk g p e R s m args below meth c H locs cells slots am am0 ls mc ms QQ hC hR hx hL (ok_l (ok_t hs)) hl h1 h2 h3 h4 hQ)
def b_iand (x y : Int) : Int := (Int32.ofInt x &&& Int32.ofInt y).toInt
theorem ar_iand {X : gx_T} {M : mt_T} {d pc : Nat} {L : List (Nat × Option av_T)} {st : List av_T} {G : mm_T} {k n : Nat} {Q : Option av_T → mm_T → Prop} {x y : Int} (hd : decode M.2.1 pc = .ok (.iand, 1)) (kk : aw_W X M d (pc + 1) L (av_i (b_iand x y) :: st) G k n Q) : aw_W X M d pc L (av_i y :: av_i x :: st) G k n Q := by
  intro g p e R s m args below meth c H locs cells slots am am0 ls mc ms QQ hC hR hx hL hs hl h1 h2 h3 h4 hQ
  have h9 := kk g p e R s m args below meth c H locs cells slots am am0 ls mc ms QQ hC hR hx hL (ok_i (ok_t (ok_t hs))) hl h1 h2 h3 h4 hQ
  rw [List.map_cons, av_t_i, b_iand, Int32.ofInt_toInt] at h9
  exact lv_iand hC.1 hC.2.1 hd h9
def b_ior (x y : Int) : Int := (Int32.ofInt x ||| Int32.ofInt y).toInt
theorem ar_ior {X : gx_T} {M : mt_T} {d pc : Nat} {L : List (Nat × Option av_T)} {st : List av_T} {G : mm_T} {k n : Nat} {Q : Option av_T → mm_T → Prop} {x y : Int} (hd : decode M.2.1 pc = .ok (.ior, 1)) (kk : aw_W X M d (pc + 1) L (av_i (b_ior x y) :: st) G k n Q) : aw_W X M d pc L (av_i y :: av_i x :: st) G k n Q := by
  intro g p e R s m args below meth c H locs cells slots am am0 ls mc ms QQ hC hR hx hL hs hl h1 h2 h3 h4 hQ
  have h9 := kk g p e R s m args below meth c H locs cells slots am am0 ls mc ms QQ hC hR hx hL (ok_i (ok_t (ok_t hs))) hl h1 h2 h3 h4 hQ
  rw [List.map_cons, av_t_i, b_ior, Int32.ofInt_toInt] at h9
  exact lv_ior hC.1 hC.2.1 hd h9
def b_ixor (x y : Int) : Int := (Int32.ofInt x ^^^ Int32.ofInt y).toInt
theorem ar_ixor {X : gx_T} {M : mt_T} {d pc : Nat} {L : List (Nat × Option av_T)} {st : List av_T} {G : mm_T} {k n : Nat} {Q : Option av_T → mm_T → Prop} {x y : Int} (hd : decode M.2.1 pc = .ok (.ixor, 1)) (kk : aw_W X M d (pc + 1) L (av_i (b_ixor x y) :: st) G k n Q) : aw_W X M d pc L (av_i y :: av_i x :: st) G k n Q := by
  intro g p e R s m args below meth c H locs cells slots am am0 ls mc ms QQ hC hR hx hL hs hl h1 h2 h3 h4 hQ
  have h9 := kk g p e R s m args below meth c H locs cells slots am am0 ls mc ms QQ hC hR hx hL (ok_i (ok_t (ok_t hs))) hl h1 h2 h3 h4 hQ
  rw [List.map_cons, av_t_i, b_ixor, Int32.ofInt_toInt] at h9
  exact lv_ixor hC.1 hC.2.1 hd h9
def b_ishl (x y : Int) : Int := (Int32.ofInt x <<< (Int32.ofInt y &&& 31)).toInt
theorem ar_ishl {X : gx_T} {M : mt_T} {d pc : Nat} {L : List (Nat × Option av_T)} {st : List av_T} {G : mm_T} {k n : Nat} {Q : Option av_T → mm_T → Prop} {x y : Int} (hd : decode M.2.1 pc = .ok (.ishl, 1)) (kk : aw_W X M d (pc + 1) L (av_i (b_ishl x y) :: st) G k n Q) : aw_W X M d pc L (av_i y :: av_i x :: st) G k n Q := by
  intro g p e R s m args below meth c H locs cells slots am am0 ls mc ms QQ hC hR hx hL hs hl h1 h2 h3 h4 hQ
  have h9 := kk g p e R s m args below meth c H locs cells slots am am0 ls mc ms QQ hC hR hx hL (ok_i (ok_t (ok_t hs))) hl h1 h2 h3 h4 hQ
  rw [List.map_cons, av_t_i, b_ishl, Int32.ofInt_toInt] at h9
  exact lv_ishl hC.1 hC.2.1 hd h9
def b_ishr (x y : Int) : Int := (Int32.ofInt x >>> (Int32.ofInt y &&& 31)).toInt
theorem ar_ishr {X : gx_T} {M : mt_T} {d pc : Nat} {L : List (Nat × Option av_T)} {st : List av_T} {G : mm_T} {k n : Nat} {Q : Option av_T → mm_T → Prop} {x y : Int} (hd : decode M.2.1 pc = .ok (.ishr, 1)) (kk : aw_W X M d (pc + 1) L (av_i (b_ishr x y) :: st) G k n Q) : aw_W X M d pc L (av_i y :: av_i x :: st) G k n Q := by
  intro g p e R s m args below meth c H locs cells slots am am0 ls mc ms QQ hC hR hx hL hs hl h1 h2 h3 h4 hQ
  have h9 := kk g p e R s m args below meth c H locs cells slots am am0 ls mc ms QQ hC hR hx hL (ok_i (ok_t (ok_t hs))) hl h1 h2 h3 h4 hQ
  rw [List.map_cons, av_t_i, b_ishr, Int32.ofInt_toInt] at h9
  exact lv_ishr hC.1 hC.2.1 hd h9
def b_land (x y : Int) : Int := (Int64.ofInt x &&& Int64.ofInt y).toInt
theorem ar_land {X : gx_T} {M : mt_T} {d pc : Nat} {L : List (Nat × Option av_T)} {st : List av_T} {G : mm_T} {k n : Nat} {Q : Option av_T → mm_T → Prop} {x y : Int} (hd : decode M.2.1 pc = .ok (.land, 1)) (kk : aw_W X M d (pc + 1) L (av_l (b_land x y) :: st) G k n Q) : aw_W X M d pc L (av_l y :: av_l x :: st) G k n Q := by
  intro g p e R s m args below meth c H locs cells slots am am0 ls mc ms QQ hC hR hx hL hs hl h1 h2 h3 h4 hQ
  have h9 := kk g p e R s m args below meth c H locs cells slots am am0 ls mc ms QQ hC hR hx hL (ok_l (ok_t (ok_t hs))) hl h1 h2 h3 h4 hQ
  rw [List.map_cons, av_t_l, b_land, Int64.ofInt_toInt] at h9
  exact lv_land hC.1 hC.2.1 hd h9
def b_lor (x y : Int) : Int := (Int64.ofInt x ||| Int64.ofInt y).toInt
theorem ar_lor {X : gx_T} {M : mt_T} {d pc : Nat} {L : List (Nat × Option av_T)} {st : List av_T} {G : mm_T} {k n : Nat} {Q : Option av_T → mm_T → Prop} {x y : Int} (hd : decode M.2.1 pc = .ok (.lor, 1)) (kk : aw_W X M d (pc + 1) L (av_l (b_lor x y) :: st) G k n Q) : aw_W X M d pc L (av_l y :: av_l x :: st) G k n Q := by
  intro g p e R s m args below meth c H locs cells slots am am0 ls mc ms QQ hC hR hx hL hs hl h1 h2 h3 h4 hQ
  have h9 := kk g p e R s m args below meth c H locs cells slots am am0 ls mc ms QQ hC hR hx hL (ok_l (ok_t (ok_t hs))) hl h1 h2 h3 h4 hQ
  rw [List.map_cons, av_t_l, b_lor, Int64.ofInt_toInt] at h9
  exact lv_lor hC.1 hC.2.1 hd h9
def b_iushr (x y : Int) : Int := ((Int32.ofInt x).toUInt32 >>> ((Int32.ofInt y).toUInt32 &&& Int32.toUInt32 31)).toInt32.toInt
theorem ar_iushr {X : gx_T} {M : mt_T} {d pc : Nat} {L : List (Nat × Option av_T)} {st : List av_T} {G : mm_T} {k n : Nat} {Q : Option av_T → mm_T → Prop} {x y : Int} (hd : decode M.2.1 pc = .ok (.iushr, 1)) (kk : aw_W X M d (pc + 1) L (av_i (b_iushr x y) :: st) G k n Q) : aw_W X M d pc L (av_i y :: av_i x :: st) G k n Q := by
  intro g p e R s m args below meth c H locs cells slots am am0 ls mc ms QQ hC hR hx hL hs hl h1 h2 h3 h4 hQ
  exact lv_iushr hC.1 hC.2.1 hd (by rw [b_iushr, Int32.ofInt_toInt]) (kk g p e R s m args below meth c H locs cells slots am am0 ls mc ms QQ hC hR hx hL (ok_i (ok_t (ok_t hs))) hl h1 h2 h3 h4 hQ)
def b_lushr (x y : Int) : Int := ((Int64.ofInt x).toUInt64 >>> ((Int32.ofInt y).toInt64.toUInt64 &&& Int64.toUInt64 63)).toInt64.toInt
theorem ar_lushr {X : gx_T} {M : mt_T} {d pc : Nat} {L : List (Nat × Option av_T)} {st : List av_T} {G : mm_T} {k n : Nat} {Q : Option av_T → mm_T → Prop} {x y : Int} (hd : decode M.2.1 pc = .ok (.lushr, 1)) (kk : aw_W X M d (pc + 1) L (av_l (b_lushr x y) :: st) G k n Q) : aw_W X M d pc L (av_i y :: av_l x :: st) G k n Q := by
  intro g p e R s m args below meth c H locs cells slots am am0 ls mc ms QQ hC hR hx hL hs hl h1 h2 h3 h4 hQ
  exact lv_lushr hC.1 hC.2.1 hd (by rw [b_lushr, Int64.ofInt_toInt]) (kk g p e R s m args below meth c H locs cells slots am am0 ls mc ms QQ hC hR hx hL (ok_l (ok_t (ok_t hs))) hl h1 h2 h3 h4 hQ)
def b_lshl (x y : Int) : Int := (Int64.ofInt x <<< ((Int32.ofInt y).toInt64 &&& 63)).toInt
theorem ar_lshl {X : gx_T} {M : mt_T} {d pc : Nat} {L : List (Nat × Option av_T)} {st : List av_T} {G : mm_T} {k n : Nat} {Q : Option av_T → mm_T → Prop} {x y : Int} (hd : decode M.2.1 pc = .ok (.lshl, 1)) (kk : aw_W X M d (pc + 1) L (av_l (b_lshl x y) :: st) G k n Q) : aw_W X M d pc L (av_i y :: av_l x :: st) G k n Q := by
  intro g p e R s m args below meth c H locs cells slots am am0 ls mc ms QQ hC hR hx hL hs hl h1 h2 h3 h4 hQ
  exact lv_lshl hC.1 hC.2.1 hd (by rw [b_lshl, Int64.ofInt_toInt]) (kk g p e R s m args below meth c H locs cells slots am am0 ls mc ms QQ hC hR hx hL (ok_l (ok_t (ok_t hs))) hl h1 h2 h3 h4 hQ)
theorem ar_lcmp {X : gx_T} {M : mt_T} {d pc : Nat} {L : List (Nat × Option av_T)} {st : List av_T} {G : mm_T} {k n : Nat} {Q : Option av_T → mm_T → Prop} {x y : Int} (hd : decode M.2.1 pc = .ok (.lcmp, 1)) (hxr : j6_in x) (hyr : j6_in y) (kk : aw_W X M d (pc + 1) L (av_i (if y < x then 1 else if x = y then 0 else -1) :: st) G k n Q) : aw_W X M d pc L (av_l y :: av_l x :: st) G k n Q := by
  intro g p e R s m args below meth c H locs cells slots am am0 ls mc ms QQ hC hR hx hL hs hl h1 h2 h3 h4 hQ
  have h9 := kk g p e R s m args below meth c H locs cells slots am am0 ls mc ms QQ hC hR hx hL (ok_i (ok_t (ok_t hs))) hl h1 h2 h3 h4 hQ
  have e1 : Int32.ofInt (if y < x then 1 else if x = y then 0 else -1) = lg_cmp (Int64.ofInt x) (Int64.ofInt y) := by
    unfold lg_cmp
    by_cases hc : y < x
    · rw [if_pos hc, if_pos ((j6_lt hyr hxr).mpr hc)]; rfl
    · rw [if_neg hc, if_neg (fun z => hc ((j6_lt hyr hxr).mp z))]
      by_cases he : x = y
      · rw [if_pos he, if_pos ((j6_eq hxr hyr).mpr he)]; rfl
      · rw [if_neg he, if_neg (fun z => he ((j6_eq hxr hyr).mp z))]; rfl
  rw [List.map_cons, av_t_i, e1] at h9
  exact W.lcmp hC.1 hC.2.1 hd h9
theorem ar_dup {X : gx_T} {M : mt_T} {d pc : Nat} {L : List (Nat × Option av_T)} {st : List av_T} {G : mm_T} {k n : Nat} {Q : Option av_T → mm_T → Prop} {v : av_T} (hd : decode M.2.1 pc = .ok (.dup, 1)) (hv : av_c v = 1) (kk : aw_W X M d (pc + 1) L (v :: v :: st) G k n Q) : aw_W X M d pc L (v :: st) G k n Q := by
  intro g p e R s m args below meth c H locs cells slots am am0 ls mc ms QQ hC hR hx hL hs hl h1 h2 h3 h4 hQ
  exact lv_dup hC.1 hC.2.1 hd (by rw [av_cat]; exact hv) (kk g p e R s m args below meth c H locs cells slots am am0 ls mc ms QQ hC hR hx hL (ok_c (ok_h hs) hs) hl h1 h2 h3 h4 hQ)
theorem ar_pop {X : gx_T} {M : mt_T} {d pc : Nat} {L : List (Nat × Option av_T)} {st : List av_T} {G : mm_T} {k n : Nat} {Q : Option av_T → mm_T → Prop} {v : av_T} (hd : decode M.2.1 pc = .ok (.pop, 1)) (hv : av_c v = 1) (kk : aw_W X M d (pc + 1) L st G k n Q) : aw_W X M d pc L (v :: st) G k n Q := by
  intro g p e R s m args below meth c H locs cells slots am am0 ls mc ms QQ hC hR hx hL hs hl h1 h2 h3 h4 hQ
  exact lv_pop hC.1 hC.2.1 hd (by rw [av_cat]; exact hv) (kk g p e R s m args below meth c H locs cells slots am am0 ls mc ms QQ hC hR hx hL (ok_t hs) hl h1 h2 h3 h4 hQ)
theorem ar_dup2 {X : gx_T} {M : mt_T} {d pc : Nat} {L : List (Nat × Option av_T)} {st : List av_T} {G : mm_T} {k n : Nat} {Q : Option av_T → mm_T → Prop} {v w : av_T} (hd : decode M.2.1 pc = .ok (.dup2, 1)) (hv : av_c v = 1) (hw : av_c w = 1) (kk : aw_W X M d (pc + 1) L (v :: w :: v :: w :: st) G k n Q) : aw_W X M d pc L (v :: w :: st) G k n Q := by
  intro g p e R s m args below meth c H locs cells slots am am0 ls mc ms QQ hC hR hx hL hs hl h1 h2 h3 h4 hQ
  exact lv_dup2_11 hC.1 hC.2.1 hd (by rw [av_cat]; exact hv) (by rw [av_cat]; exact hw) (kk g p e R s m args below meth c H locs cells slots am am0 ls mc ms QQ hC hR hx hL (ok_c (ok_h hs) (ok_c (ok_h (ok_t hs)) hs)) hl h1 h2 h3 h4 hQ)
theorem ar_dup2_2 {X : gx_T} {M : mt_T} {d pc : Nat} {L : List (Nat × Option av_T)} {st : List av_T} {G : mm_T} {k n : Nat} {Q : Option av_T → mm_T → Prop} {v : av_T} (hd : decode M.2.1 pc = .ok (.dup2, 1)) (hv : av_c v = 2) (kk : aw_W X M d (pc + 1) L (v :: v :: st) G k n Q) : aw_W X M d pc L (v :: st) G k n Q := by
  intro g p e R s m args below meth c H locs cells slots am am0 ls mc ms QQ hC hR hx hL hs hl h1 h2 h3 h4 hQ
  exact lv_dup2_2 hC.1 hC.2.1 hd (by rw [av_cat]; exact hv) (kk g p e R s m args below meth c H locs cells slots am am0 ls mc ms QQ hC hR hx hL (ok_c (ok_h hs) hs) hl h1 h2 h3 h4 hQ)
theorem ar_dup_x1 {X : gx_T} {M : mt_T} {d pc : Nat} {L : List (Nat × Option av_T)} {st : List av_T} {G : mm_T} {k n : Nat} {Q : Option av_T → mm_T → Prop} {v w : av_T} (hd : decode M.2.1 pc = .ok (.dup_x1, 1)) (hv : av_c v = 1) (hw : av_c w = 1) (kk : aw_W X M d (pc + 1) L (v :: w :: v :: st) G k n Q) : aw_W X M d pc L (v :: w :: st) G k n Q := by
  intro g p e R s m args below meth c H locs cells slots am am0 ls mc ms QQ hC hR hx hL hs hl h1 h2 h3 h4 hQ
  exact lv_dup_x1 hC.1 hC.2.1 hd (by rw [av_cat]; exact hv) (by rw [av_cat]; exact hw) (kk g p e R s m args below meth c H locs cells slots am am0 ls mc ms QQ hC hR hx hL (ok_c (ok_h hs) (ok_c (ok_h (ok_t hs)) (ok_c (ok_h hs) (ok_t (ok_t hs))))) hl h1 h2 h3 h4 hQ)
theorem ar_goto {X : gx_T} {M : mt_T} {d pc : Nat} {L : List (Nat × Option av_T)} {st : List av_T} {G : mm_T} {k n : Nat} {Q : Option av_T → mm_T → Prop} {off : Int} (tgt : Nat) (hd : decode M.2.1 pc = .ok (.goto off, 3)) (ht : (pc : Int) + off = (tgt : Int)) (kk : aw_W X M d tgt L st G k n Q) : aw_W X M d pc L st G k n Q := by
  intro g p e R s m args below meth c H locs cells slots am am0 ls mc ms QQ hC hR hx hL hs hl h1 h2 h3 h4 hQ
  exact lv_goto hC.1 hC.2.1 hd ht (kk g p e R s m args below meth c H locs cells slots am am0 ls mc ms QQ hC hR hx hL (hs) hl h1 h2 h3 h4 hQ)
theorem ar_icmp_eq {X : gx_T} {M : mt_T} {d pc : Nat} {L : List (Nat × Option av_T)} {st : List av_T} {G : mm_T} {k n : Nat} {Q : Option av_T → mm_T → Prop} {x y : Int} {off : Int} (tgt : Nat) (hd : decode M.2.1 pc = .ok (.if_icmp .eq off, 3)) (ht : (pc : Int) + off = (tgt : Int)) (hxr : i3_in x) (hyr : i3_in y) (kt : x = y → aw_W X M d tgt L st G k n Q) (kf : ¬ x = y → aw_W X M d (pc + 3) L st G k n Q) : aw_W X M d pc L (av_i y :: av_i x :: st) G k n Q := by
  intro g p e R s m args below meth c H locs cells slots am am0 ls mc ms QQ hC hR hx hL hs hl h1 h2 h3 h4 hQ
  exact lv_icmp_eq hC.1 hC.2.1 hd ht (fun h => kt ((i3_eq hxr hyr).mp h) g p e R s m args below meth c H locs cells slots am am0 ls mc ms QQ hC hR hx hL (ok_t (ok_t hs)) hl h1 h2 h3 h4 hQ) (fun h => kf (fun z => h ((i3_eq hxr hyr).mpr z)) g p e R s m args below meth c H locs cells slots am am0 ls mc ms QQ hC hR hx hL (ok_t (ok_t hs)) hl h1 h2 h3 h4 hQ)
theorem ar_if_eq {X : gx_T} {M : mt_T} {d pc : Nat} {L : List (Nat × Option av_T)} {st : List av_T} {G : mm_T} {k n : Nat} {Q : Option av_T → mm_T → Prop} {x : Int} {off : Int} (tgt : Nat) (hd : decode M.2.1 pc = .ok (.ifCond .eq off, 3)) (ht : (pc : Int) + off = (tgt : Int)) (hxr : i3_in x) (kt : x = 0 → aw_W X M d tgt L st G k n Q) (kf : ¬ x = 0 → aw_W X M d (pc + 3) L st G k n Q) : aw_W X M d pc L (av_i x :: st) G k n Q := by
  intro g p e R s m args below meth c H locs cells slots am am0 ls mc ms QQ hC hR hx hL hs hl h1 h2 h3 h4 hQ
  exact lv_if_eq hC.1 hC.2.1 hd ht (fun h => kt ((i3_eq hxr i3_0).mp h) g p e R s m args below meth c H locs cells slots am am0 ls mc ms QQ hC hR hx hL (ok_t hs) hl h1 h2 h3 h4 hQ) (fun h => kf (fun z => h ((i3_eq hxr i3_0).mpr z)) g p e R s m args below meth c H locs cells slots am am0 ls mc ms QQ hC hR hx hL (ok_t hs) hl h1 h2 h3 h4 hQ)
theorem ar_icmp_ne {X : gx_T} {M : mt_T} {d pc : Nat} {L : List (Nat × Option av_T)} {st : List av_T} {G : mm_T} {k n : Nat} {Q : Option av_T → mm_T → Prop} {x y : Int} {off : Int} (tgt : Nat) (hd : decode M.2.1 pc = .ok (.if_icmp .ne off, 3)) (ht : (pc : Int) + off = (tgt : Int)) (hxr : i3_in x) (hyr : i3_in y) (kt : ¬ x = y → aw_W X M d tgt L st G k n Q) (kf : x = y → aw_W X M d (pc + 3) L st G k n Q) : aw_W X M d pc L (av_i y :: av_i x :: st) G k n Q := by
  intro g p e R s m args below meth c H locs cells slots am am0 ls mc ms QQ hC hR hx hL hs hl h1 h2 h3 h4 hQ
  exact lv_icmp_ne hC.1 hC.2.1 hd ht (fun h => kt (fun z => h ((i3_eq hxr hyr).mpr z)) g p e R s m args below meth c H locs cells slots am am0 ls mc ms QQ hC hR hx hL (ok_t (ok_t hs)) hl h1 h2 h3 h4 hQ) (fun h => kf ((i3_eq hxr hyr).mp h) g p e R s m args below meth c H locs cells slots am am0 ls mc ms QQ hC hR hx hL (ok_t (ok_t hs)) hl h1 h2 h3 h4 hQ)
theorem ar_if_ne {X : gx_T} {M : mt_T} {d pc : Nat} {L : List (Nat × Option av_T)} {st : List av_T} {G : mm_T} {k n : Nat} {Q : Option av_T → mm_T → Prop} {x : Int} {off : Int} (tgt : Nat) (hd : decode M.2.1 pc = .ok (.ifCond .ne off, 3)) (ht : (pc : Int) + off = (tgt : Int)) (hxr : i3_in x) (kt : ¬ x = 0 → aw_W X M d tgt L st G k n Q) (kf : x = 0 → aw_W X M d (pc + 3) L st G k n Q) : aw_W X M d pc L (av_i x :: st) G k n Q := by
  intro g p e R s m args below meth c H locs cells slots am am0 ls mc ms QQ hC hR hx hL hs hl h1 h2 h3 h4 hQ
  exact lv_if_ne hC.1 hC.2.1 hd ht (fun h => kt (fun z => h ((i3_eq hxr i3_0).mpr z)) g p e R s m args below meth c H locs cells slots am am0 ls mc ms QQ hC hR hx hL (ok_t hs) hl h1 h2 h3 h4 hQ) (fun h => kf ((i3_eq hxr i3_0).mp h) g p e R s m args below meth c H locs cells slots am am0 ls mc ms QQ hC hR hx hL (ok_t hs) hl h1 h2 h3 h4 hQ)
theorem ar_icmp_lt {X : gx_T} {M : mt_T} {d pc : Nat} {L : List (Nat × Option av_T)} {st : List av_T} {G : mm_T} {k n : Nat} {Q : Option av_T → mm_T → Prop} {x y : Int} {off : Int} (tgt : Nat) (hd : decode M.2.1 pc = .ok (.if_icmp .lt off, 3)) (ht : (pc : Int) + off = (tgt : Int)) (hxr : i3_in x) (hyr : i3_in y) (kt : x < y → aw_W X M d tgt L st G k n Q) (kf : y ≤ x → aw_W X M d (pc + 3) L st G k n Q) : aw_W X M d pc L (av_i y :: av_i x :: st) G k n Q := by
  intro g p e R s m args below meth c H locs cells slots am am0 ls mc ms QQ hC hR hx hL hs hl h1 h2 h3 h4 hQ
  exact lv_icmp_lt hC.1 hC.2.1 hd ht (fun h => kt ((i3_lt hxr hyr).mp h) g p e R s m args below meth c H locs cells slots am am0 ls mc ms QQ hC hR hx hL (ok_t (ok_t hs)) hl h1 h2 h3 h4 hQ) (fun h => kf (by have := mt (i3_lt hxr hyr).mpr h; omega) g p e R s m args below meth c H locs cells slots am am0 ls mc ms QQ hC hR hx hL (ok_t (ok_t hs)) hl h1 h2 h3 h4 hQ)
theorem ar_if_lt {X : gx_T} {M : mt_T} {d pc : Nat} {L : List (Nat × Option av_T)} {st : List av_T} {G : mm_T} {k n : Nat} {Q : Option av_T → mm_T → Prop} {x : Int} {off : Int} (tgt : Nat) (hd : decode M.2.1 pc = .ok (.ifCond .lt off, 3)) (ht : (pc : Int) + off = (tgt : Int)) (hxr : i3_in x) (kt : x < 0 → aw_W X M d tgt L st G k n Q) (kf : 0 ≤ x → aw_W X M d (pc + 3) L st G k n Q) : aw_W X M d pc L (av_i x :: st) G k n Q := by
  intro g p e R s m args below meth c H locs cells slots am am0 ls mc ms QQ hC hR hx hL hs hl h1 h2 h3 h4 hQ
  exact lv_if_lt hC.1 hC.2.1 hd ht (fun h => kt ((i3_lt hxr i3_0).mp h) g p e R s m args below meth c H locs cells slots am am0 ls mc ms QQ hC hR hx hL (ok_t hs) hl h1 h2 h3 h4 hQ) (fun h => kf (by have := mt (i3_lt hxr i3_0).mpr h; omega) g p e R s m args below meth c H locs cells slots am am0 ls mc ms QQ hC hR hx hL (ok_t hs) hl h1 h2 h3 h4 hQ)
theorem ar_icmp_ge {X : gx_T} {M : mt_T} {d pc : Nat} {L : List (Nat × Option av_T)} {st : List av_T} {G : mm_T} {k n : Nat} {Q : Option av_T → mm_T → Prop} {x y : Int} {off : Int} (tgt : Nat) (hd : decode M.2.1 pc = .ok (.if_icmp .ge off, 3)) (ht : (pc : Int) + off = (tgt : Int)) (hxr : i3_in x) (hyr : i3_in y) (kt : y ≤ x → aw_W X M d tgt L st G k n Q) (kf : x < y → aw_W X M d (pc + 3) L st G k n Q) : aw_W X M d pc L (av_i y :: av_i x :: st) G k n Q := by
  intro g p e R s m args below meth c H locs cells slots am am0 ls mc ms QQ hC hR hx hL hs hl h1 h2 h3 h4 hQ
  exact lv_icmp_ge hC.1 hC.2.1 hd ht (fun h => kt ((i3_le hyr hxr).mp h) g p e R s m args below meth c H locs cells slots am am0 ls mc ms QQ hC hR hx hL (ok_t (ok_t hs)) hl h1 h2 h3 h4 hQ) (fun h => kf (by have := mt (i3_le hyr hxr).mpr h; omega) g p e R s m args below meth c H locs cells slots am am0 ls mc ms QQ hC hR hx hL (ok_t (ok_t hs)) hl h1 h2 h3 h4 hQ)
theorem ar_if_ge {X : gx_T} {M : mt_T} {d pc : Nat} {L : List (Nat × Option av_T)} {st : List av_T} {G : mm_T} {k n : Nat} {Q : Option av_T → mm_T → Prop} {x : Int} {off : Int} (tgt : Nat) (hd : decode M.2.1 pc = .ok (.ifCond .ge off, 3)) (ht : (pc : Int) + off = (tgt : Int)) (hxr : i3_in x) (kt : 0 ≤ x → aw_W X M d tgt L st G k n Q) (kf : x < 0 → aw_W X M d (pc + 3) L st G k n Q) : aw_W X M d pc L (av_i x :: st) G k n Q := by
  intro g p e R s m args below meth c H locs cells slots am am0 ls mc ms QQ hC hR hx hL hs hl h1 h2 h3 h4 hQ
  exact lv_if_ge hC.1 hC.2.1 hd ht (fun h => kt ((i3_le i3_0 hxr).mp h) g p e R s m args below meth c H locs cells slots am am0 ls mc ms QQ hC hR hx hL (ok_t hs) hl h1 h2 h3 h4 hQ) (fun h => kf (by have := mt (i3_le i3_0 hxr).mpr h; omega) g p e R s m args below meth c H locs cells slots am am0 ls mc ms QQ hC hR hx hL (ok_t hs) hl h1 h2 h3 h4 hQ)
theorem ar_icmp_gt {X : gx_T} {M : mt_T} {d pc : Nat} {L : List (Nat × Option av_T)} {st : List av_T} {G : mm_T} {k n : Nat} {Q : Option av_T → mm_T → Prop} {x y : Int} {off : Int} (tgt : Nat) (hd : decode M.2.1 pc = .ok (.if_icmp .gt off, 3)) (ht : (pc : Int) + off = (tgt : Int)) (hxr : i3_in x) (hyr : i3_in y) (kt : y < x → aw_W X M d tgt L st G k n Q) (kf : x ≤ y → aw_W X M d (pc + 3) L st G k n Q) : aw_W X M d pc L (av_i y :: av_i x :: st) G k n Q := by
  intro g p e R s m args below meth c H locs cells slots am am0 ls mc ms QQ hC hR hx hL hs hl h1 h2 h3 h4 hQ
  exact lv_icmp_gt hC.1 hC.2.1 hd ht (fun h => kt ((i3_lt hyr hxr).mp h) g p e R s m args below meth c H locs cells slots am am0 ls mc ms QQ hC hR hx hL (ok_t (ok_t hs)) hl h1 h2 h3 h4 hQ) (fun h => kf (by have := mt (i3_lt hyr hxr).mpr h; omega) g p e R s m args below meth c H locs cells slots am am0 ls mc ms QQ hC hR hx hL (ok_t (ok_t hs)) hl h1 h2 h3 h4 hQ)
theorem ar_if_gt {X : gx_T} {M : mt_T} {d pc : Nat} {L : List (Nat × Option av_T)} {st : List av_T} {G : mm_T} {k n : Nat} {Q : Option av_T → mm_T → Prop} {x : Int} {off : Int} (tgt : Nat) (hd : decode M.2.1 pc = .ok (.ifCond .gt off, 3)) (ht : (pc : Int) + off = (tgt : Int)) (hxr : i3_in x) (kt : 0 < x → aw_W X M d tgt L st G k n Q) (kf : x ≤ 0 → aw_W X M d (pc + 3) L st G k n Q) : aw_W X M d pc L (av_i x :: st) G k n Q := by
  intro g p e R s m args below meth c H locs cells slots am am0 ls mc ms QQ hC hR hx hL hs hl h1 h2 h3 h4 hQ
  exact lv_if_gt hC.1 hC.2.1 hd ht (fun h => kt ((i3_lt i3_0 hxr).mp h) g p e R s m args below meth c H locs cells slots am am0 ls mc ms QQ hC hR hx hL (ok_t hs) hl h1 h2 h3 h4 hQ) (fun h => kf (by have := mt (i3_lt i3_0 hxr).mpr h; omega) g p e R s m args below meth c H locs cells slots am am0 ls mc ms QQ hC hR hx hL (ok_t hs) hl h1 h2 h3 h4 hQ)
theorem ar_icmp_le {X : gx_T} {M : mt_T} {d pc : Nat} {L : List (Nat × Option av_T)} {st : List av_T} {G : mm_T} {k n : Nat} {Q : Option av_T → mm_T → Prop} {x y : Int} {off : Int} (tgt : Nat) (hd : decode M.2.1 pc = .ok (.if_icmp .le off, 3)) (ht : (pc : Int) + off = (tgt : Int)) (hxr : i3_in x) (hyr : i3_in y) (kt : x ≤ y → aw_W X M d tgt L st G k n Q) (kf : y < x → aw_W X M d (pc + 3) L st G k n Q) : aw_W X M d pc L (av_i y :: av_i x :: st) G k n Q := by
  intro g p e R s m args below meth c H locs cells slots am am0 ls mc ms QQ hC hR hx hL hs hl h1 h2 h3 h4 hQ
  exact lv_icmp_le hC.1 hC.2.1 hd ht (fun h => kt ((i3_le hxr hyr).mp h) g p e R s m args below meth c H locs cells slots am am0 ls mc ms QQ hC hR hx hL (ok_t (ok_t hs)) hl h1 h2 h3 h4 hQ) (fun h => kf (by have := mt (i3_le hxr hyr).mpr h; omega) g p e R s m args below meth c H locs cells slots am am0 ls mc ms QQ hC hR hx hL (ok_t (ok_t hs)) hl h1 h2 h3 h4 hQ)
theorem ar_if_le {X : gx_T} {M : mt_T} {d pc : Nat} {L : List (Nat × Option av_T)} {st : List av_T} {G : mm_T} {k n : Nat} {Q : Option av_T → mm_T → Prop} {x : Int} {off : Int} (tgt : Nat) (hd : decode M.2.1 pc = .ok (.ifCond .le off, 3)) (ht : (pc : Int) + off = (tgt : Int)) (hxr : i3_in x) (kt : x ≤ 0 → aw_W X M d tgt L st G k n Q) (kf : 0 < x → aw_W X M d (pc + 3) L st G k n Q) : aw_W X M d pc L (av_i x :: st) G k n Q := by
  intro g p e R s m args below meth c H locs cells slots am am0 ls mc ms QQ hC hR hx hL hs hl h1 h2 h3 h4 hQ
  exact lv_if_le hC.1 hC.2.1 hd ht (fun h => kt ((i3_le hxr i3_0).mp h) g p e R s m args below meth c H locs cells slots am am0 ls mc ms QQ hC hR hx hL (ok_t hs) hl h1 h2 h3 h4 hQ) (fun h => kf (by have := mt (i3_le hxr i3_0).mpr h; omega) g p e R s m args below meth c H locs cells slots am am0 ls mc ms QQ hC hR hx hL (ok_t hs) hl h1 h2 h3 h4 hQ)
theorem ar_ifnull {X : gx_T} {M : mt_T} {d pc : Nat} {L : List (Nat × Option av_T)} {st : List av_T} {G : mm_T} {k n : Nat} {Q : Option av_T → mm_T → Prop} {r : Option Nat} {off : Int} (tgt : Nat) (hd : decode M.2.1 pc = .ok (.ifnull off, 3)) (ht : (pc : Int) + off = (tgt : Int)) (kt : r = none → aw_W X M d tgt L st G k n Q) (kf : ∀ a, r = some a → aw_W X M d (pc + 3) L st G k n Q) : aw_W X M d pc L (av_r r :: st) G k n Q := by
  intro g p e R s m args below meth c H locs cells slots am am0 ls mc ms QQ hC hR hx hL hs hl h1 h2 h3 h4 hQ
  cases r with
  | none => exact lv_ifnullN hC.1 hC.2.1 hd ht (kt rfl g p e R s m args below meth c H locs cells slots am am0 ls mc ms QQ hC hR hx hL (ok_t hs) hl h1 h2 h3 h4 hQ)
  | some a =>
    obtain ⟨q, hq, e9⟩ := av_ref (ok_h hs)
    rw [List.map_cons, e9]
    exact lv_ifnull hC.1 hC.2.1 hd (kf a rfl g p e R s m args below meth c H locs cells slots am am0 ls mc ms QQ hC hR hx hL (ok_t hs) hl h1 h2 h3 h4 hQ)
theorem ar_ifnonnull {X : gx_T} {M : mt_T} {d pc : Nat} {L : List (Nat × Option av_T)} {st : List av_T} {G : mm_T} {k n : Nat} {Q : Option av_T → mm_T → Prop} {r : Option Nat} {off : Int} (tgt : Nat) (hd : decode M.2.1 pc = .ok (.ifnonnull off, 3)) (ht : (pc : Int) + off = (tgt : Int)) (kt : ∀ a, r = some a → aw_W X M d tgt L st G k n Q) (kf : r = none → aw_W X M d (pc + 3) L st G k n Q) : aw_W X M d pc L (av_r r :: st) G k n Q := by
  intro g p e R s m args below meth c H locs cells slots am am0 ls mc ms QQ hC hR hx hL hs hl h1 h2 h3 h4 hQ
  cases r with
  | none => exact lv_ifnonnullN hC.1 hC.2.1 hd (kf rfl g p e R s m args below meth c H locs cells slots am am0 ls mc ms QQ hC hR hx hL (ok_t hs) hl h1 h2 h3 h4 hQ)
  | some a =>
    obtain ⟨q, hq, e9⟩ := av_ref (ok_h hs)
    rw [List.map_cons, e9]
    exact lv_ifnonnull hC.1 hC.2.1 hd ht (kt a rfl g p e R s m args below meth c H locs cells slots am am0 ls mc ms QQ hC hR hx hL (ok_t hs) hl h1 h2 h3 h4 hQ)
theorem ar_tableOut {X : gx_T} {M : mt_T} {d pc : Nat} {L : List (Nat × Option av_T)} {st : List av_T} {G : mm_T} {k n : Nat} {Q : Option av_T → mm_T → Prop} {x dflt lo hi : Int} {offs : Array Int} {len : Nat} (tgt : Nat) (hd : decode M.2.1 pc = .ok (.tableswitch dflt lo hi offs, len)) (hxr : i3_in x) (h : x < lo ∨ hi < x) (ht : (pc : Int) + dflt = (tgt : Int)) (kk : aw_W X M d tgt L st G k n Q) : aw_W X M d pc L (av_i x :: st) G k n Q := by
  intro g p e R s m args below meth c H locs cells slots am am0 ls mc ms QQ hC hR hx hL hs hl h1 h2 h3 h4 hQ
  exact lv_tableOut hC.1 hC.2.1 hd (by rw [i3_t hxr]; assumption) ht (kk g p e R s m args below meth c H locs cells slots am am0 ls mc ms QQ hC hR hx hL (ok_t hs) hl h1 h2 h3 h4 hQ)
theorem ar_tableIn {X : gx_T} {M : mt_T} {d pc : Nat} {L : List (Nat × Option av_T)} {st : List av_T} {G : mm_T} {k n : Nat} {Q : Option av_T → mm_T → Prop} {x dflt lo hi : Int} {offs : Array Int} {len : Nat} {off : Int} (tgt : Nat) (hd : decode M.2.1 pc = .ok (.tableswitch dflt lo hi offs, len)) (hxr : i3_in x) (ha : lo ≤ x) (hb : x ≤ hi) (ho : offs[(x - lo).toNat]? = some off) (ht : (pc : Int) + off = (tgt : Int)) (kk : aw_W X M d tgt L st G k n Q) : aw_W X M d pc L (av_i x :: st) G k n Q := by
  intro g p e R s m args below meth c H locs cells slots am am0 ls mc ms QQ hC hR hx hL hs hl h1 h2 h3 h4 hQ
  exact lv_tableIn hC.1 hC.2.1 hd (by rw [i3_t hxr]; omega) (by rw [i3_t hxr]; omega) (by rw [i3_t hxr]; exact ho) ht (kk g p e R s m args below meth c H locs cells slots am am0 ls mc ms QQ hC hR hx hL (ok_t hs) hl h1 h2 h3 h4 hQ)
theorem ar_lookup {X : gx_T} {M : mt_T} {d pc : Nat} {L : List (Nat × Option av_T)} {st : List av_T} {G : mm_T} {k n : Nat} {Q : Option av_T → mm_T → Prop} {x dflt : Int} {ps : Array (Int × Int)} {len : Nat} {off : Int} (tgt : Nat) (hd : decode M.2.1 pc = .ok (.lookupswitch dflt ps, len)) (hxr : i3_in x) (hp : (ps.toList.zip (ps.toList.drop 1)).all (fun (a, next) => a.1 < next.1) = true) (ho : Op.lookupswitch.offset ps.toList dflt x = off) (ht : (pc : Int) + off = (tgt : Int)) (kk : aw_W X M d tgt L st G k n Q) : aw_W X M d pc L (av_i x :: st) G k n Q := by
  intro g p e R s m args below meth c H locs cells slots am am0 ls mc ms QQ hC hR hx hL hs hl h1 h2 h3 h4 hQ
  exact lv_lookup hC.1 hC.2.1 hd hp (by rw [i3_t hxr]; exact ho) ht (kk g p e R s m args below meth c H locs cells slots am am0 ls mc ms QQ hC hR hx hL (ok_t hs) hl h1 h2 h3 h4 hQ)
theorem ar_ret {X : gx_T} {M : mt_T} {d pc : Nat} {L : List (Nat × Option av_T)} {G : mm_T} {k n : Nat} {Q : Option av_T → mm_T → Prop} (hd : decode M.2.1 pc = .ok (.return_, 1)) (hr : M.2.2.2 = none) (hq : Q none G) : aw_W X M d pc L [] G k n Q := by
  intro g p e R s m args below meth c H locs cells slots am am0 ls mc ms QQ hC hR hx hL hs hl h1 h2 h3 h4 hQ
  exact W.widen (by omega) (by omega) (hQ pc ls H locs am G none ⟨hd, hr⟩ hq hR hx (fun v hv => by cases hv) hl)
theorem ar_iret {X : gx_T} {M : mt_T} {d pc : Nat} {L : List (Nat × Option av_T)} {G : mm_T} {k n : Nat} {Q : Option av_T → mm_T → Prop} {x : Int} (hd : decode M.2.1 pc = .ok (.ireturn, 1)) (hr : M.2.2.2 = some .int) (hq : Q (some (av_i x)) G) : aw_W X M d pc L [av_i x] G k n Q := by
  intro g p e R s m args below meth c H locs cells slots am am0 ls mc ms QQ hC hR hx hL hs hl h1 h2 h3 h4 hQ
  exact W.widen (by omega) (by omega) (hQ pc ls H locs am G (some (av_i x)) ⟨hd, Or.inl hr⟩ hq hR hx hs hl)
theorem ar_zret {X : gx_T} {M : mt_T} {d pc : Nat} {L : List (Nat × Option av_T)} {G : mm_T} {k n : Nat} {Q : Option av_T → mm_T → Prop} {x : Int} (hd : decode M.2.1 pc = .ok (.ireturn, 1)) (hr : M.2.2.2 = some .boolean) (hz : x = 0 ∨ x = 1) (hq : Q (some (av_i x)) G) : aw_W X M d pc L [av_i x] G k n Q := by
  intro g p e R s m args below meth c H locs cells slots am am0 ls mc ms QQ hC hR hx hL hs hl h1 h2 h3 h4 hQ
  exact W.widen (by omega) (by omega) (hQ pc ls H locs am G (some (av_i x)) ⟨hd, Or.inr ⟨hr, hz⟩⟩ hq hR hx hs hl)
theorem ar_lret {X : gx_T} {M : mt_T} {d pc : Nat} {L : List (Nat × Option av_T)} {G : mm_T} {k n : Nat} {Q : Option av_T → mm_T → Prop} {x : Int} (hd : decode M.2.1 pc = .ok (.lreturn, 1)) (hr : M.2.2.2 = some .long) (hq : Q (some (av_l x)) G) : aw_W X M d pc L [av_l x] G k n Q := by
  intro g p e R s m args below meth c H locs cells slots am am0 ls mc ms QQ hC hR hx hL hs hl h1 h2 h3 h4 hQ
  exact W.widen (by omega) (by omega) (hQ pc ls H locs am G (some (av_l x)) ⟨hd, hr⟩ hq hR hx hs hl)
theorem ar_aret {X : gx_T} {M : mt_T} {d pc : Nat} {L : List (Nat × Option av_T)} {G : mm_T} {k n : Nat} {Q : Option av_T → mm_T → Prop} {r : Option Nat} {nm : String} (hd : decode M.2.1 pc = .ok (.areturn, 1)) (hr : M.2.2.2 = some (.object nm)) (hq : Q (some (av_r r)) G) : aw_W X M d pc L [av_r r] G k n Q := by
  intro g p e R s m args below meth c H locs cells slots am am0 ls mc ms QQ hC hR hx hL hs hl h1 h2 h3 h4 hQ
  exact W.widen (by omega) (by omega) (hQ pc ls H locs am G (some (av_r r)) ⟨hd, nm, hr⟩ hq hR hx hs hl)
