/-! ===== rows that touch the memory (printed by wip/gen/heap.py) ===== -/
def fk_d (d : String) : Nat := if d = "I" then 0 else if d = "Z" then 3 else if d = "J" then 1 else 2
def fk_v : Nat → Value
  | 0 => .int 0
  | 3 => .int 0
  | 1 => .long 0
  | _ => .null
theorem ce_v_I {am : am_T} {G : mm_T} {a k : Nat} {d : String} (h : fk_d d = 0 ∨ fk_d d = 3) : ce_v am G a d k = .int (Int32.ofInt (mm_I G a k)) := by
  unfold ce_v
  by_cases h1 : d = "I"
  · rw [if_pos (Or.inl h1)]
  · by_cases h2 : d = "Z"
    · rw [if_pos (Or.inr h2)]
    · exfalso
      unfold fk_d at h
      rw [if_neg h1, if_neg h2] at h
      split at h <;> omega
theorem ce_v_J {am : am_T} {G : mm_T} {a k : Nat} {d : String} (h : fk_d d = 1) : ce_v am G a d k = .long (Int64.ofInt (mm_J G a k)) := by
  unfold fk_d at h
  unfold ce_v
  by_cases h1 : d = "I"
  · rw [if_pos h1] at h; omega
  · by_cases h2 : d = "Z"
    · rw [if_neg h1, if_pos h2] at h; omega
    · by_cases h3 : d = "J"
      · rw [if_neg (by rintro (z | z); exact h1 z; exact h2 z), if_pos h3]
      · rw [if_neg h1, if_neg h2, if_neg h3] at h; omega
theorem ce_v_R {am : am_T} {G : mm_T} {a k : Nat} {d : String} (h : fk_d d = 2) : ce_v am G a d k = va_rf ((mm_R G a k).bind am) := by
  unfold fk_d at h
  unfold ce_v
  by_cases h1 : d = "I"
  · rw [if_pos h1] at h; omega
  · by_cases h2 : d = "Z"
    · rw [if_neg h1, if_pos h2] at h; omega
    · by_cases h3 : d = "J"
      · rw [if_neg h1, if_neg h2, if_pos h3] at h; omega
      · rw [if_neg (by rintro (z | z); exact h1 z; exact h2 z), if_neg h3]
theorem fk_4 (d : String) : fk_d d = 0 ∨ fk_d d = 3 ∨ fk_d d = 1 ∨ fk_d d = 2 := by
  unfold fk_d
  split
  · exact Or.inl rfl
  · split
    · exact Or.inr (Or.inl rfl)
    · split
      · exact Or.inr (Or.inr (Or.inl rfl))
      · exact Or.inr (Or.inr (Or.inr rfl))
/-- what is fixed of a class -/
def ck_ok (c N : Nat) (C : String) (T : u_T) : Prop := cl_all[c]? = some (C, T, N) ∧ (∀ w ∈ u_ws C T N, w ∈ gw_all) ∧ c < 100 ∧
  ∃ ty : Nat → FieldType, (∀ k, k < N → parseFieldDescriptor (T k).2.2.1 = some (ty k)) ∧ (∀ a, a < N → ∀ b, b < N → a ≠ b → (T a).2.1 ≠ (T b).2.1) ∧ ∀ k, k < N → defaultValue (ty k) = fk_v (fk_d (T k).2.2.1)
/-- what is fixed of a place that reads or writes a field: field kf of class c, of kind ty -/
def gf_ok (own : String) (i c N kf : Nat) (C : String) (T : u_T) (ty : Nat) : Prop := ck_ok c N C T ∧ Cond.fieldLink own i C (T kf).2.1 (T kf).2.2.1 ∈ gw_all ∧ kf < N ∧ (T kf).1 = C ∧ fk_d (T kf).2.2.1 = ty
theorem sh_small {a t N : Nat} (h : sh_t a = (t, N)) : N ≤ 30000 ∧ (t ≠ 999 → a < 900) := by
  have tab : ∀ q ∈ sh_tab, q.2 ≤ 30000 := by decide +kernel
  unfold sh_t at h
  split at h
  · refine ⟨?_, fun _ => by omega⟩
    by_cases hl : a < sh_tab.length
    · have := tab sh_tab[a] (List.getElem_mem hl)
      rw [List.getD_eq_getElem?_getD, List.getElem?_eq_getElem hl, Option.getD_some] at h
      rw [h] at this
      exact this
    · rw [List.getD_eq_getElem?_getD, List.getElem?_eq_none (by omega), Option.getD_none] at h
      cases h; omega
  · split at h
    · cases h; exact ⟨by omega, fun _ => by omega⟩
    · split at h
      · cases h; exact ⟨by omega, fun h => absurd rfl h⟩
      · split at h
        · cases h; exact ⟨by omega, fun _ => by omega⟩
        · cases h; exact ⟨by omega, fun h => absurd rfl h⟩
theorem ce_same {dA : Nat → ClassId} {am : am_T} {G G' : mm_T} {b : Nat} (hI : mm_I G' b = mm_I G b) (hJ : mm_J G' b = mm_J G b) (hR : mm_R G' b = mm_R G b) : ce_of dA am G' b = ce_of dA am G b := by
  have hv : ∀ (d : String) (k : Nat), ce_v am G' b d k = ce_v am G b d k := fun d k => by unfold ce_v; rw [hI, hJ, hR]
  unfold ce_of ce_q ce_o
  rw [hI, hJ, hR]
  simp only [hv]
theorem ce_obj {dA : Nat → ClassId} {am : am_T} {G : mm_T} {a c N : Nat} {C : String} {T : u_T} (ck : ck_ok c N C T) (hs : sh_t a = (c, N)) : ce_of dA am G a = .inr (c, (List.range N).map (fun k => ce_v am G a (T k).2.2.1 k)) := by
  have hc := ck.2.2.1
  unfold ce_of ce_q
  rw [hs]
  dsimp only
  rw [if_neg (by omega), if_neg (by omega), if_neg (by omega), ce_o, ck.1]
theorem ce_100 {dA : Nat → ClassId} {am : am_T} {G : mm_T} {a N : Nat} (hs : sh_t a = (100, N)) : ce_of dA am G a = .inl (dA 100, N, .inl (fun k => Int32.ofInt (mm_I G a k))) := by
  unfold ce_of ce_q; rw [hs]; rfl
theorem ce_102 {dA : Nat → ClassId} {am : am_T} {G : mm_T} {a N : Nat} (hs : sh_t a = (102, N)) : ce_of dA am G a = .inl (dA 102, N, .inl (fun k => Int32.ofInt (mm_I G a k))) := by
  unfold ce_of ce_q; rw [hs]; rfl
theorem ce_101 {dA : Nat → ClassId} {am : am_T} {G : mm_T} {a N : Nat} (hs : sh_t a = (101, N)) : ce_of dA am G a = .inl (dA 101, N, .inr (.inl (fun k => Int64.ofInt (mm_J G a k)))) := by
  unfold ce_of ce_q; rw [hs]; rfl
theorem ce_103 {dA : Nat → ClassId} {am : am_T} {G : mm_T} {a N : Nat} (hs : sh_t a = (103, N)) : ce_of dA am G a = .inl (dA 103, N, .inr (.inr (.inr (.inr (fun k => (mm_R G a k).bind am))))) := by
  unfold ce_of ce_q; rw [hs]; rfl
theorem ce_104 {dA : Nat → ClassId} {am : am_T} {G : mm_T} {a N : Nat} (hs : sh_t a = (104, N)) : ce_of dA am G a = .inl (dA 104, N, .inr (.inr (.inr (.inr (fun k => (mm_R G a k).bind am))))) := by
  unfold ce_of ce_q; rw [hs]; rfl
theorem up_2_o {α : Type} (f : Nat → Nat → α) {a b : Nat} (k : Nat) (v : α) (h : b ≠ a) : up_2 f a k v b = f b := by
  funext j; exact up_2_n f v (fun z => h z.1)
/-- one cell alone -/
theorem mr_P {g : gp_T} {am : am_T} {G : mm_T} {H : Heap} (hR : mr_R g am G H) {a q : Nat} (ha : a < 900) (hq : am a = some q) {e : va_E} (he : ce_of (gp_A g) am G a = e) : va_P (gp_D g) cl_all [(q, e)] H := by
  intro i z hz
  have hi : i < 1 := (List.getElem?_eq_some_iff.mp hz).1
  rw [show i = 0 by omega] at hz
  cases hz
  rw [← he]
  exact (hR.1 a q ha hq).1
theorem mr_upd {g : gp_T} {am : am_T} {G G' : mm_T} {H H' : Heap} {a q : Nat} (hR : mr_R g am G H) (ha : a < 900) (hq : am a = some q) (hz : H'.size = H.size) (oq : ∀ z, z ≠ q → H'[z]? = H[z]?)
    (hc : va_at (gp_D g) cl_all (q, ce_of (gp_A g) am G' a) H') (hs : ∀ b, b ≠ a → ce_of (gp_A g) am G' b = ce_of (gp_A g) am G b) (hA : mm_A G' = mm_A G) (hr : ∀ b k z, mm_R G' b k = some z → z < 900 ∧ ∃ q, am z = some q)
    (hI : ∀ b k, i3_in (mm_I G' b k)) (hJ : ∀ b k, j6_in (mm_J G' b k)) : mr_R g am G' H' := by
  obtain ⟨r1, r2, r3, r4, r5, r6, r7, r8, r9⟩ := hR
  have hqb := (r1 a q ha hq).2
  refine ⟨fun b z hb hz2 => ?_, r2, fun b hb h => r3 b hb (by rw [← hA]; exact h), hr, hI, hJ, r7, by rw [hz]; exact r8, fun z hz2 => by rw [oq z (by omega)]; exact r9 z hz2⟩
  by_cases hba : b = a
  · subst hba
    have : z = q := Option.some.inj (hz2.symm.trans hq)
    subst this
    exact ⟨hc, hqb⟩
  · refine ⟨?_, (r1 b z hb hz2).2⟩
    have hne : z ≠ q := fun e => hba (r2 b a z hb ha hz2 (by rw [e]; exact hq))
    rw [hs b hba]
    exact (r1 b z hb hz2).1.kept (oq z hne)
theorem mr_updI {g : gp_T} {am : am_T} {G : mm_T} {H H' : Heap} {a q j : Nat} {v : Int} (hR : mr_R g am G H) (ha : a < 900) (hq : am a = some q) (hv : i3_in v) (hz : H'.size = H.size) (oq : ∀ z, z ≠ q → H'[z]? = H[z]?)
    (hc : va_at (gp_D g) cl_all (q, ce_of (gp_A g) am (ms_I G a j v) a) H') : mr_R g am (ms_I G a j v) H' := by
  refine mr_upd hR ha hq hz oq hc (fun b hb => ce_same (up_2_o _ _ _ hb) rfl rfl) rfl hR.2.2.2.1 (fun b i => ?_) hR.2.2.2.2.2.1
  show i3_in (up_2 (mm_I G) a j v b i)
  unfold up_2
  split
  · exact hv
  · exact hR.2.2.2.2.1 b i
theorem mr_updJ {g : gp_T} {am : am_T} {G : mm_T} {H H' : Heap} {a q j : Nat} {v : Int} (hR : mr_R g am G H) (ha : a < 900) (hq : am a = some q) (hv : j6_in v) (hz : H'.size = H.size) (oq : ∀ z, z ≠ q → H'[z]? = H[z]?)
    (hc : va_at (gp_D g) cl_all (q, ce_of (gp_A g) am (ms_J G a j v) a) H') : mr_R g am (ms_J G a j v) H' := by
  refine mr_upd hR ha hq hz oq hc (fun b hb => ce_same rfl (up_2_o _ _ _ hb) rfl) rfl hR.2.2.2.1 hR.2.2.2.2.1 (fun b i => ?_)
  show j6_in (up_2 (mm_J G) a j v b i)
  unfold up_2
  split
  · exact hv
  · exact hR.2.2.2.2.2.1 b i
theorem mr_updR {g : gp_T} {am : am_T} {G : mm_T} {H H' : Heap} {a q j : Nat} {v : Option Nat} (hR : mr_R g am G H) (ha : a < 900) (hq : am a = some q) (hv : ∀ z, v = some z → z < 900 ∧ ∃ q, am z = some q) (hz : H'.size = H.size) (oq : ∀ z, z ≠ q → H'[z]? = H[z]?)
    (hc : va_at (gp_D g) cl_all (q, ce_of (gp_A g) am (ms_R G a j v) a) H') : mr_R g am (ms_R G a j v) H' := by
  refine mr_upd hR ha hq hz oq hc (fun b hb => ce_same rfl rfl (up_2_o _ _ _ hb)) rfl (fun b i z h => ?_) hR.2.2.2.2.1 hR.2.2.2.2.2.1
  have h : up_2 (mm_R G) a j v b i = some z := h
  unfold up_2 at h
  split at h
  · exact hv z h
  · exact hR.2.2.2.1 b i z h
theorem lo_app {base : Nat} {locs : List Loc} {a k : Nat} (h : ∀ q ∈ locs, base ≤ q.base) (ha : base ≤ a) : ∀ q ∈ locs ++ [(⟨a, k⟩ : Loc)], base ≤ q.base := fun q hq => by
  rcases List.mem_append.mp hq with h1 | h1
  · exact h q h1
  · rw [List.mem_singleton.mp h1]; exact ha
theorem ar_getI {X : gx_T} {M : mt_T} {d pc : Nat} {L : List (Nat × Option av_T)} {st : List av_T} {G : mm_T} {k n : Nat} {Q : Option av_T → mm_T → Prop} {i c0 N kf a : Nat} {C : String} {T : u_T} (gf : gf_ok M.1.cls i c0 N kf C T 0) (hd : decode M.2.1 pc = .ok (.getfield i, 3)) (hs0 : sh_t a = (c0, N)) (kk : i3_in (mm_I G a kf) → aw_W X M d (pc + 3) L (av_i (mm_I G a kf) :: st) G k n Q) : aw_W X M d pc L (av_r (some a) :: st) G k n Q := by
  intro g p e R s m args below meth c H locs cells slots am am0 ls mc ms QQ hC hR hx hL hs hl h1 h2 h3 h4 hQ
  obtain ⟨q, hq, e9⟩ := av_ref (ok_h hs)
  rw [List.map_cons, e9]
  have ha9 : a < 900 := (sh_small hs0).2 (by have := gf.1.2.2.1; omega)
  have hP := mr_P hR ha9 hq (ce_obj gf.1 hs0)
  have hE : ((List.range N).map (fun k => ce_v am G a (T k).2.2.1 k))[kf]? = some (av_t am (av_i (mm_I G a kf))) := by
    rw [List.getElem?_map, List.getElem?_range gf.2.2.1, Option.map_some, ce_v_I (Or.inl gf.2.2.2.2)]; rfl
  exact va_get (q0 := 0) (ci := c0) (k := kf) (v := av_t am (av_i (mm_I G a kf))) hC.1 hC.2.1 hC.2.2.2.2.1 gf.1.2.1 hC.2.2.2.1 hC.2.2.2.2.2.2.2.2.2.2.1 hP rfl gf.1.1 gf.2.2.1 (hC.2.2.2.2.1 _ gf.2.1) (by rw [gf.2.2.2.1]; exact fun _ h => h) hE hd ((kk (hR.2.2.2.2.1 a kf)) g p e R s m args below meth c H locs cells slots am am0 ls mc ms QQ hC hR hx hL (ok_i (ok_t hs)) hl h1 h2 h3 h4 hQ)
theorem ar_getZ {X : gx_T} {M : mt_T} {d pc : Nat} {L : List (Nat × Option av_T)} {st : List av_T} {G : mm_T} {k n : Nat} {Q : Option av_T → mm_T → Prop} {i c0 N kf a : Nat} {C : String} {T : u_T} (gf : gf_ok M.1.cls i c0 N kf C T 3) (hd : decode M.2.1 pc = .ok (.getfield i, 3)) (hs0 : sh_t a = (c0, N)) (kk : i3_in (mm_I G a kf) → aw_W X M d (pc + 3) L (av_i (mm_I G a kf) :: st) G k n Q) : aw_W X M d pc L (av_r (some a) :: st) G k n Q := by
  intro g p e R s m args below meth c H locs cells slots am am0 ls mc ms QQ hC hR hx hL hs hl h1 h2 h3 h4 hQ
  obtain ⟨q, hq, e9⟩ := av_ref (ok_h hs)
  rw [List.map_cons, e9]
  have ha9 : a < 900 := (sh_small hs0).2 (by have := gf.1.2.2.1; omega)
  have hP := mr_P hR ha9 hq (ce_obj gf.1 hs0)
  have hE : ((List.range N).map (fun k => ce_v am G a (T k).2.2.1 k))[kf]? = some (av_t am (av_i (mm_I G a kf))) := by
    rw [List.getElem?_map, List.getElem?_range gf.2.2.1, Option.map_some, ce_v_I (Or.inr gf.2.2.2.2)]; rfl
  exact va_get (q0 := 0) (ci := c0) (k := kf) (v := av_t am (av_i (mm_I G a kf))) hC.1 hC.2.1 hC.2.2.2.2.1 gf.1.2.1 hC.2.2.2.1 hC.2.2.2.2.2.2.2.2.2.2.1 hP rfl gf.1.1 gf.2.2.1 (hC.2.2.2.2.1 _ gf.2.1) (by rw [gf.2.2.2.1]; exact fun _ h => h) hE hd ((kk (hR.2.2.2.2.1 a kf)) g p e R s m args below meth c H locs cells slots am am0 ls mc ms QQ hC hR hx hL (ok_i (ok_t hs)) hl h1 h2 h3 h4 hQ)
theorem ar_getJ {X : gx_T} {M : mt_T} {d pc : Nat} {L : List (Nat × Option av_T)} {st : List av_T} {G : mm_T} {k n : Nat} {Q : Option av_T → mm_T → Prop} {i c0 N kf a : Nat} {C : String} {T : u_T} (gf : gf_ok M.1.cls i c0 N kf C T 1) (hd : decode M.2.1 pc = .ok (.getfield i, 3)) (hs0 : sh_t a = (c0, N)) (kk : j6_in (mm_J G a kf) → aw_W X M d (pc + 3) L (av_l (mm_J G a kf) :: st) G k n Q) : aw_W X M d pc L (av_r (some a) :: st) G k n Q := by
  intro g p e R s m args below meth c H locs cells slots am am0 ls mc ms QQ hC hR hx hL hs hl h1 h2 h3 h4 hQ
  obtain ⟨q, hq, e9⟩ := av_ref (ok_h hs)
  rw [List.map_cons, e9]
  have ha9 : a < 900 := (sh_small hs0).2 (by have := gf.1.2.2.1; omega)
  have hP := mr_P hR ha9 hq (ce_obj gf.1 hs0)
  have hE : ((List.range N).map (fun k => ce_v am G a (T k).2.2.1 k))[kf]? = some (av_t am (av_l (mm_J G a kf))) := by
    rw [List.getElem?_map, List.getElem?_range gf.2.2.1, Option.map_some, ce_v_J gf.2.2.2.2]; rfl
  exact va_get (q0 := 0) (ci := c0) (k := kf) (v := av_t am (av_l (mm_J G a kf))) hC.1 hC.2.1 hC.2.2.2.2.1 gf.1.2.1 hC.2.2.2.1 hC.2.2.2.2.2.2.2.2.2.2.1 hP rfl gf.1.1 gf.2.2.1 (hC.2.2.2.2.1 _ gf.2.1) (by rw [gf.2.2.2.1]; exact fun _ h => h) hE hd ((kk (hR.2.2.2.2.2.1 a kf)) g p e R s m args below meth c H locs cells slots am am0 ls mc ms QQ hC hR hx hL (ok_l (ok_t hs)) hl h1 h2 h3 h4 hQ)
theorem ar_getR {X : gx_T} {M : mt_T} {d pc : Nat} {L : List (Nat × Option av_T)} {st : List av_T} {G : mm_T} {k n : Nat} {Q : Option av_T → mm_T → Prop} {r : Option Nat} {i c0 N kf a : Nat} {C : String} {T : u_T} (gf : gf_ok M.1.cls i c0 N kf C T 2) (hd : decode M.2.1 pc = .ok (.getfield i, 3)) (hs0 : sh_t a = (c0, N)) (hv : mm_R G a kf = r) (kk : aw_W X M d (pc + 3) L (av_r r :: st) G k n Q) : aw_W X M d pc L (av_r (some a) :: st) G k n Q := by
  intro g p e R s m args below meth c H locs cells slots am am0 ls mc ms QQ hC hR hx hL hs hl h1 h2 h3 h4 hQ
  obtain ⟨q, hq, e9⟩ := av_ref (ok_h hs)
  rw [List.map_cons, e9]
  have ha9 : a < 900 := (sh_small hs0).2 (by have := gf.1.2.2.1; omega)
  have hP := mr_P hR ha9 hq (ce_obj gf.1 hs0)
  have hE : ((List.range N).map (fun k => ce_v am G a (T k).2.2.1 k))[kf]? = some (va_rf ((mm_R G a kf).bind am)) := by
    rw [List.getElem?_map, List.getElem?_range gf.2.2.1, Option.map_some, ce_v_R gf.2.2.2.2]
  rw [hv] at hE
  have hok : av_ok am (av_r r) := by
    cases hr : r with
    | none => trivial
    | some z => exact (hR.2.2.2.1 a kf z (hv.trans hr)).2
  exact va_get (q0 := 0) (ci := c0) (k := kf) (v := av_t am (av_r r)) hC.1 hC.2.1 hC.2.2.2.2.1 gf.1.2.1 hC.2.2.2.1 hC.2.2.2.2.2.2.2.2.2.2.1 hP rfl gf.1.1 gf.2.2.1 (hC.2.2.2.2.1 _ gf.2.1) (by rw [gf.2.2.2.1]; exact fun _ h => h) hE hd (kk g p e R s m args below meth c H locs cells slots am am0 ls mc ms QQ hC hR hx hL (ok_c hok (ok_t hs)) hl h1 h2 h3 h4 hQ)
theorem ar_putI {X : gx_T} {M : mt_T} {d pc : Nat} {L : List (Nat × Option av_T)} {st : List av_T} {G : mm_T} {k n : Nat} {Q : Option av_T → mm_T → Prop} {x : Int} {i c0 N kf a : Nat} {C : String} {T : u_T} (gf : gf_ok M.1.cls i c0 N kf C T 0) (hd : decode M.2.1 pc = .ok (.putfield i, 3)) (hfin : (T kf).2.2.2 = false) (hs0 : sh_t a = (c0, N)) (hxr : i3_in x) (kk : aw_W X M d (pc + 3) L st (ms_I G a kf x) k n Q) : aw_W X M d pc L (av_i x :: av_r (some a) :: st) G k n Q := by
  intro g p e R s m args below meth c H locs cells slots am am0 ls mc ms QQ hC hR hx hL hs hl h1 h2 h3 h4 hQ
  obtain ⟨q, hq, e9⟩ := av_ref (ok_h (ok_t hs))
  rw [List.map_cons, List.map_cons, e9]
  have ha9 : a < 900 := (sh_small hs0).2 (by have := gf.1.2.2.1; omega)
  obtain ⟨ty, hdt⟩ := gf.1.2.2.2
  have hnf : narrow (ty kf) (av_t am (av_i x)) = av_t am (av_i x) ∧ fits (ty kf) (av_t am (av_i x)) = true := by
    have hty : ty kf = .int := by
      have h5 := hdt.1 kf gf.2.2.1
      have : (T kf).2.2.1 = "I" := by have h6 := gf.2.2.2.2; unfold fk_d at h6; split at h6; assumption; (split at h6; omega; split at h6 <;> omega)
      rw [this] at h5
      exact (Option.some.inj ((by decide +kernel : parseFieldDescriptor "I" = some .int).symm.trans h5)).symm
    rw [hty]; exact ⟨rfl, rfl⟩
  have hq0 := (hR.1 a q ha9 hq).2
  obtain ⟨r0, hr1, cell, q1, q2, q3, q4⟩ := (mr_P hR ha9 hq (ce_obj gf.1 hs0)) 0 _ rfl
  have hr : r0 = (C, T, N) := Option.some.inj (hr1.symm.trans gf.1.1)
  subst hr
  have hK := hC.2.2.2.2.2.2.2.2.2.2.1
  have hap := va_apart (own := M.1.cls) hC.2.2.2.2.1 gf.1.2.1 ty hdt.1 hdt.2.1 hK gf.1.1
  obtain ⟨hS, hfc, kC, hkC, hkind⟩ := hK.1 c0 _ gf.1.1
  obtain ⟨cf, kf2, fi, f, hi, hsl⟩ := hS kf gf.2.2.1
  have hlay := hC.2.2.2.2.1 _ (gf.1.2.1 _ (u_in_lay gf.2.2.1))
  unfold u_lay at hlay
  rw [if_neg (by rw [hfin]; decide)] at hlay
  have hst := (u_facts hfc hkC (u_lays hC.2.2.2.2.1 gf.1.2.1 gf.2.2.1) hi).1
  have h6 := u_store hfc hkC hkind hlay hi (hdt.1 kf gf.2.2.1) hnf.1 hnf.2
  refine W.putK hC.1 hC.2.1 (f := f) ⟨hC.2.2.2.1, hC.2.2.2.2.1 _ gf.2.1, ⟨_, _, _, (by rw [gf.2.2.2.1] at hi; exact hi)⟩, hst⟩ (by rw [q2]; exact h6) q1 q3 (by rw [hsl]; exact k2_hasslot (q4 kf gf.2.2.1)) rfl rfl hd fun H' e1 e2 e3 => ?_
  rw [hsl] at e1 ⊢
  have hcell : va_at (gp_D g) cl_all (q, ce_of (gp_A g) am (ms_I G a kf x) a) H' := by
    rw [ce_obj gf.1 hs0]
    refine ⟨_, gf.1.1, t_OB.to (V := updV (vp_V ((List.range N).map (fun k => ce_v am G a (T k).2.2.1 k))) kf (av_t am (av_i x))) ⟨_, e1, q2, q3, t_set q4 hap gf.2.2.1 _⟩ (fun j hj => ?_)⟩
    have hj : j < N := hj
    unfold updV vp_V
    by_cases hjk : j = kf
    · subst hjk
      have hself : mm_I (ms_I G a j x) a j = x := up_2_s _ _ _ _
      rw [if_pos rfl, List.getD_eq_getElem?_getD, List.getElem?_map, List.getElem?_range hj, Option.map_some, Option.getD_some, ce_v_I (Or.inl gf.2.2.2.2), hself]
      rfl
    · have o_I : mm_I (ms_I G a kf x) a j = mm_I G a j := up_2_n _ _ (fun z => hjk z.2)
      have o_J : mm_J (ms_I G a kf x) a j = mm_J G a j := rfl
      have o_R : mm_R (ms_I G a kf x) a j = mm_R G a j := rfl
      rw [if_neg hjk, List.getD_eq_getElem?_getD, List.getD_eq_getElem?_getD, List.getElem?_map, List.getElem?_map, List.getElem?_range hj, Option.map_some, Option.map_some, Option.getD_some, Option.getD_some]
      unfold ce_v
      rw [o_I, o_J, o_R]
  have hl2 := lo_app (k := (gp_D g).2 c0 kf) hl hq0
  exact kk g p e R s m args below meth c H' _ cells slots am am0 ls mc ms QQ hC (mr_updI hR ha9 hq hxr e2 e3 hcell) hx hL (ok_t (ok_t hs)) hl2 h1 h2 h3 h4 hQ
theorem ar_putFI {X : gx_T} {M : mt_T} {d pc : Nat} {L : List (Nat × Option av_T)} {st : List av_T} {G : mm_T} {k n : Nat} {Q : Option av_T → mm_T → Prop} {x : Int} {i c0 N kf a : Nat} {C : String} {T : u_T} (gf : gf_ok M.1.cls i c0 N kf C T 0) (hd : decode M.2.1 pc = .ok (.putfield i, 3)) (hfin : (T kf).2.2.2 = true) (hini : M.1.name = "<init>") (hown : M.1.cls = C) (hs0 : sh_t a = (c0, N)) (hxr : i3_in x) (kk : aw_W X M d (pc + 3) L st (ms_I G a kf x) k n Q) : aw_W X M d pc L (av_i x :: av_r (some a) :: st) G k n Q := by
  intro g p e R s m args below meth c H locs cells slots am am0 ls mc ms QQ hC hR hx hL hs hl h1 h2 h3 h4 hQ
  obtain ⟨q, hq, e9⟩ := av_ref (ok_h (ok_t hs))
  rw [List.map_cons, List.map_cons, e9]
  have ha9 : a < 900 := (sh_small hs0).2 (by have := gf.1.2.2.1; omega)
  obtain ⟨ty, hdt⟩ := gf.1.2.2.2
  have hnf : narrow (ty kf) (av_t am (av_i x)) = av_t am (av_i x) ∧ fits (ty kf) (av_t am (av_i x)) = true := by
    have hty : ty kf = .int := by
      have h5 := hdt.1 kf gf.2.2.1
      have : (T kf).2.2.1 = "I" := by have h6 := gf.2.2.2.2; unfold fk_d at h6; split at h6; assumption; (split at h6; omega; split at h6 <;> omega)
      rw [this] at h5
      exact (Option.some.inj ((by decide +kernel : parseFieldDescriptor "I" = some .int).symm.trans h5)).symm
    rw [hty]; exact ⟨rfl, rfl⟩
  have hq0 := (hR.1 a q ha9 hq).2
  obtain ⟨r0, hr1, cell, q1, q2, q3, q4⟩ := (mr_P hR ha9 hq (ce_obj gf.1 hs0)) 0 _ rfl
  have hr : r0 = (C, T, N) := Option.some.inj (hr1.symm.trans gf.1.1)
  subst hr
  have hK := hC.2.2.2.2.2.2.2.2.2.2.1
  have hap := va_apart (own := M.1.cls) hC.2.2.2.2.1 gf.1.2.1 ty hdt.1 hdt.2.1 hK gf.1.1
  obtain ⟨hS, hfc, kC, hkC, hkind⟩ := hK.1 c0 _ gf.1.1
  obtain ⟨cf, kf2, fi, f, hi, hsl⟩ := hS kf gf.2.2.1
  have hlay := hC.2.2.2.2.1 _ (gf.1.2.1 _ (u_in_lay gf.2.2.1))
  unfold u_lay at hlay
  rw [if_pos hfin] at hlay
  have hst := (u_facts hfc hkC (u_lays hC.2.2.2.2.1 gf.1.2.1 gf.2.2.1) hi).1
  have hcf : m.cls = cf := by
    obtain ⟨_, _, c', _, _, _, -, -, hf', -, -, -, hown2, -⟩ := Cond.laysFinal_spec hlay
    have e1 : c' = cf := by have := hi.symm.trans hf'; simp at this; exact this.1.symm
    rw [gf.2.2.2.1, ← hown] at hown2
    rw [← e1]; exact Option.some.inj (hC.2.2.2.1.symm.trans hown2)
  have h6 := u_fits hfc hkC hkind (Or.inr hlay) hi (hdt.1 kf gf.2.2.1) hnf.1 hnf.2
  refine W.putFinK hC.1 hC.2.1 hC.2.2.2.1 (hC.2.2.2.2.1 _ gf.2.1) (by rw [gf.2.2.2.1] at hi; exact hi) hst hcf (hC.2.2.2.2.2.2.2.1.trans hini) (by rw [q2]; exact h6) q1 q3 (by rw [hsl]; exact k2_hasslot (q4 kf gf.2.2.1)) rfl rfl hd fun H' e1 e2 e3 => ?_
  rw [hsl] at e1 ⊢
  have hcell : va_at (gp_D g) cl_all (q, ce_of (gp_A g) am (ms_I G a kf x) a) H' := by
    rw [ce_obj gf.1 hs0]
    refine ⟨_, gf.1.1, t_OB.to (V := updV (vp_V ((List.range N).map (fun k => ce_v am G a (T k).2.2.1 k))) kf (av_t am (av_i x))) ⟨_, e1, q2, q3, t_set q4 hap gf.2.2.1 _⟩ (fun j hj => ?_)⟩
    have hj : j < N := hj
    unfold updV vp_V
    by_cases hjk : j = kf
    · subst hjk
      have hself : mm_I (ms_I G a j x) a j = x := up_2_s _ _ _ _
      rw [if_pos rfl, List.getD_eq_getElem?_getD, List.getElem?_map, List.getElem?_range hj, Option.map_some, Option.getD_some, ce_v_I (Or.inl gf.2.2.2.2), hself]
      rfl
    · have o_I : mm_I (ms_I G a kf x) a j = mm_I G a j := up_2_n _ _ (fun z => hjk z.2)
      have o_J : mm_J (ms_I G a kf x) a j = mm_J G a j := rfl
      have o_R : mm_R (ms_I G a kf x) a j = mm_R G a j := rfl
      rw [if_neg hjk, List.getD_eq_getElem?_getD, List.getD_eq_getElem?_getD, List.getElem?_map, List.getElem?_map, List.getElem?_range hj, Option.map_some, Option.map_some, Option.getD_some, Option.getD_some]
      unfold ce_v
      rw [o_I, o_J, o_R]
  have hl2 := lo_app (k := (gp_D g).2 c0 kf) hl hq0
  exact kk g p e R s m args below meth c H' _ cells slots am am0 ls mc ms QQ hC (mr_updI hR ha9 hq hxr e2 e3 hcell) hx hL (ok_t (ok_t hs)) hl2 h1 h2 h3 h4 hQ
theorem ar_putZ {X : gx_T} {M : mt_T} {d pc : Nat} {L : List (Nat × Option av_T)} {st : List av_T} {G : mm_T} {k n : Nat} {Q : Option av_T → mm_T → Prop} {x : Int} {i c0 N kf a : Nat} {C : String} {T : u_T} (gf : gf_ok M.1.cls i c0 N kf C T 3) (hd : decode M.2.1 pc = .ok (.putfield i, 3)) (hfin : (T kf).2.2.2 = false) (hs0 : sh_t a = (c0, N)) (hxr : x = 0 ∨ x = 1) (kk : aw_W X M d (pc + 3) L st (ms_I G a kf x) k n Q) : aw_W X M d pc L (av_i x :: av_r (some a) :: st) G k n Q := by
  intro g p e R s m args below meth c H locs cells slots am am0 ls mc ms QQ hC hR hx hL hs hl h1 h2 h3 h4 hQ
  obtain ⟨q, hq, e9⟩ := av_ref (ok_h (ok_t hs))
  rw [List.map_cons, List.map_cons, e9]
  have ha9 : a < 900 := (sh_small hs0).2 (by have := gf.1.2.2.1; omega)
  obtain ⟨ty, hdt⟩ := gf.1.2.2.2
  have hnf : narrow (ty kf) (av_t am (av_i x)) = av_t am (av_i x) ∧ fits (ty kf) (av_t am (av_i x)) = true := by
    have hty : ty kf = .boolean := by
      have h5 := hdt.1 kf gf.2.2.1
      have : (T kf).2.2.1 = "Z" := by have h6 := gf.2.2.2.2; unfold fk_d at h6; split at h6; omega; (split at h6; assumption; split at h6 <;> omega)
      rw [this] at h5
      exact (Option.some.inj ((by decide +kernel : parseFieldDescriptor "Z" = some .boolean).symm.trans h5)).symm
    rw [hty]; rcases hxr with rfl | rfl <;> exact ⟨rfl, rfl⟩
  have hq0 := (hR.1 a q ha9 hq).2
  obtain ⟨r0, hr1, cell, q1, q2, q3, q4⟩ := (mr_P hR ha9 hq (ce_obj gf.1 hs0)) 0 _ rfl
  have hr : r0 = (C, T, N) := Option.some.inj (hr1.symm.trans gf.1.1)
  subst hr
  have hK := hC.2.2.2.2.2.2.2.2.2.2.1
  have hap := va_apart (own := M.1.cls) hC.2.2.2.2.1 gf.1.2.1 ty hdt.1 hdt.2.1 hK gf.1.1
  obtain ⟨hS, hfc, kC, hkC, hkind⟩ := hK.1 c0 _ gf.1.1
  obtain ⟨cf, kf2, fi, f, hi, hsl⟩ := hS kf gf.2.2.1
  have hlay := hC.2.2.2.2.1 _ (gf.1.2.1 _ (u_in_lay gf.2.2.1))
  unfold u_lay at hlay
  rw [if_neg (by rw [hfin]; decide)] at hlay
  have hst := (u_facts hfc hkC (u_lays hC.2.2.2.2.1 gf.1.2.1 gf.2.2.1) hi).1
  have h6 := u_store hfc hkC hkind hlay hi (hdt.1 kf gf.2.2.1) hnf.1 hnf.2
  refine W.putK hC.1 hC.2.1 (f := f) ⟨hC.2.2.2.1, hC.2.2.2.2.1 _ gf.2.1, ⟨_, _, _, (by rw [gf.2.2.2.1] at hi; exact hi)⟩, hst⟩ (by rw [q2]; exact h6) q1 q3 (by rw [hsl]; exact k2_hasslot (q4 kf gf.2.2.1)) rfl rfl hd fun H' e1 e2 e3 => ?_
  rw [hsl] at e1 ⊢
  have hcell : va_at (gp_D g) cl_all (q, ce_of (gp_A g) am (ms_I G a kf x) a) H' := by
    rw [ce_obj gf.1 hs0]
    refine ⟨_, gf.1.1, t_OB.to (V := updV (vp_V ((List.range N).map (fun k => ce_v am G a (T k).2.2.1 k))) kf (av_t am (av_i x))) ⟨_, e1, q2, q3, t_set q4 hap gf.2.2.1 _⟩ (fun j hj => ?_)⟩
    have hj : j < N := hj
    unfold updV vp_V
    by_cases hjk : j = kf
    · subst hjk
      have hself : mm_I (ms_I G a j x) a j = x := up_2_s _ _ _ _
      rw [if_pos rfl, List.getD_eq_getElem?_getD, List.getElem?_map, List.getElem?_range hj, Option.map_some, Option.getD_some, ce_v_I (Or.inr gf.2.2.2.2), hself]
      rfl
    · have o_I : mm_I (ms_I G a kf x) a j = mm_I G a j := up_2_n _ _ (fun z => hjk z.2)
      have o_J : mm_J (ms_I G a kf x) a j = mm_J G a j := rfl
      have o_R : mm_R (ms_I G a kf x) a j = mm_R G a j := rfl
      rw [if_neg hjk, List.getD_eq_getElem?_getD, List.getD_eq_getElem?_getD, List.getElem?_map, List.getElem?_map, List.getElem?_range hj, Option.map_some, Option.map_some, Option.getD_some, Option.getD_some]
      unfold ce_v
      rw [o_I, o_J, o_R]
  have hl2 := lo_app (k := (gp_D g).2 c0 kf) hl hq0
  exact kk g p e R s m args below meth c H' _ cells slots am am0 ls mc ms QQ hC (mr_updI hR ha9 hq (by omega) e2 e3 hcell) hx hL (ok_t (ok_t hs)) hl2 h1 h2 h3 h4 hQ
theorem ar_putFZ {X : gx_T} {M : mt_T} {d pc : Nat} {L : List (Nat × Option av_T)} {st : List av_T} {G : mm_T} {k n : Nat} {Q : Option av_T → mm_T → Prop} {x : Int} {i c0 N kf a : Nat} {C : String} {T : u_T} (gf : gf_ok M.1.cls i c0 N kf C T 3) (hd : decode M.2.1 pc = .ok (.putfield i, 3)) (hfin : (T kf).2.2.2 = true) (hini : M.1.name = "<init>") (hown : M.1.cls = C) (hs0 : sh_t a = (c0, N)) (hxr : x = 0 ∨ x = 1) (kk : aw_W X M d (pc + 3) L st (ms_I G a kf x) k n Q) : aw_W X M d pc L (av_i x :: av_r (some a) :: st) G k n Q := by
  intro g p e R s m args below meth c H locs cells slots am am0 ls mc ms QQ hC hR hx hL hs hl h1 h2 h3 h4 hQ
  obtain ⟨q, hq, e9⟩ := av_ref (ok_h (ok_t hs))
  rw [List.map_cons, List.map_cons, e9]
  have ha9 : a < 900 := (sh_small hs0).2 (by have := gf.1.2.2.1; omega)
  obtain ⟨ty, hdt⟩ := gf.1.2.2.2
  have hnf : narrow (ty kf) (av_t am (av_i x)) = av_t am (av_i x) ∧ fits (ty kf) (av_t am (av_i x)) = true := by
    have hty : ty kf = .boolean := by
      have h5 := hdt.1 kf gf.2.2.1
      have : (T kf).2.2.1 = "Z" := by have h6 := gf.2.2.2.2; unfold fk_d at h6; split at h6; omega; (split at h6; assumption; split at h6 <;> omega)
      rw [this] at h5
      exact (Option.some.inj ((by decide +kernel : parseFieldDescriptor "Z" = some .boolean).symm.trans h5)).symm
    rw [hty]; rcases hxr with rfl | rfl <;> exact ⟨rfl, rfl⟩
  have hq0 := (hR.1 a q ha9 hq).2
  obtain ⟨r0, hr1, cell, q1, q2, q3, q4⟩ := (mr_P hR ha9 hq (ce_obj gf.1 hs0)) 0 _ rfl
  have hr : r0 = (C, T, N) := Option.some.inj (hr1.symm.trans gf.1.1)
  subst hr
  have hK := hC.2.2.2.2.2.2.2.2.2.2.1
  have hap := va_apart (own := M.1.cls) hC.2.2.2.2.1 gf.1.2.1 ty hdt.1 hdt.2.1 hK gf.1.1
  obtain ⟨hS, hfc, kC, hkC, hkind⟩ := hK.1 c0 _ gf.1.1
  obtain ⟨cf, kf2, fi, f, hi, hsl⟩ := hS kf gf.2.2.1
  have hlay := hC.2.2.2.2.1 _ (gf.1.2.1 _ (u_in_lay gf.2.2.1))
  unfold u_lay at hlay
  rw [if_pos hfin] at hlay
  have hst := (u_facts hfc hkC (u_lays hC.2.2.2.2.1 gf.1.2.1 gf.2.2.1) hi).1
  have hcf : m.cls = cf := by
    obtain ⟨_, _, c', _, _, _, -, -, hf', -, -, -, hown2, -⟩ := Cond.laysFinal_spec hlay
    have e1 : c' = cf := by have := hi.symm.trans hf'; simp at this; exact this.1.symm
    rw [gf.2.2.2.1, ← hown] at hown2
    rw [← e1]; exact Option.some.inj (hC.2.2.2.1.symm.trans hown2)
  have h6 := u_fits hfc hkC hkind (Or.inr hlay) hi (hdt.1 kf gf.2.2.1) hnf.1 hnf.2
  refine W.putFinK hC.1 hC.2.1 hC.2.2.2.1 (hC.2.2.2.2.1 _ gf.2.1) (by rw [gf.2.2.2.1] at hi; exact hi) hst hcf (hC.2.2.2.2.2.2.2.1.trans hini) (by rw [q2]; exact h6) q1 q3 (by rw [hsl]; exact k2_hasslot (q4 kf gf.2.2.1)) rfl rfl hd fun H' e1 e2 e3 => ?_
  rw [hsl] at e1 ⊢
  have hcell : va_at (gp_D g) cl_all (q, ce_of (gp_A g) am (ms_I G a kf x) a) H' := by
    rw [ce_obj gf.1 hs0]
    refine ⟨_, gf.1.1, t_OB.to (V := updV (vp_V ((List.range N).map (fun k => ce_v am G a (T k).2.2.1 k))) kf (av_t am (av_i x))) ⟨_, e1, q2, q3, t_set q4 hap gf.2.2.1 _⟩ (fun j hj => ?_)⟩
    have hj : j < N := hj
    unfold updV vp_V
    by_cases hjk : j = kf
    · subst hjk
      have hself : mm_I (ms_I G a j x) a j = x := up_2_s _ _ _ _
      rw [if_pos rfl, List.getD_eq_getElem?_getD, List.getElem?_map, List.getElem?_range hj, Option.map_some, Option.getD_some, ce_v_I (Or.inr gf.2.2.2.2), hself]
      rfl
    · have o_I : mm_I (ms_I G a kf x) a j = mm_I G a j := up_2_n _ _ (fun z => hjk z.2)
      have o_J : mm_J (ms_I G a kf x) a j = mm_J G a j := rfl
      have o_R : mm_R (ms_I G a kf x) a j = mm_R G a j := rfl
      rw [if_neg hjk, List.getD_eq_getElem?_getD, List.getD_eq_getElem?_getD, List.getElem?_map, List.getElem?_map, List.getElem?_range hj, Option.map_some, Option.map_some, Option.getD_some, Option.getD_some]
      unfold ce_v
      rw [o_I, o_J, o_R]
  have hl2 := lo_app (k := (gp_D g).2 c0 kf) hl hq0
  exact kk g p e R s m args below meth c H' _ cells slots am am0 ls mc ms QQ hC (mr_updI hR ha9 hq (by omega) e2 e3 hcell) hx hL (ok_t (ok_t hs)) hl2 h1 h2 h3 h4 hQ
theorem ar_putJ {X : gx_T} {M : mt_T} {d pc : Nat} {L : List (Nat × Option av_T)} {st : List av_T} {G : mm_T} {k n : Nat} {Q : Option av_T → mm_T → Prop} {x : Int} {i c0 N kf a : Nat} {C : String} {T : u_T} (gf : gf_ok M.1.cls i c0 N kf C T 1) (hd : decode M.2.1 pc = .ok (.putfield i, 3)) (hfin : (T kf).2.2.2 = false) (hs0 : sh_t a = (c0, N)) (hxr : j6_in x) (kk : aw_W X M d (pc + 3) L st (ms_J G a kf x) k n Q) : aw_W X M d pc L (av_l x :: av_r (some a) :: st) G k n Q := by
  intro g p e R s m args below meth c H locs cells slots am am0 ls mc ms QQ hC hR hx hL hs hl h1 h2 h3 h4 hQ
  obtain ⟨q, hq, e9⟩ := av_ref (ok_h (ok_t hs))
  rw [List.map_cons, List.map_cons, e9]
  have ha9 : a < 900 := (sh_small hs0).2 (by have := gf.1.2.2.1; omega)
  obtain ⟨ty, hdt⟩ := gf.1.2.2.2
  have hnf : narrow (ty kf) (av_t am (av_l x)) = av_t am (av_l x) ∧ fits (ty kf) (av_t am (av_l x)) = true := by
    have hty : ty kf = .long := by
      have h5 := hdt.1 kf gf.2.2.1
      have : (T kf).2.2.1 = "J" := by have h6 := gf.2.2.2.2; unfold fk_d at h6; split at h6; omega; (split at h6; omega; split at h6; assumption; omega)
      rw [this] at h5
      exact (Option.some.inj ((by decide +kernel : parseFieldDescriptor "J" = some .long).symm.trans h5)).symm
    rw [hty]; exact ⟨rfl, rfl⟩
  have hq0 := (hR.1 a q ha9 hq).2
  obtain ⟨r0, hr1, cell, q1, q2, q3, q4⟩ := (mr_P hR ha9 hq (ce_obj gf.1 hs0)) 0 _ rfl
  have hr : r0 = (C, T, N) := Option.some.inj (hr1.symm.trans gf.1.1)
  subst hr
  have hK := hC.2.2.2.2.2.2.2.2.2.2.1
  have hap := va_apart (own := M.1.cls) hC.2.2.2.2.1 gf.1.2.1 ty hdt.1 hdt.2.1 hK gf.1.1
  obtain ⟨hS, hfc, kC, hkC, hkind⟩ := hK.1 c0 _ gf.1.1
  obtain ⟨cf, kf2, fi, f, hi, hsl⟩ := hS kf gf.2.2.1
  have hlay := hC.2.2.2.2.1 _ (gf.1.2.1 _ (u_in_lay gf.2.2.1))
  unfold u_lay at hlay
  rw [if_neg (by rw [hfin]; decide)] at hlay
  have hst := (u_facts hfc hkC (u_lays hC.2.2.2.2.1 gf.1.2.1 gf.2.2.1) hi).1
  have h6 := u_store hfc hkC hkind hlay hi (hdt.1 kf gf.2.2.1) hnf.1 hnf.2
  refine W.putK hC.1 hC.2.1 (f := f) ⟨hC.2.2.2.1, hC.2.2.2.2.1 _ gf.2.1, ⟨_, _, _, (by rw [gf.2.2.2.1] at hi; exact hi)⟩, hst⟩ (by rw [q2]; exact h6) q1 q3 (by rw [hsl]; exact k2_hasslot (q4 kf gf.2.2.1)) rfl rfl hd fun H' e1 e2 e3 => ?_
  rw [hsl] at e1 ⊢
  have hcell : va_at (gp_D g) cl_all (q, ce_of (gp_A g) am (ms_J G a kf x) a) H' := by
    rw [ce_obj gf.1 hs0]
    refine ⟨_, gf.1.1, t_OB.to (V := updV (vp_V ((List.range N).map (fun k => ce_v am G a (T k).2.2.1 k))) kf (av_t am (av_l x))) ⟨_, e1, q2, q3, t_set q4 hap gf.2.2.1 _⟩ (fun j hj => ?_)⟩
    have hj : j < N := hj
    unfold updV vp_V
    by_cases hjk : j = kf
    · subst hjk
      have hself : mm_J (ms_J G a j x) a j = x := up_2_s _ _ _ _
      rw [if_pos rfl, List.getD_eq_getElem?_getD, List.getElem?_map, List.getElem?_range hj, Option.map_some, Option.getD_some, ce_v_J gf.2.2.2.2, hself]
      rfl
    · have o_I : mm_I (ms_J G a kf x) a j = mm_I G a j := rfl
      have o_J : mm_J (ms_J G a kf x) a j = mm_J G a j := up_2_n _ _ (fun z => hjk z.2)
      have o_R : mm_R (ms_J G a kf x) a j = mm_R G a j := rfl
      rw [if_neg hjk, List.getD_eq_getElem?_getD, List.getD_eq_getElem?_getD, List.getElem?_map, List.getElem?_map, List.getElem?_range hj, Option.map_some, Option.map_some, Option.getD_some, Option.getD_some]
      unfold ce_v
      rw [o_I, o_J, o_R]
  have hl2 := lo_app (k := (gp_D g).2 c0 kf) hl hq0
  exact kk g p e R s m args below meth c H' _ cells slots am am0 ls mc ms QQ hC (mr_updJ hR ha9 hq hxr e2 e3 hcell) hx hL (ok_t (ok_t hs)) hl2 h1 h2 h3 h4 hQ
theorem ar_putFJ {X : gx_T} {M : mt_T} {d pc : Nat} {L : List (Nat × Option av_T)} {st : List av_T} {G : mm_T} {k n : Nat} {Q : Option av_T → mm_T → Prop} {x : Int} {i c0 N kf a : Nat} {C : String} {T : u_T} (gf : gf_ok M.1.cls i c0 N kf C T 1) (hd : decode M.2.1 pc = .ok (.putfield i, 3)) (hfin : (T kf).2.2.2 = true) (hini : M.1.name = "<init>") (hown : M.1.cls = C) (hs0 : sh_t a = (c0, N)) (hxr : j6_in x) (kk : aw_W X M d (pc + 3) L st (ms_J G a kf x) k n Q) : aw_W X M d pc L (av_l x :: av_r (some a) :: st) G k n Q := by
  intro g p e R s m args below meth c H locs cells slots am am0 ls mc ms QQ hC hR hx hL hs hl h1 h2 h3 h4 hQ
  obtain ⟨q, hq, e9⟩ := av_ref (ok_h (ok_t hs))
  rw [List.map_cons, List.map_cons, e9]
  have ha9 : a < 900 := (sh_small hs0).2 (by have := gf.1.2.2.1; omega)
  obtain ⟨ty, hdt⟩ := gf.1.2.2.2
  have hnf : narrow (ty kf) (av_t am (av_l x)) = av_t am (av_l x) ∧ fits (ty kf) (av_t am (av_l x)) = true := by
    have hty : ty kf = .long := by
      have h5 := hdt.1 kf gf.2.2.1
      have : (T kf).2.2.1 = "J" := by have h6 := gf.2.2.2.2; unfold fk_d at h6; split at h6; omega; (split at h6; omega; split at h6; assumption; omega)
      rw [this] at h5
      exact (Option.some.inj ((by decide +kernel : parseFieldDescriptor "J" = some .long).symm.trans h5)).symm
    rw [hty]; exact ⟨rfl, rfl⟩
  have hq0 := (hR.1 a q ha9 hq).2
  obtain ⟨r0, hr1, cell, q1, q2, q3, q4⟩ := (mr_P hR ha9 hq (ce_obj gf.1 hs0)) 0 _ rfl
  have hr : r0 = (C, T, N) := Option.some.inj (hr1.symm.trans gf.1.1)
  subst hr
  have hK := hC.2.2.2.2.2.2.2.2.2.2.1
  have hap := va_apart (own := M.1.cls) hC.2.2.2.2.1 gf.1.2.1 ty hdt.1 hdt.2.1 hK gf.1.1
  obtain ⟨hS, hfc, kC, hkC, hkind⟩ := hK.1 c0 _ gf.1.1
  obtain ⟨cf, kf2, fi, f, hi, hsl⟩ := hS kf gf.2.2.1
  have hlay := hC.2.2.2.2.1 _ (gf.1.2.1 _ (u_in_lay gf.2.2.1))
  unfold u_lay at hlay
  rw [if_pos hfin] at hlay
  have hst := (u_facts hfc hkC (u_lays hC.2.2.2.2.1 gf.1.2.1 gf.2.2.1) hi).1
  have hcf : m.cls = cf := by
    obtain ⟨_, _, c', _, _, _, -, -, hf', -, -, -, hown2, -⟩ := Cond.laysFinal_spec hlay
    have e1 : c' = cf := by have := hi.symm.trans hf'; simp at this; exact this.1.symm
    rw [gf.2.2.2.1, ← hown] at hown2
    rw [← e1]; exact Option.some.inj (hC.2.2.2.1.symm.trans hown2)
  have h6 := u_fits hfc hkC hkind (Or.inr hlay) hi (hdt.1 kf gf.2.2.1) hnf.1 hnf.2
  refine W.putFinK hC.1 hC.2.1 hC.2.2.2.1 (hC.2.2.2.2.1 _ gf.2.1) (by rw [gf.2.2.2.1] at hi; exact hi) hst hcf (hC.2.2.2.2.2.2.2.1.trans hini) (by rw [q2]; exact h6) q1 q3 (by rw [hsl]; exact k2_hasslot (q4 kf gf.2.2.1)) rfl rfl hd fun H' e1 e2 e3 => ?_
  rw [hsl] at e1 ⊢
  have hcell : va_at (gp_D g) cl_all (q, ce_of (gp_A g) am (ms_J G a kf x) a) H' := by
    rw [ce_obj gf.1 hs0]
    refine ⟨_, gf.1.1, t_OB.to (V := updV (vp_V ((List.range N).map (fun k => ce_v am G a (T k).2.2.1 k))) kf (av_t am (av_l x))) ⟨_, e1, q2, q3, t_set q4 hap gf.2.2.1 _⟩ (fun j hj => ?_)⟩
    have hj : j < N := hj
    unfold updV vp_V
    by_cases hjk : j = kf
    · subst hjk
      have hself : mm_J (ms_J G a j x) a j = x := up_2_s _ _ _ _
      rw [if_pos rfl, List.getD_eq_getElem?_getD, List.getElem?_map, List.getElem?_range hj, Option.map_some, Option.getD_some, ce_v_J gf.2.2.2.2, hself]
      rfl
    · have o_I : mm_I (ms_J G a kf x) a j = mm_I G a j := rfl
      have o_J : mm_J (ms_J G a kf x) a j = mm_J G a j := up_2_n _ _ (fun z => hjk z.2)
      have o_R : mm_R (ms_J G a kf x) a j = mm_R G a j := rfl
      rw [if_neg hjk, List.getD_eq_getElem?_getD, List.getD_eq_getElem?_getD, List.getElem?_map, List.getElem?_map, List.getElem?_range hj, Option.map_some, Option.map_some, Option.getD_some, Option.getD_some]
      unfold ce_v
      rw [o_I, o_J, o_R]
  have hl2 := lo_app (k := (gp_D g).2 c0 kf) hl hq0
  exact kk g p e R s m args below meth c H' _ cells slots am am0 ls mc ms QQ hC (mr_updJ hR ha9 hq hxr e2 e3 hcell) hx hL (ok_t (ok_t hs)) hl2 h1 h2 h3 h4 hQ
theorem ar_putR {X : gx_T} {M : mt_T} {d pc : Nat} {L : List (Nat × Option av_T)} {st : List av_T} {G : mm_T} {k n : Nat} {Q : Option av_T → mm_T → Prop} {r : Option Nat} {i c0 N kf a : Nat} {C : String} {T : u_T} (gf : gf_ok M.1.cls i c0 N kf C T 2) (hd : decode M.2.1 pc = .ok (.putfield i, 3)) (hfin : (T kf).2.2.2 = false) (hs0 : sh_t a = (c0, N)) (hrr : ∀ b, r = some b → b < 900) (kk : aw_W X M d (pc + 3) L st (ms_R G a kf r) k n Q) : aw_W X M d pc L (av_r r :: av_r (some a) :: st) G k n Q := by
  intro g p e R s m args below meth c H locs cells slots am am0 ls mc ms QQ hC hR hx hL hs hl h1 h2 h3 h4 hQ
  obtain ⟨q, hq, e9⟩ := av_ref (ok_h (ok_t hs))
  rw [List.map_cons, List.map_cons, e9]
  have ha9 : a < 900 := (sh_small hs0).2 (by have := gf.1.2.2.1; omega)
  have hvr : ∀ z, r = some z → z < 900 ∧ ∃ q, am z = some q := fun z hz => ⟨hrr z hz, by have := ok_h hs; rw [hz] at this; exact this⟩
  obtain ⟨ty, hdt⟩ := gf.1.2.2.2
  have hnf : narrow (ty kf) (av_t am (av_r r)) = av_t am (av_r r) ∧ fits (ty kf) (av_t am (av_r r)) = true := by
    have h5 := hdt.2.2 kf gf.2.2.1
    rw [gf.2.2.2.2] at h5
    have h6 : ∀ w : Option Nat, narrow (ty kf) (va_rf w) = va_rf w ∧ fits (ty kf) (va_rf w) = true := by
      intro w
      cases ht : ty kf <;> rw [ht] at h5 <;> first | (cases w <;> exact ⟨rfl, rfl⟩) | (exact absurd h5 (by simp [defaultValue, fk_v]))
    exact h6 _
  have hq0 := (hR.1 a q ha9 hq).2
  obtain ⟨r0, hr1, cell, q1, q2, q3, q4⟩ := (mr_P hR ha9 hq (ce_obj gf.1 hs0)) 0 _ rfl
  have hr : r0 = (C, T, N) := Option.some.inj (hr1.symm.trans gf.1.1)
  subst hr
  have hK := hC.2.2.2.2.2.2.2.2.2.2.1
  have hap := va_apart (own := M.1.cls) hC.2.2.2.2.1 gf.1.2.1 ty hdt.1 hdt.2.1 hK gf.1.1
  obtain ⟨hS, hfc, kC, hkC, hkind⟩ := hK.1 c0 _ gf.1.1
  obtain ⟨cf, kf2, fi, f, hi, hsl⟩ := hS kf gf.2.2.1
  have hlay := hC.2.2.2.2.1 _ (gf.1.2.1 _ (u_in_lay gf.2.2.1))
  unfold u_lay at hlay
  rw [if_neg (by rw [hfin]; decide)] at hlay
  have hst := (u_facts hfc hkC (u_lays hC.2.2.2.2.1 gf.1.2.1 gf.2.2.1) hi).1
  have h6 := u_store hfc hkC hkind hlay hi (hdt.1 kf gf.2.2.1) hnf.1 hnf.2
  refine W.putK hC.1 hC.2.1 (f := f) ⟨hC.2.2.2.1, hC.2.2.2.2.1 _ gf.2.1, ⟨_, _, _, (by rw [gf.2.2.2.1] at hi; exact hi)⟩, hst⟩ (by rw [q2]; exact h6) q1 q3 (by rw [hsl]; exact k2_hasslot (q4 kf gf.2.2.1)) rfl rfl hd fun H' e1 e2 e3 => ?_
  rw [hsl] at e1 ⊢
  have hcell : va_at (gp_D g) cl_all (q, ce_of (gp_A g) am (ms_R G a kf r) a) H' := by
    rw [ce_obj gf.1 hs0]
    refine ⟨_, gf.1.1, t_OB.to (V := updV (vp_V ((List.range N).map (fun k => ce_v am G a (T k).2.2.1 k))) kf (av_t am (av_r r))) ⟨_, e1, q2, q3, t_set q4 hap gf.2.2.1 _⟩ (fun j hj => ?_)⟩
    have hj : j < N := hj
    unfold updV vp_V
    by_cases hjk : j = kf
    · subst hjk
      have hself : mm_R (ms_R G a j r) a j = r := up_2_s _ _ _ _
      rw [if_pos rfl, List.getD_eq_getElem?_getD, List.getElem?_map, List.getElem?_range hj, Option.map_some, Option.getD_some, ce_v_R gf.2.2.2.2, hself]
      rfl
    · have o_I : mm_I (ms_R G a kf r) a j = mm_I G a j := rfl
      have o_J : mm_J (ms_R G a kf r) a j = mm_J G a j := rfl
      have o_R : mm_R (ms_R G a kf r) a j = mm_R G a j := up_2_n _ _ (fun z => hjk z.2)
      rw [if_neg hjk, List.getD_eq_getElem?_getD, List.getD_eq_getElem?_getD, List.getElem?_map, List.getElem?_map, List.getElem?_range hj, Option.map_some, Option.map_some, Option.getD_some, Option.getD_some]
      unfold ce_v
      rw [o_I, o_J, o_R]
  have hl2 := lo_app (k := (gp_D g).2 c0 kf) hl hq0
  exact kk g p e R s m args below meth c H' _ cells slots am am0 ls mc ms QQ hC (mr_updR hR ha9 hq hvr e2 e3 hcell) hx hL (ok_t (ok_t hs)) hl2 h1 h2 h3 h4 hQ
theorem ar_putFR {X : gx_T} {M : mt_T} {d pc : Nat} {L : List (Nat × Option av_T)} {st : List av_T} {G : mm_T} {k n : Nat} {Q : Option av_T → mm_T → Prop} {r : Option Nat} {i c0 N kf a : Nat} {C : String} {T : u_T} (gf : gf_ok M.1.cls i c0 N kf C T 2) (hd : decode M.2.1 pc = .ok (.putfield i, 3)) (hfin : (T kf).2.2.2 = true) (hini : M.1.name = "<init>") (hown : M.1.cls = C) (hs0 : sh_t a = (c0, N)) (hrr : ∀ b, r = some b → b < 900) (kk : aw_W X M d (pc + 3) L st (ms_R G a kf r) k n Q) : aw_W X M d pc L (av_r r :: av_r (some a) :: st) G k n Q := by
  intro g p e R s m args below meth c H locs cells slots am am0 ls mc ms QQ hC hR hx hL hs hl h1 h2 h3 h4 hQ
  obtain ⟨q, hq, e9⟩ := av_ref (ok_h (ok_t hs))
  rw [List.map_cons, List.map_cons, e9]
  have ha9 : a < 900 := (sh_small hs0).2 (by have := gf.1.2.2.1; omega)
  have hvr : ∀ z, r = some z → z < 900 ∧ ∃ q, am z = some q := fun z hz => ⟨hrr z hz, by have := ok_h hs; rw [hz] at this; exact this⟩
  obtain ⟨ty, hdt⟩ := gf.1.2.2.2
  have hnf : narrow (ty kf) (av_t am (av_r r)) = av_t am (av_r r) ∧ fits (ty kf) (av_t am (av_r r)) = true := by
    have h5 := hdt.2.2 kf gf.2.2.1
    rw [gf.2.2.2.2] at h5
    have h6 : ∀ w : Option Nat, narrow (ty kf) (va_rf w) = va_rf w ∧ fits (ty kf) (va_rf w) = true := by
      intro w
      cases ht : ty kf <;> rw [ht] at h5 <;> first | (cases w <;> exact ⟨rfl, rfl⟩) | (exact absurd h5 (by simp [defaultValue, fk_v]))
    exact h6 _
  have hq0 := (hR.1 a q ha9 hq).2
  obtain ⟨r0, hr1, cell, q1, q2, q3, q4⟩ := (mr_P hR ha9 hq (ce_obj gf.1 hs0)) 0 _ rfl
  have hr : r0 = (C, T, N) := Option.some.inj (hr1.symm.trans gf.1.1)
  subst hr
  have hK := hC.2.2.2.2.2.2.2.2.2.2.1
  have hap := va_apart (own := M.1.cls) hC.2.2.2.2.1 gf.1.2.1 ty hdt.1 hdt.2.1 hK gf.1.1
  obtain ⟨hS, hfc, kC, hkC, hkind⟩ := hK.1 c0 _ gf.1.1
  obtain ⟨cf, kf2, fi, f, hi, hsl⟩ := hS kf gf.2.2.1
  have hlay := hC.2.2.2.2.1 _ (gf.1.2.1 _ (u_in_lay gf.2.2.1))
  unfold u_lay at hlay
  rw [if_pos hfin] at hlay
  have hst := (u_facts hfc hkC (u_lays hC.2.2.2.2.1 gf.1.2.1 gf.2.2.1) hi).1
  have hcf : m.cls = cf := by
    obtain ⟨_, _, c', _, _, _, -, -, hf', -, -, -, hown2, -⟩ := Cond.laysFinal_spec hlay
    have e1 : c' = cf := by have := hi.symm.trans hf'; simp at this; exact this.1.symm
    rw [gf.2.2.2.1, ← hown] at hown2
    rw [← e1]; exact Option.some.inj (hC.2.2.2.1.symm.trans hown2)
  have h6 := u_fits hfc hkC hkind (Or.inr hlay) hi (hdt.1 kf gf.2.2.1) hnf.1 hnf.2
  refine W.putFinK hC.1 hC.2.1 hC.2.2.2.1 (hC.2.2.2.2.1 _ gf.2.1) (by rw [gf.2.2.2.1] at hi; exact hi) hst hcf (hC.2.2.2.2.2.2.2.1.trans hini) (by rw [q2]; exact h6) q1 q3 (by rw [hsl]; exact k2_hasslot (q4 kf gf.2.2.1)) rfl rfl hd fun H' e1 e2 e3 => ?_
  rw [hsl] at e1 ⊢
  have hcell : va_at (gp_D g) cl_all (q, ce_of (gp_A g) am (ms_R G a kf r) a) H' := by
    rw [ce_obj gf.1 hs0]
    refine ⟨_, gf.1.1, t_OB.to (V := updV (vp_V ((List.range N).map (fun k => ce_v am G a (T k).2.2.1 k))) kf (av_t am (av_r r))) ⟨_, e1, q2, q3, t_set q4 hap gf.2.2.1 _⟩ (fun j hj => ?_)⟩
    have hj : j < N := hj
    unfold updV vp_V
    by_cases hjk : j = kf
    · subst hjk
      have hself : mm_R (ms_R G a j r) a j = r := up_2_s _ _ _ _
      rw [if_pos rfl, List.getD_eq_getElem?_getD, List.getElem?_map, List.getElem?_range hj, Option.map_some, Option.getD_some, ce_v_R gf.2.2.2.2, hself]
      rfl
    · have o_I : mm_I (ms_R G a kf r) a j = mm_I G a j := rfl
      have o_J : mm_J (ms_R G a kf r) a j = mm_J G a j := rfl
      have o_R : mm_R (ms_R G a kf r) a j = mm_R G a j := up_2_n _ _ (fun z => hjk z.2)
      rw [if_neg hjk, List.getD_eq_getElem?_getD, List.getD_eq_getElem?_getD, List.getElem?_map, List.getElem?_map, List.getElem?_range hj, Option.map_some, Option.map_some, Option.getD_some, Option.getD_some]
      unfold ce_v
      rw [o_I, o_J, o_R]
  have hl2 := lo_app (k := (gp_D g).2 c0 kf) hl hq0
  exact kk g p e R s m args below meth c H' _ cells slots am am0 ls mc ms QQ hC (mr_updR hR ha9 hq hvr e2 e3 hcell) hx hL (ok_t (ok_t hs)) hl2 h1 h2 h3 h4 hQ
theorem ar_iald {X : gx_T} {M : mt_T} {d pc : Nat} {L : List (Nat × Option av_T)} {st : List av_T} {G : mm_T} {k n : Nat} {Q : Option av_T → mm_T → Prop} {x : Int} {N a : Nat} (hd : decode M.2.1 pc = .ok (.iaload, 1)) (hs0 : sh_t a = (100, N)) (j : Nat) (hj : x = (j : Int)) (hjN : j < N) (kk : i3_in (mm_I G a j) → aw_W X M d (pc + 1) L (av_i (mm_I G a j) :: st) G k n Q) : aw_W X M d pc L (av_i x :: av_r (some a) :: st) G k n Q := by
  intro g p e R s m args below meth c H locs cells slots am am0 ls mc ms QQ hC hR hx hL hs hl h1 h2 h3 h4 hQ
  obtain ⟨q, hq, e9⟩ := av_ref (ok_h (ok_t hs))
  rw [List.map_cons, List.map_cons, e9]
  have hsm := sh_small hs0
  have ha9 : a < 900 := hsm.2 (by omega)
  have hxr : i3_in x := ⟨by omega, by omega⟩
  have hvin : vp_in (Int32.ofInt x) N := i3_vin (by omega) (by omega) hxr.2
  have hcl : (Int32.ofInt x).toNatClampNeg = j := by rw [i3_clamp hxr]; omega
  have h9 := (kk (hR.2.2.2.2.1 a j)) g p e R s m args below meth c H locs cells slots am am0 ls mc ms QQ hC hR hx hL (ok_i (ok_t (ok_t hs))) hl h1 h2 h3 h4 hQ
  rw [← hcl] at h9
  exact va_iald hC.1 hC.2.1 hC.2.2.2.2.2.2.2.2.2.2.1 (mr_P hR ha9 hq (ce_100 hs0)) 0 0 rfl rfl hvin hd h9
theorem ar_zald {X : gx_T} {M : mt_T} {d pc : Nat} {L : List (Nat × Option av_T)} {st : List av_T} {G : mm_T} {k n : Nat} {Q : Option av_T → mm_T → Prop} {x : Int} {N a : Nat} (hd : decode M.2.1 pc = .ok (.baload, 1)) (hs0 : sh_t a = (102, N)) (j : Nat) (hj : x = (j : Int)) (hjN : j < N) (kk : i3_in (mm_I G a j) → aw_W X M d (pc + 1) L (av_i (mm_I G a j) :: st) G k n Q) : aw_W X M d pc L (av_i x :: av_r (some a) :: st) G k n Q := by
  intro g p e R s m args below meth c H locs cells slots am am0 ls mc ms QQ hC hR hx hL hs hl h1 h2 h3 h4 hQ
  obtain ⟨q, hq, e9⟩ := av_ref (ok_h (ok_t hs))
  rw [List.map_cons, List.map_cons, e9]
  have hsm := sh_small hs0
  have ha9 : a < 900 := hsm.2 (by omega)
  have hxr : i3_in x := ⟨by omega, by omega⟩
  have hvin : vp_in (Int32.ofInt x) N := i3_vin (by omega) (by omega) hxr.2
  have hcl : (Int32.ofInt x).toNatClampNeg = j := by rw [i3_clamp hxr]; omega
  have h9 := (kk (hR.2.2.2.2.1 a j)) g p e R s m args below meth c H locs cells slots am am0 ls mc ms QQ hC hR hx hL (ok_i (ok_t (ok_t hs))) hl h1 h2 h3 h4 hQ
  rw [← hcl] at h9
  exact va_zald hC.1 hC.2.1 hC.2.2.2.2.2.2.2.2.2.2.1 (mr_P hR ha9 hq (ce_102 hs0)) 0 2 rfl rfl hvin hd h9
theorem ar_lald {X : gx_T} {M : mt_T} {d pc : Nat} {L : List (Nat × Option av_T)} {st : List av_T} {G : mm_T} {k n : Nat} {Q : Option av_T → mm_T → Prop} {x : Int} {N a : Nat} (hd : decode M.2.1 pc = .ok (.laload, 1)) (hs0 : sh_t a = (101, N)) (j : Nat) (hj : x = (j : Int)) (hjN : j < N) (kk : j6_in (mm_J G a j) → aw_W X M d (pc + 1) L (av_l (mm_J G a j) :: st) G k n Q) : aw_W X M d pc L (av_i x :: av_r (some a) :: st) G k n Q := by
  intro g p e R s m args below meth c H locs cells slots am am0 ls mc ms QQ hC hR hx hL hs hl h1 h2 h3 h4 hQ
  obtain ⟨q, hq, e9⟩ := av_ref (ok_h (ok_t hs))
  rw [List.map_cons, List.map_cons, e9]
  have hsm := sh_small hs0
  have ha9 : a < 900 := hsm.2 (by omega)
  have hxr : i3_in x := ⟨by omega, by omega⟩
  have hvin : vp_in (Int32.ofInt x) N := i3_vin (by omega) (by omega) hxr.2
  have hcl : (Int32.ofInt x).toNatClampNeg = j := by rw [i3_clamp hxr]; omega
  have h9 := (kk (hR.2.2.2.2.2.1 a j)) g p e R s m args below meth c H locs cells slots am am0 ls mc ms QQ hC hR hx hL (ok_l (ok_t (ok_t hs))) hl h1 h2 h3 h4 hQ
  rw [← hcl] at h9
  exact va_lald hC.1 hC.2.1 hC.2.2.2.2.2.2.2.2.2.2.1 (mr_P hR ha9 hq (ce_101 hs0)) 0 1 rfl rfl hvin hd h9
theorem ar_aald103 {X : gx_T} {M : mt_T} {d pc : Nat} {L : List (Nat × Option av_T)} {st : List av_T} {G : mm_T} {k n : Nat} {Q : Option av_T → mm_T → Prop} {x : Int} {N a : Nat} {r : Option Nat} (hd : decode M.2.1 pc = .ok (.aaload, 1)) (hs0 : sh_t a = (103, N)) (j : Nat) (hj : x = (j : Int)) (hjN : j < N) (hv : mm_R G a j = r) (kk : aw_W X M d (pc + 1) L (av_r r :: st) G k n Q) : aw_W X M d pc L (av_i x :: av_r (some a) :: st) G k n Q := by
  intro g p e R s m args below meth c H locs cells slots am am0 ls mc ms QQ hC hR hx hL hs hl h1 h2 h3 h4 hQ
  obtain ⟨q, hq, e9⟩ := av_ref (ok_h (ok_t hs))
  rw [List.map_cons, List.map_cons, e9]
  have hsm := sh_small hs0
  have ha9 : a < 900 := hsm.2 (by omega)
  have hxr : i3_in x := ⟨by omega, by omega⟩
  have hvin : vp_in (Int32.ofInt x) N := i3_vin (by omega) (by omega) hxr.2
  have hcl : (Int32.ofInt x).toNatClampNeg = j := by rw [i3_clamp hxr]; omega
  have hok : av_ok am (av_r r) := by
    cases hr : r with
    | none => trivial
    | some z => exact (hR.2.2.2.1 a j z (hv.trans hr)).2
  have h9 := kk g p e R s m args below meth c H locs cells slots am am0 ls mc ms QQ hC hR hx hL (ok_c hok (ok_t (ok_t hs))) hl h1 h2 h3 h4 hQ
  rw [← hv, ← hcl] at h9
  exact va_aldq hC.1 hC.2.1 hC.2.2.2.2.2.2.2.2.2.2.1 (mr_P hR ha9 hq (ce_103 hs0)) 0 3 rfl rfl hvin hd h9
theorem ar_aald104 {X : gx_T} {M : mt_T} {d pc : Nat} {L : List (Nat × Option av_T)} {st : List av_T} {G : mm_T} {k n : Nat} {Q : Option av_T → mm_T → Prop} {x : Int} {N a : Nat} {r : Option Nat} (hd : decode M.2.1 pc = .ok (.aaload, 1)) (hs0 : sh_t a = (104, N)) (j : Nat) (hj : x = (j : Int)) (hjN : j < N) (hv : mm_R G a j = r) (kk : aw_W X M d (pc + 1) L (av_r r :: st) G k n Q) : aw_W X M d pc L (av_i x :: av_r (some a) :: st) G k n Q := by
  intro g p e R s m args below meth c H locs cells slots am am0 ls mc ms QQ hC hR hx hL hs hl h1 h2 h3 h4 hQ
  obtain ⟨q, hq, e9⟩ := av_ref (ok_h (ok_t hs))
  rw [List.map_cons, List.map_cons, e9]
  have hsm := sh_small hs0
  have ha9 : a < 900 := hsm.2 (by omega)
  have hxr : i3_in x := ⟨by omega, by omega⟩
  have hvin : vp_in (Int32.ofInt x) N := i3_vin (by omega) (by omega) hxr.2
  have hcl : (Int32.ofInt x).toNatClampNeg = j := by rw [i3_clamp hxr]; omega
  have hok : av_ok am (av_r r) := by
    cases hr : r with
    | none => trivial
    | some z => exact (hR.2.2.2.1 a j z (hv.trans hr)).2
  have h9 := kk g p e R s m args below meth c H locs cells slots am am0 ls mc ms QQ hC hR hx hL (ok_c hok (ok_t (ok_t hs))) hl h1 h2 h3 h4 hQ
  rw [← hv, ← hcl] at h9
  exact va_aldq hC.1 hC.2.1 hC.2.2.2.2.2.2.2.2.2.2.1 (mr_P hR ha9 hq (ce_104 hs0)) 0 4 rfl rfl hvin hd h9
theorem ar_iast {X : gx_T} {M : mt_T} {d pc : Nat} {L : List (Nat × Option av_T)} {st : List av_T} {G : mm_T} {k n : Nat} {Q : Option av_T → mm_T → Prop} {x v : Int} {N a : Nat} (hd : decode M.2.1 pc = .ok (.iastore, 1)) (hs0 : sh_t a = (100, N)) (j : Nat) (hj : x = (j : Int)) (hjN : j < N) (hvr : i3_in v) (kk : aw_W X M d (pc + 1) L st (ms_I G a j v) k n Q) : aw_W X M d pc L (av_i v :: av_i x :: av_r (some a) :: st) G k n Q := by
  intro g p e R s m args below meth c H locs cells slots am am0 ls mc ms QQ hC hR hx hL hs hl h1 h2 h3 h4 hQ
  obtain ⟨q, hq, e9⟩ := av_ref (ok_h (ok_t (ok_t hs)))
  rw [List.map_cons, List.map_cons, List.map_cons, e9]
  have hsm := sh_small hs0
  have ha9 : a < 900 := hsm.2 (by omega)
  have hxr : i3_in x := ⟨by omega, by omega⟩
  have hvin : vp_in (Int32.ofInt x) N := i3_vin (by omega) (by omega) hxr.2
  have hcl : (Int32.ofInt x).toNatClampNeg = j := by rw [i3_clamp hxr]; omega
  have hq0 := (hR.1 a q ha9 hq).2
  have hP := (mr_P hR ha9 hq (ce_100 hs0)) 0 _ rfl
  refine W.iast hC.1 hC.2.1 hP ((hC.2.2.2.2.2.2.2.2.2.2.1.2 0 _ rfl).1 N (fun j2 => .int (Int32.ofInt (mm_I G a j2)))) (fun z => by cases z) (by show ¬ (_ ∨ (arrV _ _ _).slots.size ≤ _); rw [arrV_size]; exact hvin) rfl rfl hd fun H' e1 e2 e3 => ?_
  rw [hcl] at e1 ⊢
  have hcell : va_at (gp_D g) cl_all (q, ce_of (gp_A g) am (ms_I G a j v) a) H' := by
    rw [ce_100 hs0]
    show H'[q]? = some (vp_cell _ _)
    rw [e1]
    rw [vp_cell_i, vp_cell_i, arrV_store]
    congr 2
    funext z
    by_cases hz : z = j
    · subst hz
      simp [updV, ms_I, mm_I, up_2, av_t, av_i]
    · simp [updV, ms_I, mm_I, up_2, hz]
  have hl2 := lo_app (k := j) hl hq0
  exact kk g p e R s m args below meth c H' _ cells slots am am0 ls mc ms QQ hC (mr_updI hR ha9 hq hvr e2 e3 hcell) hx hL (ok_t (ok_t (ok_t hs))) hl2 h1 h2 h3 h4 hQ
theorem ar_zast {X : gx_T} {M : mt_T} {d pc : Nat} {L : List (Nat × Option av_T)} {st : List av_T} {G : mm_T} {k n : Nat} {Q : Option av_T → mm_T → Prop} {x v : Int} {N a : Nat} (hd : decode M.2.1 pc = .ok (.bastore, 1)) (hs0 : sh_t a = (102, N)) (j : Nat) (hj : x = (j : Int)) (hjN : j < N) (hvr : v = 0 ∨ v = 1) (kk : aw_W X M d (pc + 1) L st (ms_I G a j v) k n Q) : aw_W X M d pc L (av_i v :: av_i x :: av_r (some a) :: st) G k n Q := by
  intro g p e R s m args below meth c H locs cells slots am am0 ls mc ms QQ hC hR hx hL hs hl h1 h2 h3 h4 hQ
  obtain ⟨q, hq, e9⟩ := av_ref (ok_h (ok_t (ok_t hs)))
  rw [List.map_cons, List.map_cons, List.map_cons, e9]
  have hsm := sh_small hs0
  have ha9 : a < 900 := hsm.2 (by omega)
  have hxr : i3_in x := ⟨by omega, by omega⟩
  have hvin : vp_in (Int32.ofInt x) N := i3_vin (by omega) (by omega) hxr.2
  have hcl : (Int32.ofInt x).toNatClampNeg = j := by rw [i3_clamp hxr]; omega
  have hq0 := (hR.1 a q ha9 hq).2
  have hP := (mr_P hR ha9 hq (ce_102 hs0)) 0 _ rfl
  refine W.zast hC.1 hC.2.1 hP ((hC.2.2.2.2.2.2.2.2.2.2.1.2 2 _ rfl).1 N (fun j2 => .int (Int32.ofInt (mm_I G a j2)))) (fun z => by cases z) (by show ¬ (_ ∨ (arrV _ _ _).slots.size ≤ _); rw [arrV_size]; exact hvin) rfl rfl hd fun H' e1 e2 e3 => ?_
  rw [hcl] at e1 ⊢
  have hcell : va_at (gp_D g) cl_all (q, ce_of (gp_A g) am (ms_I G a j v) a) H' := by
    rw [ce_102 hs0]
    show H'[q]? = some (vp_cell _ _)
    rw [e1]
    have hnar : narrow .boolean (.int (Int32.ofInt v)) = .int (Int32.ofInt v) := by rcases hvr with rfl | rfl <;> decide
    rw [hnar]
    rw [vp_cell_i, vp_cell_i, arrV_store]
    congr 2
    funext z
    by_cases hz : z = j
    · subst hz
      simp [updV, ms_I, mm_I, up_2, av_t, av_i]
    · simp [updV, ms_I, mm_I, up_2, hz]
  have hl2 := lo_app (k := j) hl hq0
  exact kk g p e R s m args below meth c H' _ cells slots am am0 ls mc ms QQ hC (mr_updI hR ha9 hq (by omega) e2 e3 hcell) hx hL (ok_t (ok_t (ok_t hs))) hl2 h1 h2 h3 h4 hQ
theorem ar_last {X : gx_T} {M : mt_T} {d pc : Nat} {L : List (Nat × Option av_T)} {st : List av_T} {G : mm_T} {k n : Nat} {Q : Option av_T → mm_T → Prop} {x v : Int} {N a : Nat} (hd : decode M.2.1 pc = .ok (.lastore, 1)) (hs0 : sh_t a = (101, N)) (j : Nat) (hj : x = (j : Int)) (hjN : j < N) (hvr : j6_in v) (kk : aw_W X M d (pc + 1) L st (ms_J G a j v) k n Q) : aw_W X M d pc L (av_l v :: av_i x :: av_r (some a) :: st) G k n Q := by
  intro g p e R s m args below meth c H locs cells slots am am0 ls mc ms QQ hC hR hx hL hs hl h1 h2 h3 h4 hQ
  obtain ⟨q, hq, e9⟩ := av_ref (ok_h (ok_t (ok_t hs)))
  rw [List.map_cons, List.map_cons, List.map_cons, e9]
  have hsm := sh_small hs0
  have ha9 : a < 900 := hsm.2 (by omega)
  have hxr : i3_in x := ⟨by omega, by omega⟩
  have hvin : vp_in (Int32.ofInt x) N := i3_vin (by omega) (by omega) hxr.2
  have hcl : (Int32.ofInt x).toNatClampNeg = j := by rw [i3_clamp hxr]; omega
  have hq0 := (hR.1 a q ha9 hq).2
  have hP := (mr_P hR ha9 hq (ce_101 hs0)) 0 _ rfl
  refine W.last hC.1 hC.2.1 hP ((hC.2.2.2.2.2.2.2.2.2.2.1.2 1 _ rfl).1 N (fun j2 => .long (Int64.ofInt (mm_J G a j2)))) (fun z => by cases z) (by show ¬ (_ ∨ (arrV _ _ _).slots.size ≤ _); rw [arrV_size]; exact hvin) rfl rfl hd fun H' e1 e2 e3 => ?_
  rw [hcl] at e1 ⊢
  have hcell : va_at (gp_D g) cl_all (q, ce_of (gp_A g) am (ms_J G a j v) a) H' := by
    rw [ce_101 hs0]
    show H'[q]? = some (vp_cell _ _)
    rw [e1]
    rw [vp_cell_l, vp_cell_l, arrV_store]
    congr 2
    funext z
    by_cases hz : z = j
    · subst hz
      simp [updV, ms_J, mm_J, up_2, av_t, av_l]
    · simp [updV, ms_J, mm_J, up_2, hz]
  have hl2 := lo_app (k := j) hl hq0
  exact kk g p e R s m args below meth c H' _ cells slots am am0 ls mc ms QQ hC (mr_updJ hR ha9 hq hvr e2 e3 hcell) hx hL (ok_t (ok_t (ok_t hs))) hl2 h1 h2 h3 h4 hQ
theorem ar_aast103 {X : gx_T} {M : mt_T} {d pc : Nat} {L : List (Nat × Option av_T)} {st : List av_T} {G : mm_T} {k n : Nat} {Q : Option av_T → mm_T → Prop} {x : Int} {N a b c0 N2 : Nat} {T : u_T} (hd : decode M.2.1 pc = .ok (.aastore, 1)) (ck : ck_ok c0 N2 "CheeseCellar$Milk" T) (hs0 : sh_t a = (103, N)) (hsb : sh_t b = (c0, N2)) (j : Nat) (hj : x = (j : Int)) (hjN : j < N) (kk : aw_W X M d (pc + 1) L st (ms_R G a j (some b)) k n Q) : aw_W X M d pc L (av_r (some b) :: av_i x :: av_r (some a) :: st) G k n Q := by
  intro g p e R s m args below meth c H locs cells slots am am0 ls mc ms QQ hC hR hx hL hs hl h1 h2 h3 h4 hQ
  obtain ⟨q, hq, e9⟩ := av_ref (ok_h (ok_t (ok_t hs)))
  obtain ⟨qb, hqb, e8⟩ := av_ref (ok_h hs)
  rw [List.map_cons, List.map_cons, List.map_cons, e9, e8]
  have hsm := sh_small hs0
  have ha9 : a < 900 := hsm.2 (by omega)
  have hb9 : b < 900 := (sh_small hsb).2 (by have := ck.2.2.1; omega)
  have hxr : i3_in x := ⟨by omega, by omega⟩
  have hcl : (Int32.ofInt x).toNatClampNeg = j := by rw [i3_clamp hxr]; omega
  have h0 : ¬ Int32.ofInt x < 0 := fun z => by have := (i3_lt hxr i3_0).mp z; omega
  have hq0 := (hR.1 a q ha9 hq).2
  have hP := (mr_P hR ha9 hq (ce_103 hs0)) 0 _ rfl
  obtain ⟨r', hr', cellV, g1, g2, g3, -⟩ := (mr_P hR hb9 hqb (ce_obj ck hsb)) 0 _ rfl
  have hK := hC.2.2.2.2.2.2.2.2.2.2.1
  have hcls := (hK.1 c0 _ ck.1).2
  obtain ⟨kA, comp, k1, k2, k3, -⟩ := (hK.2 3 _ rfl).2
  have hcomp : comp = (gp_D g).1 c0 := Option.some.inj (k3.symm.trans hcls.1)
  subst hcomp
  obtain ⟨kC, hkC, -⟩ := hcls.2
  refine W.aast hC.1 hC.2.1 hP (fun q h => by cases h) (fun h => by cases h) k1 k2 rfl hkC ⟨h0, by show _ < (arrV _ _ _).slots.size; rw [arrV_size, hcl]; exact hjN⟩ g1 (fun q h => by rw [g3] at h; cases h) (by rw [g2]; exact hkC) (by rw [g2]; exact va_assign hcls) rfl rfl hd fun H' e1 e2 e3 => ?_
  rw [hcl] at e1 ⊢
  have hcell : va_at (gp_D g) cl_all (q, ce_of (gp_A g) am (ms_R G a j (some b)) a) H' := by
    rw [ce_103 hs0]
    show H'[q]? = some (vp_cell _ _)
    rw [e1]
    rw [vp_cell_q, vp_cell_q, arrV_store]
    congr 2
    funext z
    by_cases hz : z = j
    · subst hz
      simp [updV, ms_R, mm_R, up_2, hqb, va_rf]
    · simp [updV, ms_R, mm_R, up_2, hz]
  have hl2 := lo_app (k := j) hl hq0
  exact kk g p e R s m args below meth c H' _ cells slots am am0 ls mc ms QQ hC (mr_updR hR ha9 hq (fun z hz => by cases hz; exact ⟨hb9, _, hqb⟩) e2 e3 hcell) hx hL (ok_t (ok_t (ok_t hs))) hl2 h1 h2 h3 h4 hQ
theorem ar_aast104 {X : gx_T} {M : mt_T} {d pc : Nat} {L : List (Nat × Option av_T)} {st : List av_T} {G : mm_T} {k n : Nat} {Q : Option av_T → mm_T → Prop} {x : Int} {N a b c0 N2 : Nat} {T : u_T} (hd : decode M.2.1 pc = .ok (.aastore, 1)) (ck : ck_ok c0 N2 "CheeseCellar$Wheel" T) (hs0 : sh_t a = (104, N)) (hsb : sh_t b = (c0, N2)) (j : Nat) (hj : x = (j : Int)) (hjN : j < N) (kk : aw_W X M d (pc + 1) L st (ms_R G a j (some b)) k n Q) : aw_W X M d pc L (av_r (some b) :: av_i x :: av_r (some a) :: st) G k n Q := by
  intro g p e R s m args below meth c H locs cells slots am am0 ls mc ms QQ hC hR hx hL hs hl h1 h2 h3 h4 hQ
  obtain ⟨q, hq, e9⟩ := av_ref (ok_h (ok_t (ok_t hs)))
  obtain ⟨qb, hqb, e8⟩ := av_ref (ok_h hs)
  rw [List.map_cons, List.map_cons, List.map_cons, e9, e8]
  have hsm := sh_small hs0
  have ha9 : a < 900 := hsm.2 (by omega)
  have hb9 : b < 900 := (sh_small hsb).2 (by have := ck.2.2.1; omega)
  have hxr : i3_in x := ⟨by omega, by omega⟩
  have hcl : (Int32.ofInt x).toNatClampNeg = j := by rw [i3_clamp hxr]; omega
  have h0 : ¬ Int32.ofInt x < 0 := fun z => by have := (i3_lt hxr i3_0).mp z; omega
  have hq0 := (hR.1 a q ha9 hq).2
  have hP := (mr_P hR ha9 hq (ce_104 hs0)) 0 _ rfl
  obtain ⟨r', hr', cellV, g1, g2, g3, -⟩ := (mr_P hR hb9 hqb (ce_obj ck hsb)) 0 _ rfl
  have hK := hC.2.2.2.2.2.2.2.2.2.2.1
  have hcls := (hK.1 c0 _ ck.1).2
  obtain ⟨kA, comp, k1, k2, k3, -⟩ := (hK.2 4 _ rfl).2
  have hcomp : comp = (gp_D g).1 c0 := Option.some.inj (k3.symm.trans hcls.1)
  subst hcomp
  obtain ⟨kC, hkC, -⟩ := hcls.2
  refine W.aast hC.1 hC.2.1 hP (fun q h => by cases h) (fun h => by cases h) k1 k2 rfl hkC ⟨h0, by show _ < (arrV _ _ _).slots.size; rw [arrV_size, hcl]; exact hjN⟩ g1 (fun q h => by rw [g3] at h; cases h) (by rw [g2]; exact hkC) (by rw [g2]; exact va_assign hcls) rfl rfl hd fun H' e1 e2 e3 => ?_
  rw [hcl] at e1 ⊢
  have hcell : va_at (gp_D g) cl_all (q, ce_of (gp_A g) am (ms_R G a j (some b)) a) H' := by
    rw [ce_104 hs0]
    show H'[q]? = some (vp_cell _ _)
    rw [e1]
    rw [vp_cell_q, vp_cell_q, arrV_store]
    congr 2
    funext z
    by_cases hz : z = j
    · subst hz
      simp [updV, ms_R, mm_R, up_2, hqb, va_rf]
    · simp [updV, ms_R, mm_R, up_2, hz]
  have hl2 := lo_app (k := j) hl hq0
  exact kk g p e R s m args below meth c H' _ cells slots am am0 ls mc ms QQ hC (mr_updR hR ha9 hq (fun z hz => by cases hz; exact ⟨hb9, _, hqb⟩) e2 e3 hcell) hx hL (ok_t (ok_t (ok_t hs))) hl2 h1 h2 h3 h4 hQ
theorem ar_alen100 {X : gx_T} {M : mt_T} {d pc : Nat} {L : List (Nat × Option av_T)} {st : List av_T} {G : mm_T} {k n : Nat} {Q : Option av_T → mm_T → Prop} {N a : Nat} (hd : decode M.2.1 pc = .ok (.arraylength, 1)) (hs0 : sh_t a = (100, N)) (kk : aw_W X M d (pc + 1) L (av_i (N : Int) :: st) G k n Q) : aw_W X M d pc L (av_r (some a) :: st) G k n Q := by
  intro g p e R s m args below meth c H locs cells slots am am0 ls mc ms QQ hC hR hx hL hs hl h1 h2 h3 h4 hQ
  obtain ⟨q, hq, e9⟩ := av_ref (ok_h hs)
  rw [List.map_cons, e9]
  have ha9 : a < 900 := (sh_small hs0).2 (by omega)
  exact va_alen hC.1 hC.2.1 hC.2.2.2.2.2.2.2.2.2.2.1 (mr_P hR ha9 hq (ce_100 hs0)) 0 0 rfl rfl Int32.ofInt_eq_ofNat.symm hd (kk g p e R s m args below meth c H locs cells slots am am0 ls mc ms QQ hC hR hx hL (ok_i (ok_t hs)) hl h1 h2 h3 h4 hQ)
theorem ar_alen101 {X : gx_T} {M : mt_T} {d pc : Nat} {L : List (Nat × Option av_T)} {st : List av_T} {G : mm_T} {k n : Nat} {Q : Option av_T → mm_T → Prop} {N a : Nat} (hd : decode M.2.1 pc = .ok (.arraylength, 1)) (hs0 : sh_t a = (101, N)) (kk : aw_W X M d (pc + 1) L (av_i (N : Int) :: st) G k n Q) : aw_W X M d pc L (av_r (some a) :: st) G k n Q := by
  intro g p e R s m args below meth c H locs cells slots am am0 ls mc ms QQ hC hR hx hL hs hl h1 h2 h3 h4 hQ
  obtain ⟨q, hq, e9⟩ := av_ref (ok_h hs)
  rw [List.map_cons, e9]
  have ha9 : a < 900 := (sh_small hs0).2 (by omega)
  exact va_alen hC.1 hC.2.1 hC.2.2.2.2.2.2.2.2.2.2.1 (mr_P hR ha9 hq (ce_101 hs0)) 0 1 rfl rfl Int32.ofInt_eq_ofNat.symm hd (kk g p e R s m args below meth c H locs cells slots am am0 ls mc ms QQ hC hR hx hL (ok_i (ok_t hs)) hl h1 h2 h3 h4 hQ)
theorem ar_slen {X : gx_T} {M : mt_T} {d pc : Nat} {L : List (Nat × Option av_T)} {st : List av_T} {G : mm_T} {k n : Nat} {Q : Option av_T → mm_T → Prop} (hd : decode M.2.1 pc = .ok (.arraylength, 1)) (kk : aw_W X M d (pc + 1) L (av_i (X.1 : Int) :: st) G k n Q) : aw_W X M d pc L (av_r (some 998) :: st) G k n Q := by
  intro g p e R s m args below meth c H locs cells slots am am0 ls mc ms QQ hC hR hx hL hs hl h1 h2 h3 h4 hQ
  have e9 : av_t am (av_r (some 998)) = .ref (gp_b g) := av_t_r hR.2.2.2.2.2.2.1.1
  rw [List.map_cons, e9]
  have hX := hC.2.2.2.2.2.2.2.2.2.2.2.2.2.2.1
  have hbl : gp_b g < (gp_H g).size := by obtain ⟨scr, z, -⟩ := hX; exact (Array.getElem?_eq_some_iff.mp z).1
  exact va_slen (A := fun q => (gp_H g).size ≤ q) (H0 := gp_H g) hC.1 hC.2.1 hX hbl (by omega) ⟨hR.2.2.2.2.2.2.2.1, fun q h _ => hR.2.2.2.2.2.2.2.2 q h, hl⟩ hd (by rw [← Int32.ofInt_eq_ofNat]; exact kk g p e R s m args below meth c H locs cells slots am am0 ls mc ms QQ hC hR hx hL (ok_i (ok_t hs)) hl h1 h2 h3 h4 hQ)
theorem ar_sld {X : gx_T} {M : mt_T} {d pc : Nat} {L : List (Nat × Option av_T)} {st : List av_T} {G : mm_T} {k n : Nat} {Q : Option av_T → mm_T → Prop} {x : Int} (hd : decode M.2.1 pc = .ok (.iaload, 1)) (j : Nat) (hj : x = (j : Int)) (hjN : j < X.1) (hX9 : X.1 ≤ 2147483647) (kk : i3_in (X.2 j).toInt → aw_W X M d (pc + 1) L (av_i (X.2 j).toInt :: st) G k n Q) : aw_W X M d pc L (av_i x :: av_r (some 998) :: st) G k n Q := by
  intro g p e R s m args below meth c H locs cells slots am am0 ls mc ms QQ hC hR hx hL hs hl h1 h2 h3 h4 hQ
  have e9 : av_t am (av_r (some 998)) = .ref (gp_b g) := av_t_r hR.2.2.2.2.2.2.1.1
  rw [List.map_cons, List.map_cons, e9]
  have hX := hC.2.2.2.2.2.2.2.2.2.2.2.2.2.2.1
  have hbl : gp_b g < (gp_H g).size := by obtain ⟨scr, z, -⟩ := hX; exact (Array.getElem?_eq_some_iff.mp z).1
  have hxr : i3_in x := ⟨by omega, by omega⟩
  have hcl : (Int32.ofInt x).toNatClampNeg = j := by rw [i3_clamp hxr]; omega
  have h9 := (kk ⟨(X.2 j).le_toInt, by have := (X.2 j).toInt_lt; omega⟩) g p e R s m args below meth c H locs cells slots am am0 ls mc ms QQ hC hR hx hL (ok_i (ok_t (ok_t hs))) hl h1 h2 h3 h4 hQ
  rw [List.map_cons, av_t_i, Int32.ofInt_toInt, ← hcl] at h9
  exact va_sld (A := fun q => (gp_H g).size ≤ q) (H0 := gp_H g) hC.1 hC.2.1 hX hbl (by omega) ⟨hR.2.2.2.2.2.2.2.1, fun q h _ => hR.2.2.2.2.2.2.2.2 q h, hl⟩ (i3_vin (by omega) (by omega) hxr.2) hd h9
theorem cd_0 : ∀ k, k < 4 → defaultValue (cf_0 k) = fk_v (fk_d (ct_0 k).2.2.1) := by
  intro k hk
  match k, hk with
  | 0, _ => rfl
  | 1, _ => rfl
  | 2, _ => rfl
  | 3, _ => rfl
  | k + 4, h => exact absurd h (by omega)
theorem ck_0 : ck_ok 0 4 "CheeseCellar$Bands" ct_0 := ⟨rfl, cw_0, by decide, cf_0, cfo_0, cn_0, cd_0⟩
theorem cd_1 : ∀ k, k < 7 → defaultValue (cf_1 k) = fk_v (fk_d (ct_1 k).2.2.1) := by
  intro k hk
  match k, hk with
  | 0, _ => rfl
  | 1, _ => rfl
  | 2, _ => rfl
  | 3, _ => rfl
  | 4, _ => rfl
  | 5, _ => rfl
  | 6, _ => rfl
  | k + 7, h => exact absurd h (by omega)
theorem ck_1 : ck_ok 1 7 "CheeseCellar$Marks" ct_1 := ⟨rfl, cw_1, by decide, cf_1, cfo_1, cn_1, cd_1⟩
theorem cd_2 : ∀ k, k < 3 → defaultValue (cf_2 k) = fk_v (fk_d (ct_2 k).2.2.1) := by
  intro k hk
  match k, hk with
  | 0, _ => rfl
  | 1, _ => rfl
  | 2, _ => rfl
  | k + 3, h => exact absurd h (by omega)
theorem ck_2 : ck_ok 2 3 "CheeseCellar$Milk" ct_2 := ⟨rfl, cw_2, by decide, cf_2, cfo_2, cn_2, cd_2⟩
theorem cd_3 : ∀ k, k < 8 → defaultValue (cf_3 k) = fk_v (fk_d (ct_3 k).2.2.1) := by
  intro k hk
  match k, hk with
  | 0, _ => rfl
  | 1, _ => rfl
  | 2, _ => rfl
  | 3, _ => rfl
  | 4, _ => rfl
  | 5, _ => rfl
  | 6, _ => rfl
  | 7, _ => rfl
  | k + 8, h => exact absurd h (by omega)
theorem ck_3 : ck_ok 3 8 "CheeseCellar$Orders" ct_3 := ⟨rfl, cw_3, by decide, cf_3, cfo_3, cn_3, cd_3⟩
theorem cd_4 : ∀ k, k < 12 → defaultValue (cf_4 k) = fk_v (fk_d (ct_4 k).2.2.1) := by
  intro k hk
  match k, hk with
  | 0, _ => rfl
  | 1, _ => rfl
  | 2, _ => rfl
  | 3, _ => rfl
  | 4, _ => rfl
  | 5, _ => rfl
  | 6, _ => rfl
  | 7, _ => rfl
  | 8, _ => rfl
  | 9, _ => rfl
  | 10, _ => rfl
  | 11, _ => rfl
  | k + 12, h => exact absurd h (by omega)
theorem ck_4 : ck_ok 4 12 "CheeseCellar$Planner" ct_4 := ⟨rfl, cw_4, by decide, cf_4, cfo_4, cn_4, cd_4⟩
theorem cd_5 : ∀ k, k < 8 → defaultValue (cf_5 k) = fk_v (fk_d (ct_5 k).2.2.1) := by
  intro k hk
  match k, hk with
  | 0, _ => rfl
  | 1, _ => rfl
  | 2, _ => rfl
  | 3, _ => rfl
  | 4, _ => rfl
  | 5, _ => rfl
  | 6, _ => rfl
  | 7, _ => rfl
  | k + 8, h => exact absurd h (by omega)
theorem ck_5 : ck_ok 5 8 "CheeseCellar$Reader" ct_5 := ⟨rfl, cw_5, by decide, cf_5, cfo_5, cn_5, cd_5⟩
theorem cd_6 : ∀ k, k < 3 → defaultValue (cf_6 k) = fk_v (fk_d (ct_6 k).2.2.1) := by
  intro k hk
  match k, hk with
  | 0, _ => rfl
  | 1, _ => rfl
  | 2, _ => rfl
  | k + 3, h => exact absurd h (by omega)
theorem ck_6 : ck_ok 6 3 "CheeseCellar$Shelves" ct_6 := ⟨rfl, cw_6, by decide, cf_6, cfo_6, cn_6, cd_6⟩
theorem cd_7 : ∀ k, k < 5 → defaultValue (cf_7 k) = fk_v (fk_d (ct_7 k).2.2.1) := by
  intro k hk
  match k, hk with
  | 0, _ => rfl
  | 1, _ => rfl
  | 2, _ => rfl
  | 3, _ => rfl
  | 4, _ => rfl
  | k + 5, h => exact absurd h (by omega)
theorem ck_7 : ck_ok 7 5 "CheeseCellar$Stays" ct_7 := ⟨rfl, cw_7, by decide, cf_7, cfo_7, cn_7, cd_7⟩
theorem cd_8 : ∀ k, k < 2 → defaultValue (cf_8 k) = fk_v (fk_d (ct_8 k).2.2.1) := by
  intro k hk
  match k, hk with
  | 0, _ => rfl
  | 1, _ => rfl
  | k + 2, h => exact absurd h (by omega)
theorem ck_8 : ck_ok 8 2 "CheeseCellar$Tape" ct_8 := ⟨rfl, cw_8, by decide, cf_8, cfo_8, cn_8, cd_8⟩
theorem cd_9 : ∀ k, k < 4 → defaultValue (cf_9 k) = fk_v (fk_d (ct_9 k).2.2.1) := by
  intro k hk
  match k, hk with
  | 0, _ => rfl
  | 1, _ => rfl
  | 2, _ => rfl
  | 3, _ => rfl
  | k + 4, h => exact absurd h (by omega)
theorem ck_9 : ck_ok 9 4 "CheeseCellar$Tokens" ct_9 := ⟨rfl, cw_9, by decide, cf_9, cfo_9, cn_9, cd_9⟩
theorem cd_10 : ∀ k, k < 10 → defaultValue (cf_10 k) = fk_v (fk_d (ct_10 k).2.2.1) := by
  intro k hk
  match k, hk with
  | 0, _ => rfl
  | 1, _ => rfl
  | 2, _ => rfl
  | 3, _ => rfl
  | 4, _ => rfl
  | 5, _ => rfl
  | 6, _ => rfl
  | 7, _ => rfl
  | 8, _ => rfl
  | 9, _ => rfl
  | k + 10, h => exact absurd h (by omega)
theorem ck_10 : ck_ok 10 10 "CheeseCellar$Wheel" ct_10 := ⟨rfl, cw_10, by decide, cf_10, cfo_10, cn_10, cd_10⟩
theorem cd_11 : ∀ k, k < 16 → defaultValue (cf_11 k) = fk_v (fk_d (ct_11 k).2.2.1) := by
  intro k hk
  match k, hk with
  | 0, _ => rfl
  | 1, _ => rfl
  | 2, _ => rfl
  | 3, _ => rfl
  | 4, _ => rfl
  | 5, _ => rfl
  | 6, _ => rfl
  | 7, _ => rfl
  | 8, _ => rfl
  | 9, _ => rfl
  | 10, _ => rfl
  | 11, _ => rfl
  | 12, _ => rfl
  | 13, _ => rfl
  | 14, _ => rfl
  | 15, _ => rfl
  | k + 16, h => exact absurd h (by omega)
theorem ck_11 : ck_ok 11 16 "CheeseCellar" ct_11 := ⟨rfl, cw_11, by decide, cf_11, cfo_11, cn_11, cd_11⟩
theorem cd_12 : ∀ k, k < 69 → defaultValue (cf_12 k) = fk_v (fk_d (ct_12 k).2.2.1) := by
  intro k hk
  match k, hk with
  | 0, _ => rfl
  | 1, _ => rfl
  | 2, _ => rfl
  | 3, _ => rfl
  | 4, _ => rfl
  | 5, _ => rfl
  | 6, _ => rfl
  | 7, _ => rfl
  | 8, _ => rfl
  | 9, _ => rfl
  | 10, _ => rfl
  | 11, _ => rfl
  | 12, _ => rfl
  | 13, _ => rfl
  | 14, _ => rfl
  | 15, _ => rfl
  | 16, _ => rfl
  | 17, _ => rfl
  | 18, _ => rfl
  | 19, _ => rfl
  | 20, _ => rfl
  | 21, _ => rfl
  | 22, _ => rfl
  | 23, _ => rfl
  | 24, _ => rfl
  | 25, _ => rfl
  | 26, _ => rfl
  | 27, _ => rfl
  | 28, _ => rfl
  | 29, _ => rfl
  | 30, _ => rfl
  | 31, _ => rfl
  | 32, _ => rfl
  | 33, _ => rfl
  | 34, _ => rfl
  | 35, _ => rfl
  | 36, _ => rfl
  | 37, _ => rfl
  | 38, _ => rfl
  | 39, _ => rfl
  | 40, _ => rfl
  | 41, _ => rfl
  | 42, _ => rfl
  | 43, _ => rfl
  | 44, _ => rfl
  | 45, _ => rfl
  | 46, _ => rfl
  | 47, _ => rfl
  | 48, _ => rfl
  | 49, _ => rfl
  | 50, _ => rfl
  | 51, _ => rfl
  | 52, _ => rfl
  | 53, _ => rfl
  | 54, _ => rfl
  | 55, _ => rfl
  | 56, _ => rfl
  | 57, _ => rfl
  | 58, _ => rfl
  | 59, _ => rfl
  | 60, _ => rfl
  | 61, _ => rfl
  | 62, _ => rfl
  | 63, _ => rfl
  | 64, _ => rfl
  | 65, _ => rfl
  | 66, _ => rfl
  | 67, _ => rfl
  | 68, _ => rfl
  | k + 69, h => exact absurd h (by omega)
theorem ck_12 : ck_ok 12 69 "CheeseCellarModel" ct_12 := ⟨rfl, cw_12, by decide, cf_12, cfo_12, cn_12, cd_12⟩
theorem gf_Sh_9 : gf_ok "CheeseCellar$Shelves" 9 6 3 0 "CheeseCellar$Shelves" ct_6 2 := ⟨ck_6, fl_Sh_9, by decide, rfl, by decide +kernel⟩
theorem gf_K_91 : gf_ok "CheeseCellar" 91 6 3 0 "CheeseCellar$Shelves" ct_6 2 := ⟨ck_6, fl_K_91, by decide, rfl, by decide +kernel⟩
theorem gf_Sh_15 : gf_ok "CheeseCellar$Shelves" 15 6 3 1 "CheeseCellar$Shelves" ct_6 2 := ⟨ck_6, fl_Sh_15, by decide, rfl, by decide +kernel⟩
theorem gf_K_97 : gf_ok "CheeseCellar" 97 6 3 1 "CheeseCellar$Shelves" ct_6 2 := ⟨ck_6, fl_K_97, by decide, rfl, by decide +kernel⟩
theorem gf_Sh_18 : gf_ok "CheeseCellar$Shelves" 18 6 3 2 "CheeseCellar$Shelves" ct_6 2 := ⟨ck_6, fl_Sh_18, by decide, rfl, by decide +kernel⟩
theorem gf_Ba_9 : gf_ok "CheeseCellar$Bands" 9 0 4 0 "CheeseCellar$Bands" ct_0 2 := ⟨ck_0, fl_Ba_9, by decide, rfl, by decide +kernel⟩
theorem gf_Ba_15 : gf_ok "CheeseCellar$Bands" 15 0 4 1 "CheeseCellar$Bands" ct_0 2 := ⟨ck_0, fl_Ba_15, by decide, rfl, by decide +kernel⟩
theorem gf_Ba_18 : gf_ok "CheeseCellar$Bands" 18 0 4 2 "CheeseCellar$Bands" ct_0 2 := ⟨ck_0, fl_Ba_18, by decide, rfl, by decide +kernel⟩
theorem gf_Ba_21 : gf_ok "CheeseCellar$Bands" 21 0 4 3 "CheeseCellar$Bands" ct_0 2 := ⟨ck_0, fl_Ba_21, by decide, rfl, by decide +kernel⟩
theorem gf_St_9 : gf_ok "CheeseCellar$Stays" 9 7 5 0 "CheeseCellar$Stays" ct_7 2 := ⟨ck_7, fl_St_9, by decide, rfl, by decide +kernel⟩
theorem gf_St_15 : gf_ok "CheeseCellar$Stays" 15 7 5 1 "CheeseCellar$Stays" ct_7 2 := ⟨ck_7, fl_St_15, by decide, rfl, by decide +kernel⟩
theorem gf_St_18 : gf_ok "CheeseCellar$Stays" 18 7 5 2 "CheeseCellar$Stays" ct_7 2 := ⟨ck_7, fl_St_18, by decide, rfl, by decide +kernel⟩
theorem gf_St_21 : gf_ok "CheeseCellar$Stays" 21 7 5 3 "CheeseCellar$Stays" ct_7 2 := ⟨ck_7, fl_St_21, by decide, rfl, by decide +kernel⟩
theorem gf_St_24 : gf_ok "CheeseCellar$Stays" 24 7 5 4 "CheeseCellar$Stays" ct_7 0 := ⟨ck_7, fl_St_24, by decide, rfl, by decide +kernel⟩
theorem gf_K_272 : gf_ok "CheeseCellar" 272 7 5 4 "CheeseCellar$Stays" ct_7 0 := ⟨ck_7, fl_K_272, by decide, rfl, by decide +kernel⟩
theorem gf_Ma_9 : gf_ok "CheeseCellar$Marks" 9 1 7 0 "CheeseCellar$Marks" ct_1 2 := ⟨ck_1, fl_Ma_9, by decide, rfl, by decide +kernel⟩
theorem gf_Ma_15 : gf_ok "CheeseCellar$Marks" 15 1 7 1 "CheeseCellar$Marks" ct_1 2 := ⟨ck_1, fl_Ma_15, by decide, rfl, by decide +kernel⟩
theorem gf_Ma_18 : gf_ok "CheeseCellar$Marks" 18 1 7 2 "CheeseCellar$Marks" ct_1 2 := ⟨ck_1, fl_Ma_18, by decide, rfl, by decide +kernel⟩
theorem gf_Ma_21 : gf_ok "CheeseCellar$Marks" 21 1 7 3 "CheeseCellar$Marks" ct_1 2 := ⟨ck_1, fl_Ma_21, by decide, rfl, by decide +kernel⟩
theorem gf_Ma_24 : gf_ok "CheeseCellar$Marks" 24 1 7 4 "CheeseCellar$Marks" ct_1 2 := ⟨ck_1, fl_Ma_24, by decide, rfl, by decide +kernel⟩
theorem gf_Ma_27 : gf_ok "CheeseCellar$Marks" 27 1 7 5 "CheeseCellar$Marks" ct_1 2 := ⟨ck_1, fl_Ma_27, by decide, rfl, by decide +kernel⟩
theorem gf_Ma_30 : gf_ok "CheeseCellar$Marks" 30 1 7 6 "CheeseCellar$Marks" ct_1 0 := ⟨ck_1, fl_Ma_30, by decide, rfl, by decide +kernel⟩
theorem gf_K_269 : gf_ok "CheeseCellar" 269 1 7 6 "CheeseCellar$Marks" ct_1 0 := ⟨ck_1, fl_K_269, by decide, rfl, by decide +kernel⟩
theorem gf_Pl_9 : gf_ok "CheeseCellar$Planner" 9 4 12 0 "CheeseCellar$Planner" ct_4 2 := ⟨ck_4, fl_Pl_9, by decide, rfl, by decide +kernel⟩
theorem gf_Pl_15 : gf_ok "CheeseCellar$Planner" 15 4 12 1 "CheeseCellar$Planner" ct_4 2 := ⟨ck_4, fl_Pl_15, by decide, rfl, by decide +kernel⟩
theorem gf_Pl_18 : gf_ok "CheeseCellar$Planner" 18 4 12 2 "CheeseCellar$Planner" ct_4 2 := ⟨ck_4, fl_Pl_18, by decide, rfl, by decide +kernel⟩
theorem gf_Pl_21 : gf_ok "CheeseCellar$Planner" 21 4 12 3 "CheeseCellar$Planner" ct_4 2 := ⟨ck_4, fl_Pl_21, by decide, rfl, by decide +kernel⟩
theorem gf_Pl_25 : gf_ok "CheeseCellar$Planner" 25 4 12 4 "CheeseCellar$Planner" ct_4 2 := ⟨ck_4, fl_Pl_25, by decide, rfl, by decide +kernel⟩
theorem gf_Pl_28 : gf_ok "CheeseCellar$Planner" 28 4 12 5 "CheeseCellar$Planner" ct_4 2 := ⟨ck_4, fl_Pl_28, by decide, rfl, by decide +kernel⟩
theorem gf_Pl_31 : gf_ok "CheeseCellar$Planner" 31 4 12 6 "CheeseCellar$Planner" ct_4 2 := ⟨ck_4, fl_Pl_31, by decide, rfl, by decide +kernel⟩
theorem gf_Pl_34 : gf_ok "CheeseCellar$Planner" 34 4 12 7 "CheeseCellar$Planner" ct_4 2 := ⟨ck_4, fl_Pl_34, by decide, rfl, by decide +kernel⟩
theorem gf_Pl_37 : gf_ok "CheeseCellar$Planner" 37 4 12 8 "CheeseCellar$Planner" ct_4 0 := ⟨ck_4, fl_Pl_37, by decide, rfl, by decide +kernel⟩
theorem gf_Pl_85 : gf_ok "CheeseCellar$Planner" 85 4 12 9 "CheeseCellar$Planner" ct_4 0 := ⟨ck_4, fl_Pl_85, by decide, rfl, by decide +kernel⟩
theorem gf_K_243 : gf_ok "CheeseCellar" 243 4 12 9 "CheeseCellar$Planner" ct_4 0 := ⟨ck_4, fl_K_243, by decide, rfl, by decide +kernel⟩
theorem gf_Pl_78 : gf_ok "CheeseCellar$Planner" 78 4 12 10 "CheeseCellar$Planner" ct_4 3 := ⟨ck_4, fl_Pl_78, by decide, rfl, by decide +kernel⟩
theorem gf_Pl_82 : gf_ok "CheeseCellar$Planner" 82 4 12 11 "CheeseCellar$Planner" ct_4 3 := ⟨ck_4, fl_Pl_82, by decide, rfl, by decide +kernel⟩
theorem gf_Ta_9 : gf_ok "CheeseCellar$Tape" 9 8 2 0 "CheeseCellar$Tape" ct_8 2 := ⟨ck_8, fl_Ta_9, by decide, rfl, by decide +kernel⟩
theorem gf_Ta_15 : gf_ok "CheeseCellar$Tape" 15 8 2 1 "CheeseCellar$Tape" ct_8 0 := ⟨ck_8, fl_Ta_15, by decide, rfl, by decide +kernel⟩
theorem gf_To_38 : gf_ok "CheeseCellar$Tokens" 38 8 2 1 "CheeseCellar$Tape" ct_8 0 := ⟨ck_8, fl_To_38, by decide, rfl, by decide +kernel⟩
theorem gf_K_145 : gf_ok "CheeseCellar" 145 8 2 1 "CheeseCellar$Tape" ct_8 0 := ⟨ck_8, fl_K_145, by decide, rfl, by decide +kernel⟩
theorem gf_To_9 : gf_ok "CheeseCellar$Tokens" 9 9 4 0 "CheeseCellar$Tokens" ct_9 2 := ⟨ck_9, fl_To_9, by decide, rfl, by decide +kernel⟩
theorem gf_Re_57 : gf_ok "CheeseCellar$Reader" 57 9 4 0 "CheeseCellar$Tokens" ct_9 2 := ⟨ck_9, fl_Re_57, by decide, rfl, by decide +kernel⟩
theorem gf_To_15 : gf_ok "CheeseCellar$Tokens" 15 9 4 1 "CheeseCellar$Tokens" ct_9 2 := ⟨ck_9, fl_To_15, by decide, rfl, by decide +kernel⟩
theorem gf_Re_61 : gf_ok "CheeseCellar$Reader" 61 9 4 1 "CheeseCellar$Tokens" ct_9 2 := ⟨ck_9, fl_Re_61, by decide, rfl, by decide +kernel⟩
theorem gf_To_18 : gf_ok "CheeseCellar$Tokens" 18 9 4 2 "CheeseCellar$Tokens" ct_9 2 := ⟨ck_9, fl_To_18, by decide, rfl, by decide +kernel⟩
theorem gf_Re_67 : gf_ok "CheeseCellar$Reader" 67 9 4 2 "CheeseCellar$Tokens" ct_9 2 := ⟨ck_9, fl_Re_67, by decide, rfl, by decide +kernel⟩
theorem gf_To_21 : gf_ok "CheeseCellar$Tokens" 21 9 4 3 "CheeseCellar$Tokens" ct_9 0 := ⟨ck_9, fl_To_21, by decide, rfl, by decide +kernel⟩
theorem gf_Re_54 : gf_ok "CheeseCellar$Reader" 54 9 4 3 "CheeseCellar$Tokens" ct_9 0 := ⟨ck_9, fl_Re_54, by decide, rfl, by decide +kernel⟩
theorem gf_Re_12 : gf_ok "CheeseCellar$Reader" 12 5 8 0 "CheeseCellar$Reader" ct_5 2 := ⟨ck_5, fl_Re_12, by decide, rfl, by decide +kernel⟩
theorem gf_Re_29 : gf_ok "CheeseCellar$Reader" 29 5 8 1 "CheeseCellar$Reader" ct_5 0 := ⟨ck_5, fl_Re_29, by decide, rfl, by decide +kernel⟩
theorem gf_Re_43 : gf_ok "CheeseCellar$Reader" 43 5 8 2 "CheeseCellar$Reader" ct_5 0 := ⟨ck_5, fl_Re_43, by decide, rfl, by decide +kernel⟩
theorem gf_Re_64 : gf_ok "CheeseCellar$Reader" 64 5 8 3 "CheeseCellar$Reader" ct_5 0 := ⟨ck_5, fl_Re_64, by decide, rfl, by decide +kernel⟩
theorem gf_Re_70 : gf_ok "CheeseCellar$Reader" 70 5 8 4 "CheeseCellar$Reader" ct_5 0 := ⟨ck_5, fl_Re_70, by decide, rfl, by decide +kernel⟩
theorem gf_Re_35 : gf_ok "CheeseCellar$Reader" 35 5 8 5 "CheeseCellar$Reader" ct_5 0 := ⟨ck_5, fl_Re_35, by decide, rfl, by decide +kernel⟩
theorem gf_Re_18 : gf_ok "CheeseCellar$Reader" 18 5 8 6 "CheeseCellar$Reader" ct_5 0 := ⟨ck_5, fl_Re_18, by decide, rfl, by decide +kernel⟩
theorem gf_K_158 : gf_ok "CheeseCellar" 158 5 8 6 "CheeseCellar$Reader" ct_5 0 := ⟨ck_5, fl_K_158, by decide, rfl, by decide +kernel⟩
theorem gf_Re_22 : gf_ok "CheeseCellar$Reader" 22 5 8 7 "CheeseCellar$Reader" ct_5 0 := ⟨ck_5, fl_Re_22, by decide, rfl, by decide +kernel⟩
theorem gf_K_161 : gf_ok "CheeseCellar" 161 5 8 7 "CheeseCellar$Reader" ct_5 0 := ⟨ck_5, fl_K_161, by decide, rfl, by decide +kernel⟩
theorem gf_Or_9 : gf_ok "CheeseCellar$Orders" 9 3 8 0 "CheeseCellar$Orders" ct_3 2 := ⟨ck_3, fl_Or_9, by decide, rfl, by decide +kernel⟩
theorem gf_Or_15 : gf_ok "CheeseCellar$Orders" 15 3 8 1 "CheeseCellar$Orders" ct_3 2 := ⟨ck_3, fl_Or_15, by decide, rfl, by decide +kernel⟩
theorem gf_Or_18 : gf_ok "CheeseCellar$Orders" 18 3 8 2 "CheeseCellar$Orders" ct_3 2 := ⟨ck_3, fl_Or_18, by decide, rfl, by decide +kernel⟩
theorem gf_Or_21 : gf_ok "CheeseCellar$Orders" 21 3 8 3 "CheeseCellar$Orders" ct_3 2 := ⟨ck_3, fl_Or_21, by decide, rfl, by decide +kernel⟩
theorem gf_Or_24 : gf_ok "CheeseCellar$Orders" 24 3 8 4 "CheeseCellar$Orders" ct_3 2 := ⟨ck_3, fl_Or_24, by decide, rfl, by decide +kernel⟩
theorem gf_Or_27 : gf_ok "CheeseCellar$Orders" 27 3 8 5 "CheeseCellar$Orders" ct_3 0 := ⟨ck_3, fl_Or_27, by decide, rfl, by decide +kernel⟩
theorem gf_Or_31 : gf_ok "CheeseCellar$Orders" 31 3 8 6 "CheeseCellar$Orders" ct_3 0 := ⟨ck_3, fl_Or_31, by decide, rfl, by decide +kernel⟩
theorem gf_K_155 : gf_ok "CheeseCellar" 155 3 8 6 "CheeseCellar$Orders" ct_3 0 := ⟨ck_3, fl_K_155, by decide, rfl, by decide +kernel⟩
theorem gf_Or_69 : gf_ok "CheeseCellar$Orders" 69 3 8 7 "CheeseCellar$Orders" ct_3 0 := ⟨ck_3, fl_Or_69, by decide, rfl, by decide +kernel⟩
theorem gf_K_10 : gf_ok "CheeseCellar" 10 11 16 0 "CheeseCellar" ct_11 2 := ⟨ck_11, fl_K_10, by decide, rfl, by decide +kernel⟩
theorem gf_K_18 : gf_ok "CheeseCellar" 18 11 16 1 "CheeseCellar" ct_11 2 := ⟨ck_11, fl_K_18, by decide, rfl, by decide +kernel⟩
theorem gf_K_24 : gf_ok "CheeseCellar" 24 11 16 2 "CheeseCellar" ct_11 2 := ⟨ck_11, fl_K_24, by decide, rfl, by decide +kernel⟩
theorem gf_K_31 : gf_ok "CheeseCellar" 31 11 16 3 "CheeseCellar" ct_11 2 := ⟨ck_11, fl_K_31, by decide, rfl, by decide +kernel⟩
theorem gf_K_38 : gf_ok "CheeseCellar" 38 11 16 4 "CheeseCellar" ct_11 2 := ⟨ck_11, fl_K_38, by decide, rfl, by decide +kernel⟩
theorem gf_K_45 : gf_ok "CheeseCellar" 45 11 16 5 "CheeseCellar" ct_11 2 := ⟨ck_11, fl_K_45, by decide, rfl, by decide +kernel⟩
theorem gf_K_52 : gf_ok "CheeseCellar" 52 11 16 6 "CheeseCellar" ct_11 2 := ⟨ck_11, fl_K_52, by decide, rfl, by decide +kernel⟩
theorem gf_K_59 : gf_ok "CheeseCellar" 59 11 16 7 "CheeseCellar" ct_11 2 := ⟨ck_11, fl_K_59, by decide, rfl, by decide +kernel⟩
theorem gf_K_66 : gf_ok "CheeseCellar" 66 11 16 8 "CheeseCellar" ct_11 2 := ⟨ck_11, fl_K_66, by decide, rfl, by decide +kernel⟩
theorem gf_K_70 : gf_ok "CheeseCellar" 70 11 16 9 "CheeseCellar" ct_11 2 := ⟨ck_11, fl_K_70, by decide, rfl, by decide +kernel⟩
theorem gf_K_74 : gf_ok "CheeseCellar" 74 11 16 10 "CheeseCellar" ct_11 2 := ⟨ck_11, fl_K_74, by decide, rfl, by decide +kernel⟩
theorem gf_K_80 : gf_ok "CheeseCellar" 80 11 16 11 "CheeseCellar" ct_11 2 := ⟨ck_11, fl_K_80, by decide, rfl, by decide +kernel⟩
theorem gf_K_84 : gf_ok "CheeseCellar" 84 11 16 12 "CheeseCellar" ct_11 2 := ⟨ck_11, fl_K_84, by decide, rfl, by decide +kernel⟩
theorem gf_K_100 : gf_ok "CheeseCellar" 100 11 16 13 "CheeseCellar" ct_11 0 := ⟨ck_11, fl_K_100, by decide, rfl, by decide +kernel⟩
theorem gf_K_115 : gf_ok "CheeseCellar" 115 11 16 14 "CheeseCellar" ct_11 0 := ⟨ck_11, fl_K_115, by decide, rfl, by decide +kernel⟩
theorem gf_K_132 : gf_ok "CheeseCellar" 132 11 16 15 "CheeseCellar" ct_11 0 := ⟨ck_11, fl_K_132, by decide, rfl, by decide +kernel⟩
theorem gf_Mi_7 : gf_ok "CheeseCellar$Milk" 7 2 3 0 "CheeseCellar$Milk" ct_2 0 := ⟨ck_2, fl_Mi_7, by decide, rfl, by decide +kernel⟩
theorem gf_K_203 : gf_ok "CheeseCellar" 203 2 3 0 "CheeseCellar$Milk" ct_2 0 := ⟨ck_2, fl_K_203, by decide, rfl, by decide +kernel⟩
theorem gf_Mi_13 : gf_ok "CheeseCellar$Milk" 13 2 3 1 "CheeseCellar$Milk" ct_2 0 := ⟨ck_2, fl_Mi_13, by decide, rfl, by decide +kernel⟩
theorem gf_K_206 : gf_ok "CheeseCellar" 206 2 3 1 "CheeseCellar$Milk" ct_2 0 := ⟨ck_2, fl_K_206, by decide, rfl, by decide +kernel⟩
theorem gf_K_209 : gf_ok "CheeseCellar" 209 2 3 2 "CheeseCellar$Milk" ct_2 0 := ⟨ck_2, fl_K_209, by decide, rfl, by decide +kernel⟩
theorem gf_Wh_18 : gf_ok "CheeseCellar$Wheel" 18 10 10 0 "CheeseCellar$Wheel" ct_10 0 := ⟨ck_10, fl_Wh_18, by decide, rfl, by decide +kernel⟩
theorem gf_K_292 : gf_ok "CheeseCellar" 292 10 10 0 "CheeseCellar$Wheel" ct_10 0 := ⟨ck_10, fl_K_292, by decide, rfl, by decide +kernel⟩
theorem gf_Wh_21 : gf_ok "CheeseCellar$Wheel" 21 10 10 1 "CheeseCellar$Wheel" ct_10 0 := ⟨ck_10, fl_Wh_21, by decide, rfl, by decide +kernel⟩
theorem gf_Or_48 : gf_ok "CheeseCellar$Orders" 48 10 10 1 "CheeseCellar$Wheel" ct_10 0 := ⟨ck_10, fl_Or_48, by decide, rfl, by decide +kernel⟩
theorem gf_K_176 : gf_ok "CheeseCellar" 176 10 10 1 "CheeseCellar$Wheel" ct_10 0 := ⟨ck_10, fl_K_176, by decide, rfl, by decide +kernel⟩
theorem gf_Wh_24 : gf_ok "CheeseCellar$Wheel" 24 10 10 2 "CheeseCellar$Wheel" ct_10 0 := ⟨ck_10, fl_Wh_24, by decide, rfl, by decide +kernel⟩
theorem gf_Or_51 : gf_ok "CheeseCellar$Orders" 51 10 10 2 "CheeseCellar$Wheel" ct_10 0 := ⟨ck_10, fl_Or_51, by decide, rfl, by decide +kernel⟩
theorem gf_K_273 : gf_ok "CheeseCellar" 273 10 10 2 "CheeseCellar$Wheel" ct_10 0 := ⟨ck_10, fl_K_273, by decide, rfl, by decide +kernel⟩
theorem gf_K_286 : gf_ok "CheeseCellar" 286 10 10 3 "CheeseCellar$Wheel" ct_10 0 := ⟨ck_10, fl_K_286, by decide, rfl, by decide +kernel⟩
theorem gf_Wh_9 : gf_ok "CheeseCellar$Wheel" 9 10 10 4 "CheeseCellar$Wheel" ct_10 0 := ⟨ck_10, fl_Wh_9, by decide, rfl, by decide +kernel⟩
theorem gf_K_138 : gf_ok "CheeseCellar" 138 10 10 4 "CheeseCellar$Wheel" ct_10 0 := ⟨ck_10, fl_K_138, by decide, rfl, by decide +kernel⟩
theorem gf_Or_66 : gf_ok "CheeseCellar$Orders" 66 10 10 4 "CheeseCellar$Wheel" ct_10 0 := ⟨ck_10, fl_Or_66, by decide, rfl, by decide +kernel⟩
theorem gf_Wh_15 : gf_ok "CheeseCellar$Wheel" 15 10 10 5 "CheeseCellar$Wheel" ct_10 0 := ⟨ck_10, fl_Wh_15, by decide, rfl, by decide +kernel⟩
theorem gf_K_129 : gf_ok "CheeseCellar" 129 10 10 5 "CheeseCellar$Wheel" ct_10 0 := ⟨ck_10, fl_K_129, by decide, rfl, by decide +kernel⟩
theorem gf_Wh_40 : gf_ok "CheeseCellar$Wheel" 40 10 10 6 "CheeseCellar$Wheel" ct_10 0 := ⟨ck_10, fl_Wh_40, by decide, rfl, by decide +kernel⟩
theorem gf_Or_54 : gf_ok "CheeseCellar$Orders" 54 10 10 6 "CheeseCellar$Wheel" ct_10 0 := ⟨ck_10, fl_Or_54, by decide, rfl, by decide +kernel⟩
theorem gf_K_179 : gf_ok "CheeseCellar" 179 10 10 6 "CheeseCellar$Wheel" ct_10 0 := ⟨ck_10, fl_K_179, by decide, rfl, by decide +kernel⟩
theorem gf_Wh_30 : gf_ok "CheeseCellar$Wheel" 30 10 10 7 "CheeseCellar$Wheel" ct_10 0 := ⟨ck_10, fl_Wh_30, by decide, rfl, by decide +kernel⟩
theorem gf_Or_57 : gf_ok "CheeseCellar$Orders" 57 10 10 7 "CheeseCellar$Wheel" ct_10 0 := ⟨ck_10, fl_Or_57, by decide, rfl, by decide +kernel⟩
theorem gf_K_182 : gf_ok "CheeseCellar" 182 10 10 7 "CheeseCellar$Wheel" ct_10 0 := ⟨ck_10, fl_K_182, by decide, rfl, by decide +kernel⟩
theorem gf_Wh_37 : gf_ok "CheeseCellar$Wheel" 37 10 10 8 "CheeseCellar$Wheel" ct_10 0 := ⟨ck_10, fl_Wh_37, by decide, rfl, by decide +kernel⟩
theorem gf_Or_60 : gf_ok "CheeseCellar$Orders" 60 10 10 8 "CheeseCellar$Wheel" ct_10 0 := ⟨ck_10, fl_Or_60, by decide, rfl, by decide +kernel⟩
theorem gf_K_185 : gf_ok "CheeseCellar" 185 10 10 8 "CheeseCellar$Wheel" ct_10 0 := ⟨ck_10, fl_K_185, by decide, rfl, by decide +kernel⟩
theorem gf_Wh_27 : gf_ok "CheeseCellar$Wheel" 27 10 10 9 "CheeseCellar$Wheel" ct_10 0 := ⟨ck_10, fl_Wh_27, by decide, rfl, by decide +kernel⟩
theorem gf_Or_63 : gf_ok "CheeseCellar$Orders" 63 10 10 9 "CheeseCellar$Wheel" ct_10 0 := ⟨ck_10, fl_Or_63, by decide, rfl, by decide +kernel⟩
theorem gf_K_192 : gf_ok "CheeseCellar" 192 10 10 9 "CheeseCellar$Wheel" ct_10 0 := ⟨ck_10, fl_K_192, by decide, rfl, by decide +kernel⟩
theorem gf_Mo_171 : gf_ok "CheeseCellarModel" 171 12 69 0 "CheeseCellarModel" ct_12 0 := ⟨ck_12, fl_Mo_171, by decide, rfl, by decide +kernel⟩
theorem gf_Mo_7 : gf_ok "CheeseCellarModel" 7 12 69 1 "CheeseCellarModel" ct_12 2 := ⟨ck_12, fl_Mo_7, by decide, rfl, by decide +kernel⟩
theorem gf_Mo_13 : gf_ok "CheeseCellarModel" 13 12 69 2 "CheeseCellarModel" ct_12 2 := ⟨ck_12, fl_Mo_13, by decide, rfl, by decide +kernel⟩
theorem gf_Mo_162 : gf_ok "CheeseCellarModel" 162 12 69 3 "CheeseCellarModel" ct_12 0 := ⟨ck_12, fl_Mo_162, by decide, rfl, by decide +kernel⟩
theorem gf_Mo_165 : gf_ok "CheeseCellarModel" 165 12 69 4 "CheeseCellarModel" ct_12 0 := ⟨ck_12, fl_Mo_165, by decide, rfl, by decide +kernel⟩
theorem gf_Mo_168 : gf_ok "CheeseCellarModel" 168 12 69 5 "CheeseCellarModel" ct_12 0 := ⟨ck_12, fl_Mo_168, by decide, rfl, by decide +kernel⟩
theorem gf_Mo_16 : gf_ok "CheeseCellarModel" 16 12 69 6 "CheeseCellarModel" ct_12 2 := ⟨ck_12, fl_Mo_16, by decide, rfl, by decide +kernel⟩
theorem gf_Mo_19 : gf_ok "CheeseCellarModel" 19 12 69 7 "CheeseCellarModel" ct_12 2 := ⟨ck_12, fl_Mo_19, by decide, rfl, by decide +kernel⟩
theorem gf_Mo_22 : gf_ok "CheeseCellarModel" 22 12 69 8 "CheeseCellarModel" ct_12 2 := ⟨ck_12, fl_Mo_22, by decide, rfl, by decide +kernel⟩
theorem gf_Mo_25 : gf_ok "CheeseCellarModel" 25 12 69 9 "CheeseCellarModel" ct_12 2 := ⟨ck_12, fl_Mo_25, by decide, rfl, by decide +kernel⟩
theorem gf_Mo_28 : gf_ok "CheeseCellarModel" 28 12 69 10 "CheeseCellarModel" ct_12 2 := ⟨ck_12, fl_Mo_28, by decide, rfl, by decide +kernel⟩
theorem gf_Mo_31 : gf_ok "CheeseCellarModel" 31 12 69 11 "CheeseCellarModel" ct_12 2 := ⟨ck_12, fl_Mo_31, by decide, rfl, by decide +kernel⟩
theorem gf_Mo_34 : gf_ok "CheeseCellarModel" 34 12 69 12 "CheeseCellarModel" ct_12 2 := ⟨ck_12, fl_Mo_34, by decide, rfl, by decide +kernel⟩
theorem gf_Mo_37 : gf_ok "CheeseCellarModel" 37 12 69 13 "CheeseCellarModel" ct_12 2 := ⟨ck_12, fl_Mo_37, by decide, rfl, by decide +kernel⟩
theorem gf_Mo_40 : gf_ok "CheeseCellarModel" 40 12 69 14 "CheeseCellarModel" ct_12 2 := ⟨ck_12, fl_Mo_40, by decide, rfl, by decide +kernel⟩
theorem gf_Mo_43 : gf_ok "CheeseCellarModel" 43 12 69 15 "CheeseCellarModel" ct_12 2 := ⟨ck_12, fl_Mo_43, by decide, rfl, by decide +kernel⟩
theorem gf_Mo_46 : gf_ok "CheeseCellarModel" 46 12 69 16 "CheeseCellarModel" ct_12 2 := ⟨ck_12, fl_Mo_46, by decide, rfl, by decide +kernel⟩
theorem gf_Mo_49 : gf_ok "CheeseCellarModel" 49 12 69 17 "CheeseCellarModel" ct_12 2 := ⟨ck_12, fl_Mo_49, by decide, rfl, by decide +kernel⟩
theorem gf_Mo_53 : gf_ok "CheeseCellarModel" 53 12 69 18 "CheeseCellarModel" ct_12 2 := ⟨ck_12, fl_Mo_53, by decide, rfl, by decide +kernel⟩
theorem gf_Mo_56 : gf_ok "CheeseCellarModel" 56 12 69 19 "CheeseCellarModel" ct_12 2 := ⟨ck_12, fl_Mo_56, by decide, rfl, by decide +kernel⟩
theorem gf_Mo_59 : gf_ok "CheeseCellarModel" 59 12 69 20 "CheeseCellarModel" ct_12 2 := ⟨ck_12, fl_Mo_59, by decide, rfl, by decide +kernel⟩
theorem gf_Mo_62 : gf_ok "CheeseCellarModel" 62 12 69 21 "CheeseCellarModel" ct_12 2 := ⟨ck_12, fl_Mo_62, by decide, rfl, by decide +kernel⟩
theorem gf_Mo_65 : gf_ok "CheeseCellarModel" 65 12 69 22 "CheeseCellarModel" ct_12 2 := ⟨ck_12, fl_Mo_65, by decide, rfl, by decide +kernel⟩
theorem gf_Mo_68 : gf_ok "CheeseCellarModel" 68 12 69 23 "CheeseCellarModel" ct_12 2 := ⟨ck_12, fl_Mo_68, by decide, rfl, by decide +kernel⟩
theorem gf_Mo_71 : gf_ok "CheeseCellarModel" 71 12 69 24 "CheeseCellarModel" ct_12 2 := ⟨ck_12, fl_Mo_71, by decide, rfl, by decide +kernel⟩
theorem gf_Mo_74 : gf_ok "CheeseCellarModel" 74 12 69 25 "CheeseCellarModel" ct_12 2 := ⟨ck_12, fl_Mo_74, by decide, rfl, by decide +kernel⟩
theorem gf_Mo_334 : gf_ok "CheeseCellarModel" 334 12 69 26 "CheeseCellarModel" ct_12 0 := ⟨ck_12, fl_Mo_334, by decide, rfl, by decide +kernel⟩
theorem gf_Mo_77 : gf_ok "CheeseCellarModel" 77 12 69 27 "CheeseCellarModel" ct_12 2 := ⟨ck_12, fl_Mo_77, by decide, rfl, by decide +kernel⟩
theorem gf_Mo_80 : gf_ok "CheeseCellarModel" 80 12 69 28 "CheeseCellarModel" ct_12 2 := ⟨ck_12, fl_Mo_80, by decide, rfl, by decide +kernel⟩
theorem gf_Mo_83 : gf_ok "CheeseCellarModel" 83 12 69 29 "CheeseCellarModel" ct_12 2 := ⟨ck_12, fl_Mo_83, by decide, rfl, by decide +kernel⟩
theorem gf_Mo_86 : gf_ok "CheeseCellarModel" 86 12 69 30 "CheeseCellarModel" ct_12 2 := ⟨ck_12, fl_Mo_86, by decide, rfl, by decide +kernel⟩
theorem gf_Mo_328 : gf_ok "CheeseCellarModel" 328 12 69 31 "CheeseCellarModel" ct_12 0 := ⟨ck_12, fl_Mo_328, by decide, rfl, by decide +kernel⟩
theorem gf_Mo_273 : gf_ok "CheeseCellarModel" 273 12 69 32 "CheeseCellarModel" ct_12 0 := ⟨ck_12, fl_Mo_273, by decide, rfl, by decide +kernel⟩
theorem gf_Mo_315 : gf_ok "CheeseCellarModel" 315 12 69 33 "CheeseCellarModel" ct_12 0 := ⟨ck_12, fl_Mo_315, by decide, rfl, by decide +kernel⟩
theorem gf_Mo_89 : gf_ok "CheeseCellarModel" 89 12 69 34 "CheeseCellarModel" ct_12 2 := ⟨ck_12, fl_Mo_89, by decide, rfl, by decide +kernel⟩
theorem gf_Mo_196 : gf_ok "CheeseCellarModel" 196 12 69 35 "CheeseCellarModel" ct_12 0 := ⟨ck_12, fl_Mo_196, by decide, rfl, by decide +kernel⟩
theorem gf_Mo_234 : gf_ok "CheeseCellarModel" 234 12 69 36 "CheeseCellarModel" ct_12 0 := ⟨ck_12, fl_Mo_234, by decide, rfl, by decide +kernel⟩
theorem gf_Mo_92 : gf_ok "CheeseCellarModel" 92 12 69 37 "CheeseCellarModel" ct_12 0 := ⟨ck_12, fl_Mo_92, by decide, rfl, by decide +kernel⟩
theorem gf_Mo_203 : gf_ok "CheeseCellarModel" 203 12 69 38 "CheeseCellarModel" ct_12 0 := ⟨ck_12, fl_Mo_203, by decide, rfl, by decide +kernel⟩
theorem gf_Mo_206 : gf_ok "CheeseCellarModel" 206 12 69 39 "CheeseCellarModel" ct_12 0 := ⟨ck_12, fl_Mo_206, by decide, rfl, by decide +kernel⟩
theorem gf_Mo_222 : gf_ok "CheeseCellarModel" 222 12 69 40 "CheeseCellarModel" ct_12 0 := ⟨ck_12, fl_Mo_222, by decide, rfl, by decide +kernel⟩
theorem gf_Mo_212 : gf_ok "CheeseCellarModel" 212 12 69 41 "CheeseCellarModel" ct_12 0 := ⟨ck_12, fl_Mo_212, by decide, rfl, by decide +kernel⟩
theorem gf_Mo_219 : gf_ok "CheeseCellarModel" 219 12 69 42 "CheeseCellarModel" ct_12 0 := ⟨ck_12, fl_Mo_219, by decide, rfl, by decide +kernel⟩
theorem gf_Mo_215 : gf_ok "CheeseCellarModel" 215 12 69 43 "CheeseCellarModel" ct_12 1 := ⟨ck_12, fl_Mo_215, by decide, rfl, by decide +kernel⟩
theorem gf_Mo_96 : gf_ok "CheeseCellarModel" 96 12 69 44 "CheeseCellarModel" ct_12 2 := ⟨ck_12, fl_Mo_96, by decide, rfl, by decide +kernel⟩
theorem gf_Mo_276 : gf_ok "CheeseCellarModel" 276 12 69 45 "CheeseCellarModel" ct_12 0 := ⟨ck_12, fl_Mo_276, by decide, rfl, by decide +kernel⟩
theorem gf_Mo_279 : gf_ok "CheeseCellarModel" 279 12 69 46 "CheeseCellarModel" ct_12 0 := ⟨ck_12, fl_Mo_279, by decide, rfl, by decide +kernel⟩
theorem gf_Mo_99 : gf_ok "CheeseCellarModel" 99 12 69 47 "CheeseCellarModel" ct_12 2 := ⟨ck_12, fl_Mo_99, by decide, rfl, by decide +kernel⟩
theorem gf_Mo_102 : gf_ok "CheeseCellarModel" 102 12 69 48 "CheeseCellarModel" ct_12 2 := ⟨ck_12, fl_Mo_102, by decide, rfl, by decide +kernel⟩
theorem gf_Mo_105 : gf_ok "CheeseCellarModel" 105 12 69 49 "CheeseCellarModel" ct_12 2 := ⟨ck_12, fl_Mo_105, by decide, rfl, by decide +kernel⟩
theorem gf_Mo_108 : gf_ok "CheeseCellarModel" 108 12 69 50 "CheeseCellarModel" ct_12 2 := ⟨ck_12, fl_Mo_108, by decide, rfl, by decide +kernel⟩
theorem gf_Mo_111 : gf_ok "CheeseCellarModel" 111 12 69 51 "CheeseCellarModel" ct_12 2 := ⟨ck_12, fl_Mo_111, by decide, rfl, by decide +kernel⟩
theorem gf_Mo_114 : gf_ok "CheeseCellarModel" 114 12 69 52 "CheeseCellarModel" ct_12 2 := ⟨ck_12, fl_Mo_114, by decide, rfl, by decide +kernel⟩
theorem gf_Mo_158 : gf_ok "CheeseCellarModel" 158 12 69 53 "CheeseCellarModel" ct_12 3 := ⟨ck_12, fl_Mo_158, by decide, rfl, by decide +kernel⟩
theorem gf_Mo_357 : gf_ok "CheeseCellarModel" 357 12 69 54 "CheeseCellarModel" ct_12 0 := ⟨ck_12, fl_Mo_357, by decide, rfl, by decide +kernel⟩
theorem gf_Mo_386 : gf_ok "CheeseCellarModel" 386 12 69 55 "CheeseCellarModel" ct_12 0 := ⟨ck_12, fl_Mo_386, by decide, rfl, by decide +kernel⟩
theorem gf_Mo_117 : gf_ok "CheeseCellarModel" 117 12 69 56 "CheeseCellarModel" ct_12 2 := ⟨ck_12, fl_Mo_117, by decide, rfl, by decide +kernel⟩
theorem gf_Mo_120 : gf_ok "CheeseCellarModel" 120 12 69 57 "CheeseCellarModel" ct_12 2 := ⟨ck_12, fl_Mo_120, by decide, rfl, by decide +kernel⟩
theorem gf_Mo_123 : gf_ok "CheeseCellarModel" 123 12 69 58 "CheeseCellarModel" ct_12 2 := ⟨ck_12, fl_Mo_123, by decide, rfl, by decide +kernel⟩
theorem gf_Mo_126 : gf_ok "CheeseCellarModel" 126 12 69 59 "CheeseCellarModel" ct_12 2 := ⟨ck_12, fl_Mo_126, by decide, rfl, by decide +kernel⟩
theorem gf_Mo_129 : gf_ok "CheeseCellarModel" 129 12 69 60 "CheeseCellarModel" ct_12 2 := ⟨ck_12, fl_Mo_129, by decide, rfl, by decide +kernel⟩
theorem gf_Mo_133 : gf_ok "CheeseCellarModel" 133 12 69 61 "CheeseCellarModel" ct_12 2 := ⟨ck_12, fl_Mo_133, by decide, rfl, by decide +kernel⟩
theorem gf_Mo_389 : gf_ok "CheeseCellarModel" 389 12 69 62 "CheeseCellarModel" ct_12 0 := ⟨ck_12, fl_Mo_389, by decide, rfl, by decide +kernel⟩
theorem gf_Mo_136 : gf_ok "CheeseCellarModel" 136 12 69 63 "CheeseCellarModel" ct_12 2 := ⟨ck_12, fl_Mo_136, by decide, rfl, by decide +kernel⟩
theorem gf_Mo_139 : gf_ok "CheeseCellarModel" 139 12 69 64 "CheeseCellarModel" ct_12 2 := ⟨ck_12, fl_Mo_139, by decide, rfl, by decide +kernel⟩
theorem gf_Mo_142 : gf_ok "CheeseCellarModel" 142 12 69 65 "CheeseCellarModel" ct_12 2 := ⟨ck_12, fl_Mo_142, by decide, rfl, by decide +kernel⟩
theorem gf_Mo_145 : gf_ok "CheeseCellarModel" 145 12 69 66 "CheeseCellarModel" ct_12 2 := ⟨ck_12, fl_Mo_145, by decide, rfl, by decide +kernel⟩
theorem gf_Mo_148 : gf_ok "CheeseCellarModel" 148 12 69 67 "CheeseCellarModel" ct_12 2 := ⟨ck_12, fl_Mo_148, by decide, rfl, by decide +kernel⟩
theorem gf_Mo_151 : gf_ok "CheeseCellarModel" 151 12 69 68 "CheeseCellarModel" ct_12 2 := ⟨ck_12, fl_Mo_151, by decide, rfl, by decide +kernel⟩
