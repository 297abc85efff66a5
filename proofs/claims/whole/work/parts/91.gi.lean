/-! ===== the invariant that ties class and reference, group by group ===== -/
/-- two memories agree on the places of P -/
def ff_F (P : Nat → Nat → Prop) (G G' : mm_T) : Prop := ∀ b j, P b j → mm_I G' b j = mm_I G b j
theorem ff_0 (P : Nat → Nat → Prop) (G : mm_T) : ff_F P G G := fun _ _ _ => rfl
theorem ff_s {P : Nat → Nat → Prop} {G G' : mm_T} {a k : Nat} {v : Int} (h : ff_F P G G') (hn : ¬ P a k) : ff_F P G (ms_I G' a k v) := fun b j hb => (mi_n (fun z => hn (by rw [← z.1, ← z.2]; exact hb))).trans (h b j hb)
theorem ff_n {P : Nat → Nat → Prop} {G G' : mm_T} {a : Nat} (h : ff_F P G G') (hn : ∀ j, ¬ P a j) : ff_F P G (ms_N G' a) := fun b j hb => by
  show (if b = a then 0 else mm_I G' b j) = _
  rw [if_neg (fun z => hn j (by rw [← z]; exact hb))]; exact h b j hb
theorem ff_r {P : Nat → Nat → Prop} {G G' : mm_T} {a k : Nat} {v : Option Nat} (h : ff_F P G G') : ff_F P G (ms_R G' a k v) := h
theorem ff_t {P : Nat → Nat → Prop} {G G1 G2 : mm_T} (h : ff_F P G G1) (h' : ff_F P G1 G2) : ff_F P G G2 := fun b j hb => (h' b j hb).trans (h b j hb)
theorem ff_m {P Q : Nat → Nat → Prop} {G G' : mm_T} (h : ff_F Q G G') (hs : ∀ b j, P b j → Q b j) : ff_F P G G' := fun b j hb => h b j (hs b j hb)
/-- a row as an update of the row before -/
theorem mi_up (G : mm_T) (a k : Nat) (v : Int) : mm_I (ms_I G a k v) a = upp (mm_I G a) k v := by
  funext j
  unfold upp
  by_cases h : j = k
  · subst h; rw [mi_s, if_pos rfl]
  · rw [mi_n (fun z => h z.2), if_neg h]
abbrev fo_A (b _j : Nat) : Prop := b = 2 ∨ b = 3 ∨ b = 61 ∨ b = 62
abbrev fo_F (b j : Nat) : Prop := (b = 35 ∧ (j = 6 ∨ j = 7)) ∨ (b = 60 ∧ (j = 36 ∨ j = 37))
abbrev fo_T (b j : Nat) : Prop := b = 34 ∨ b = 87 ∨ (b = 33 ∧ j = 1) ∨ (b = 60 ∧ j = 35)
abbrev fo_B (b _j : Nat) : Prop := (8 ≤ b ∧ b ≤ 11) ∨ (91 ≤ b ∧ b ≤ 94)
abbrev fo_M (b j : Nat) : Prop := (200 ≤ b ∧ b < 230) ∨ (63 ≤ b ∧ b ≤ 65) ∨ (b = 0 ∧ j = 13) ∨ (b = 60 ∧ j = 3)
abbrev fo_C (b j : Nat) : Prop := (b = 0 ∧ j = 14) ∨ (b = 60 ∧ (j = 4 ∨ j = 5)) ∨ (b = 12 ∧ j = 4)
abbrev fo_E (b j : Nat) : Prop := (300 ≤ b ∧ j ≠ 3) ∨ (66 ≤ b ∧ b ≤ 73)
abbrev fo_N (b _j : Nat) : Prop := 66 ≤ b ∧ b ≤ 73
abbrev fo_L (b _j : Nat) : Prop := b = 4 ∨ b = 67
abbrev fo_I (b j : Nat) : Prop := (300 ≤ b ∧ j = 3) ∨ b = 74
abbrev fo_S (b _j : Nat) : Prop := (13 ≤ b ∧ b ≤ 16) ∨ (75 ≤ b ∧ b ≤ 78)
abbrev fo_K (b j : Nat) : Prop := (18 ≤ b ∧ b ≤ 22) ∨ (101 ≤ b ∧ b ≤ 105) ∨ (b = 17 ∧ j = 6) ∨ (b = 60 ∧ j = 62)
abbrev fo_P (b j : Nat) : Prop := b = 32 ∨ b = 96 ∨ b = 97 ∨ b = 67 ∨ (b = 24 ∧ (j = 9 ∨ j = 10 ∨ j = 11)) ∨ (b = 60 ∧ (j = 53 ∨ j = 55))
abbrev fo_O (b j : Nat) : Prop := (43 ≤ b ∧ b ≤ 45) ∨ (49 ≤ b ∧ b ≤ 51) ∨ (b = 42 ∧ j = 6) ∨ (b = 48 ∧ j = 6) ∨ (79 ≤ b ∧ b ≤ 82) ∨ (b = 60 ∧ j = 26)
abbrev fo_D (b j : Nat) : Prop := (b = 0 ∧ j = 15) ∨ (b = 60 ∧ j = 0)
theorem ff_w {P : Nat → Nat → Prop} {G G' : mm_T} (h : ff_F P G G') (a : Nat) (hp : ∀ j, P a j) : mm_I G' a = mm_I G a := funext fun j => h a j (hp j)
/-- today -/
def gi_D (G : mm_T) (T : Int) : Prop := mm_I G 0 15 = T ∧ mm_I G 60 0 = T ∧ 0 ≤ T ∧ T ≤ 100000
theorem gi_D_f {G G' : mm_T} {T : Int} (h : gi_D G T) (e : ff_F fo_D G G') : gi_D G' T := by
  unfold gi_D; rw [e 0 15 (by omega), e 60 0 (by omega)]; exact h
/-- air and damp -/
def gi_A (G : mm_T) : Prop := mm_I G 2 = mm_I G 61 ∧ mm_I G 3 = mm_I G 62 ∧ sh_G G
theorem gi_A_f {G G' : mm_T} (h : gi_A G) (e : ff_F fo_A G G') : gi_A G' := by
  unfold gi_A sh_G
  rw [ff_w e 2 (fun j => by omega), ff_w e 3 (fun j => by omega), ff_w e 61 (fun j => by omega), ff_w e 62 (fun j => by omega)]; exact h
/-- the fault -/
def gi_F (G : mm_T) : Prop := mm_I G 35 6 = mm_I G 60 36 ∧ mm_I G 35 7 = mm_I G 60 37
theorem gi_F_f {G G' : mm_T} (h : gi_F G) (e : ff_F fo_F G G') : gi_F G' := by
  unfold gi_F
  rw [e 35 6 (by omega), e 35 7 (by omega), e 60 36 (by omega), e 60 37 (by omega)]; exact h
/-- the tape -/
def gi_T (G : mm_T) (z : Nat) : Prop := mm_I G 33 1 = z ∧ mm_I G 60 35 = z ∧ z ≤ 500 ∧ mm_I G 34 = mm_I G 87 ∧ ∀ k, 0 ≤ mm_I G 34 k ∧ mm_I G 34 k ≤ 255
theorem gi_T_f {G G' : mm_T} {z : Nat} (h : gi_T G z) (e : ff_F fo_T G G') : gi_T G' z := by
  unfold gi_T
  rw [e 33 1 (by omega), e 60 35 (by omega), ff_w e 34 (fun j => by omega), ff_w e 87 (fun j => by omega)]; exact h
/-- the bands -/
def gi_B (G : mm_T) : Prop := mm_I G 8 = mm_I G 91 ∧ mm_I G 9 = mm_I G 92 ∧ mm_I G 10 = mm_I G 93 ∧ mm_I G 11 = mm_I G 94 ∧ ∀ k, k < 3 → 0 ≤ mm_I G 8 k ∧ mm_I G 8 k ≤ 4
theorem gi_B_f {G G' : mm_T} (h : gi_B G) (e : ff_F fo_B G G') : gi_B G' := by
  unfold gi_B
  rw [ff_w e 8 (fun j => by omega), ff_w e 9 (fun j => by omega), ff_w e 10 (fun j => by omega), ff_w e 11 (fun j => by omega), ff_w e 91 (fun j => by omega), ff_w e 92 (fun j => by omega), ff_w e 93 (fun j => by omega), ff_w e 94 (fun j => by omega)]; exact h
/-- the milks -/
def gi_M (G : mm_T) (mc wc : Nat) : Prop := mm_I G 0 13 = mc ∧ mm_I G 60 3 = mc ∧ mc ≤ 30 ∧ (∀ k, k < mc → mm_R G 5 k = some (200 + k)) ∧ (∀ k, mc ≤ k → k < 30 → mm_A G (200 + k) = false) ∧ ∀ k, k < 30 → (mm_I G (200 + k) 0 = mm_I G 63 k ∧ mm_I G (200 + k) 1 = mm_I G 64 k ∧ mm_I G (200 + k) 2 = mm_I G 65 k) ∧ mm_I G 64 k ≤ 1000 ∧ 0 ≤ mm_I G 65 k ∧ mm_I G 65 k ≤ 3 * wc ∧ (mc ≤ k → mm_I G 65 k = 0)
theorem gi_M_f {G G' : mm_T} {mc wc : Nat} (h : gi_M G mc wc) (e : ff_F fo_M G G') (hR : ∀ k, k < mc → mm_R G' 5 k = mm_R G 5 k) (hA : ∀ k, k < 30 → mm_A G' (200 + k) = mm_A G (200 + k)) : gi_M G' mc wc := by
  obtain ⟨h1, h2, h3, h4, h5, h6⟩ := h
  refine ⟨by rw [e 0 13 (by omega), h1], by rw [e 60 3 (by omega), h2], h3, fun k hk => by rw [hR k hk, h4 k hk], fun k hk hk2 => by rw [hA k hk2, h5 k hk hk2], fun k hk => ?_⟩
  rw [e (200 + k) 0 (by omega), e (200 + k) 1 (by omega), e (200 + k) 2 (by omega), e 63 k (by omega), e 64 k (by omega), e 65 k (by omega)]; exact h6 k hk
/-- the counts of wheels and stays -/
def gi_C (G : mm_T) (wc c : Nat) : Prop := mm_I G 0 14 = wc ∧ mm_I G 60 4 = wc ∧ wc ≤ 40 ∧ mm_I G 12 4 = c ∧ mm_I G 60 5 = c ∧ c ≤ 200
theorem gi_C_f {G G' : mm_T} {wc c : Nat} (h : gi_C G wc c) (e : ff_F fo_C G G') : gi_C G' wc c := by
  unfold gi_C
  rw [e 0 14 (by omega), e 60 4 (by omega), e 12 4 (by omega), e 60 5 (by omega)]; exact h
/-- where the wheels lie in memory -/
def gi_X (G : mm_T) (wc : Nat) : Prop := (∀ k, k < wc → mm_R G 6 k = some (300 + k)) ∧ ∀ k, wc ≤ k → k < 40 → mm_A G (300 + k) = false
theorem gi_X_f {G G' : mm_T} {wc : Nat} (h : gi_X G wc) (hR : ∀ k, k < wc → mm_R G' 6 k = mm_R G 6 k) (hA : ∀ k, k < 40 → mm_A G' (300 + k) = mm_A G (300 + k)) : gi_X G' wc :=
  ⟨fun k hk => by rw [hR k hk, h.1 k hk], fun k hk hk2 => by rw [hA k hk2, h.2 k hk hk2]⟩
/-- what is told of a wheel, on both sides -/
def gi_e (G : mm_T) (k : Nat) : Prop := mm_I G (300 + k) 0 = k ∧ mm_I G (300 + k) 1 = mm_I G 66 k ∧ mm_I G (300 + k) 2 = mm_I G 71 k ∧ mm_I G (300 + k) 4 = mm_I G 67 k ∧ mm_I G (300 + k) 5 = mm_I G 73 k ∧ mm_I G (300 + k) 6 = mm_I G 68 k ∧ mm_I G (300 + k) 7 = mm_I G 69 k ∧ mm_I G (300 + k) 8 = mm_I G 70 k ∧ mm_I G (300 + k) 9 = mm_I G 72 k
def gi_E (G : mm_T) (wc : Nat) : Prop := ∀ k, k < wc → gi_e G k
theorem gi_E_f {G G' : mm_T} {wc : Nat} (h : gi_E G wc) (e : ff_F fo_E G G') : gi_E G' wc := by
  intro k hk
  have h := h k hk
  unfold gi_e at h ⊢
  rw [e (300 + k) 0 (by omega), e (300 + k) 1 (by omega), e (300 + k) 2 (by omega), e (300 + k) 4 (by omega), e (300 + k) 5 (by omega), e (300 + k) 6 (by omega), e (300 + k) 7 (by omega), e (300 + k) 8 (by omega), e (300 + k) 9 (by omega), e 66 k (by omega), e 67 k (by omega), e 68 k (by omega), e 69 k (by omega), e 70 k (by omega), e 71 k (by omega), e 72 k (by omega), e 73 k (by omega)]; exact h
/-- ranges of what is told of a wheel -/
def gi_n (G : mm_T) (T : Int) (k : Nat) : Prop := (0 ≤ mm_I G 66 k ∧ mm_I G 66 k ≤ 2) ∧ (-1 ≤ mm_I G 67 k ∧ mm_I G 67 k ≤ 23) ∧ (0 ≤ mm_I G 71 k ∧ mm_I G 71 k ≤ T) ∧ (0 ≤ mm_I G 73 k ∧ mm_I G 73 k < 200) ∧ (0 ≤ mm_I G 68 k ∧ mm_I G 68 k ≤ 1000000) ∧ (0 ≤ mm_I G 69 k ∧ mm_I G 69 k ≤ 1000000) ∧ (0 ≤ mm_I G 70 k ∧ mm_I G 70 k ≤ 1000000) ∧ (0 ≤ mm_I G 72 k ∧ mm_I G 72 k ≤ T)
def gi_N (G : mm_T) (wc c : Nat) (T : Int) : Prop := (∀ k, k < 40 → gi_n G T k) ∧ (∀ k, k < wc → mm_I G 73 k < c) ∧ ∀ k, wc ≤ k → k < 40 → mm_I G 70 k = 0 ∧ mm_I G 68 k = 0 ∧ mm_I G 69 k = 0 ∧ mm_I G 72 k = 0
theorem gi_n_f {G G' : mm_T} {T : Int} {k : Nat} (h : gi_n G T k) (e : ∀ b, 66 ≤ b → b ≤ 73 → mm_I G' b k = mm_I G b k) : gi_n G' T k := by
  unfold gi_n at h ⊢
  rw [e 66 (by omega) (by omega), e 67 (by omega) (by omega), e 68 (by omega) (by omega), e 69 (by omega) (by omega), e 70 (by omega) (by omega), e 71 (by omega) (by omega), e 72 (by omega) (by omega), e 73 (by omega) (by omega)]; exact h
theorem gi_N_f {G G' : mm_T} {wc c : Nat} {T : Int} (h : gi_N G wc c T) (e : ff_F fo_N G G') : gi_N G' wc c T :=
  ⟨fun k hk => gi_n_f (h.1 k hk) (fun b h1 h2 => e b k ⟨h1, h2⟩), fun k hk => by rw [e 73 k (by omega)]; exact h.2.1 k hk, fun k hk hk2 => by rw [e 70 k (by omega), e 68 k (by omega), e 69 k (by omega), e 72 k (by omega)]; exact h.2.2 k hk hk2⟩
/-- how many lie on a shelf -/
def gi_L (G : mm_T) (wc : Nat) : Prop := ∀ t : Nat, t < 24 → mm_I G 4 t = ct_n (mm_I G 67) t wc ∧ mm_I G 4 t ≤ 4
theorem gi_L_f {G G' : mm_T} {wc : Nat} (h : gi_L G wc) (e : ff_F fo_L G G') : gi_L G' wc := by
  intro t ht
  rw [ff_w e 4 (fun j => by omega), ff_w e 67 (fun j => by omega)]; exact h t ht
/-- which milks a wheel is made of -/
def gi_I (G : mm_T) (wc : Nat) : Prop := (∀ k, mm_I G 74 k = 0 ∨ mm_I G 74 k = 1) ∧ (∀ k, k < wc → ∀ m, m < 30 → (ib_b (mm_I G (300 + k) 3) m = true ↔ mm_I G 74 (40 * m + k) = 1)) ∧ ∀ k, wc ≤ k → k < 40 → ∀ m, m < 30 → mm_I G 74 (40 * m + k) = 0
theorem gi_I_f {G G' : mm_T} {wc : Nat} (h : gi_I G wc) (e : ff_F fo_I G G') : gi_I G' wc :=
  ⟨fun k => by rw [e 74 k (by omega)]; exact h.1 k, fun k hk m hm => by rw [e 74 _ (by omega), e (300 + k) 3 (by omega)]; exact h.2.1 k hk m hm, fun k hk hk2 m hm => by rw [e 74 _ (by omega)]; exact h.2.2 k hk hk2 m hm⟩
/-- the stays -/
def gi_S (G : mm_T) (wc c : Nat) (T : Int) : Prop := mm_I G 13 = mm_I G 75 ∧ mm_I G 14 = mm_I G 76 ∧ mm_I G 15 = mm_I G 77 ∧ mm_I G 16 = mm_I G 78 ∧ ∀ k, k < c → (0 ≤ mm_I G 13 k ∧ mm_I G 13 k < wc) ∧ -1 ≤ mm_I G 16 k ∧ mm_I G 16 k ≤ T
theorem gi_S_f {G G' : mm_T} {wc c : Nat} {T : Int} (h : gi_S G wc c T) (e : ff_F fo_S G G') : gi_S G' wc c T := by
  unfold gi_S
  rw [ff_w e 13 (fun j => by omega), ff_w e 14 (fun j => by omega), ff_w e 15 (fun j => by omega), ff_w e 16 (fun j => by omega), ff_w e 75 (fun j => by omega), ff_w e 76 (fun j => by omega), ff_w e 77 (fun j => by omega), ff_w e 78 (fun j => by omega)]; exact h
/-- the marks -/
def gi_K (G : mm_T) (kc : Nat) : Prop := mm_I G 17 6 = kc ∧ mm_I G 60 62 = kc ∧ kc ≤ 100 ∧ (mm_I G 18 = mm_I G 101 ∧ mm_I G 19 = mm_I G 102 ∧ mm_I G 20 = mm_I G 103 ∧ mm_I G 21 = mm_I G 104 ∧ mm_I G 22 = mm_I G 105) ∧ ∀ k, k < kc → (0 ≤ mm_I G 18 k ∧ mm_I G 18 k ≤ 4) ∧ (0 ≤ mm_I G 20 k ∧ mm_I G 20 k ≤ 20) ∧ -1 ≤ mm_I G 22 k
theorem gi_K_f {G G' : mm_T} {kc : Nat} (h : gi_K G kc) (e : ff_F fo_K G G') : gi_K G' kc := by
  unfold gi_K
  rw [e 17 6 (by omega), e 60 62 (by omega), ff_w e 18 (fun j => by omega), ff_w e 19 (fun j => by omega), ff_w e 20 (fun j => by omega), ff_w e 21 (fun j => by omega), ff_w e 22 (fun j => by omega), ff_w e 101 (fun j => by omega), ff_w e 102 (fun j => by omega), ff_w e 103 (fun j => by omega), ff_w e 104 (fun j => by omega), ff_w e 105 (fun j => by omega)]; exact h
/-- where the wheels lie when the plan is carried out -/
def gi_u (sh : Nat → Int) (gw a : Nat → Nat) (n w : Nat) : Int := if kp_v gw a n w = -1 then sh w else kp_v gw a n w
/-- the plan: the rows of both, told by gw and a -/
def gi_p (G : mm_T) (wc n : Nat) (gw a : Nat → Nat) : Prop := inc_P gw n ∧ (∀ k, k < n → gw k < 40 ∧ a k < 24) ∧ (∀ k, k < n → mm_I G 96 k = (gw k : Nat) ∧ mm_I G 97 k = (a k : Nat)) ∧ (∀ w, w < 40 → mm_I G 32 w = kp_v gw a n w) ∧ (mm_I G 60 53 ≠ 0 → (∀ k, k < n → gw k < wc ∧ mm_I G 67 (gw k) ≠ -1) ∧ ∀ t : Nat, t < 24 → ct_n (gi_u (mm_I G 67) gw a n) t wc ≤ 4)
def gi_P (G : mm_T) (wc : Nat) : Prop := ∃ n : Nat, (mm_I G 60 55 = n ∧ mm_I G 24 9 = n ∧ n ≤ 10) ∧ (mm_I G 60 53 ≠ 0 ↔ mm_I G 24 10 ≠ 0 ∧ mm_I G 24 11 = 0) ∧ (mm_I G 24 10 = 0 → n = 0) ∧ (mm_I G 24 10 ≠ 0 → ∃ gw a, gi_p G wc n gw a)
theorem gi_P_f {G G' : mm_T} {wc : Nat} (h : gi_P G wc) (e : ff_F fo_P G G') : gi_P G' wc := by
  unfold gi_P gi_p
  rw [e 60 55 (by omega), e 24 9 (by omega), e 60 53 (by omega), e 24 10 (by omega), e 24 11 (by omega), ff_w e 96 (fun j => by omega), ff_w e 97 (fun j => by omega), ff_w e 32 (fun j => by omega), ff_w e 67 (fun j => by omega)]; exact h
/-- a plan that no longer holds -/
theorem gi_P_s {G G' : mm_T} {wc wc' : Nat} (h : gi_P G wc) (e : ff_F (fun b j => b = 32 ∨ b = 96 ∨ b = 97 ∨ (b = 24 ∧ (j = 9 ∨ j = 10)) ∨ (b = 60 ∧ j = 55)) G G') (e1 : mm_I G' 24 11 = 1) (e2 : mm_I G' 60 53 = 0) : gi_P G' wc' := by
  obtain ⟨n, h1, h2, h3, h4⟩ := h
  refine ⟨n, by rw [e 60 55 (by omega), e 24 9 (by omega)]; exact h1, by rw [e1, e2]; exact ⟨fun z => absurd rfl z, fun z => absurd z.2 (by omega)⟩, by rw [e 24 10 (by omega)]; exact h3, ?_⟩
  rw [e 24 10 (by omega)]
  intro z
  obtain ⟨gw, a, p1, p2, p3, p4, -⟩ := h4 z
  refine ⟨gw, a, p1, p2, ?_, ?_, fun y => absurd e2 y⟩
  · rw [ff_w e 96 (fun j => by omega), ff_w e 97 (fun j => by omega)]; exact p3
  · rw [ff_w e 32 (fun j => by omega)]; exact p4
/-- the orders -/
def gi_o (G : mm_T) (f : Nat → Int) (le : Nat → Nat) (dd : Nat → Int) (L : Nat) : Prop := (mm_R G 0 11 = some 42 ∧ mm_R G 0 12 = some 48 ∧ xp_R_a G f le dd L ∧ mm_I G 42 6 = L) ∨ (mm_R G 0 11 = some 48 ∧ mm_R G 0 12 = some 42 ∧ xp_R_b G f le dd L ∧ mm_I G 48 6 = L)
def gi_O (G : mm_T) : Prop := ∃ f le dd L, pg_W f le dd L ∧ gi_o G f le dd L ∧ mp_R G f le dd L ∧ mm_I G 60 26 = (L : Nat)
theorem gi_o_f {G G' : mm_T} {f : Nat → Int} {le : Nat → Nat} {dd : Nat → Int} {L : Nat} (h : gi_o G f le dd L) (e : ff_F fo_O G G') (h1 : mm_R G' 0 11 = mm_R G 0 11) (h2 : mm_R G' 0 12 = mm_R G 0 12) : gi_o G' f le dd L := by
  unfold gi_o xp_R_a xp_R_b
  rw [h1, h2, e 42 6 (by omega), e 48 6 (by omega), ff_w e 43 (fun j => by omega), ff_w e 44 (fun j => by omega), ff_w e 45 (fun j => by omega), ff_w e 49 (fun j => by omega), ff_w e 50 (fun j => by omega), ff_w e 51 (fun j => by omega)]; exact h
theorem mp_R_f {G G' : mm_T} {f : Nat → Int} {le : Nat → Nat} {dd : Nat → Int} {L : Nat} (h : mp_R G f le dd L) (e : ff_F fo_O G G') : mp_R G' f le dd L := by
  unfold mp_R
  rw [ff_w e 79 (fun j => by omega), ff_w e 80 (fun j => by omega), ff_w e 81 (fun j => by omega), ff_w e 82 (fun j => by omega)]; exact h
theorem gi_O_f {G G' : mm_T} (h : gi_O G) (e : ff_F fo_O G G') (h1 : mm_R G' 0 11 = mm_R G 0 11) (h2 : mm_R G' 0 12 = mm_R G 0 12) : gi_O G' := by
  obtain ⟨f, le, dd, L, w, o, p, l⟩ := h
  exact ⟨f, le, dd, L, w, gi_o_f o e h1 h2, mp_R_f p e, by rw [e 60 26 (by omega)]; exact l⟩
/-- the whole invariant -/
def gi_G (G : mm_T) (mc wc c kc z : Nat) (T : Int) : Prop := fx_R G ∧ gi_D G T ∧ gi_A G ∧ gi_F G ∧ gi_T G z ∧ gi_B G ∧ gi_M G mc wc ∧ gi_C G wc c ∧ gi_X G wc ∧ gi_E G wc ∧ gi_N G wc c T ∧ gi_L G wc ∧ gi_I G wc ∧ gi_S G wc c T ∧ gi_K G kc ∧ gi_P G wc ∧ gi_O G
/-- as the loop of the law keeps it -/
def gi_J (mc wc : Nat) (G : mm_T) : Prop := ∃ c kc z T, gi_G G mc wc c kc z T
/-- how a pair of calls answers: the class, then the reference with the same -/
def gj_P (X : gx_T) (d : Nat) (M : mt_T) (as : List av_T) (J : mm_T → Prop) : Option av_T → mm_T → Prop := fun r G1 => ∃ y, r = some (av_i y) ∧ aw_M X d M as G1 0 0 (fun r' G2 => r' = some (av_i y) ∧ J G2)
