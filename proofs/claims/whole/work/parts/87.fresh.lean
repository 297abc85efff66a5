/-! ===== memory after both are new ===== -/
def n2_G (G : mm_T) : mm_T := nm_G (ms_N (nk_G (ms_N G 0)) 60)
def fx_L : List (Nat × Nat × Nat) := [(0, 0, 1), (0, 1, 5), (0, 2, 6), (0, 3, 7), (0, 4, 12), (0, 5, 17), (0, 6, 24), (0, 7, 33), (0, 8, 35), (0, 9, 40), (0, 10, 41), (1, 0, 2), (1, 1, 3), (1, 2, 4), (7, 0, 8), (7, 1, 9), (7, 2, 10), (7, 3, 11), (12, 0, 13), (12, 1, 14), (12, 2, 15), (12, 3, 16), (17, 0, 18), (17, 1, 19), (17, 2, 20), (17, 3, 21), (17, 4, 22), (17, 5, 23), (24, 0, 25), (24, 1, 26), (24, 2, 27), (24, 3, 28), (24, 4, 29), (24, 5, 30), (24, 6, 31), (24, 7, 32), (33, 0, 34), (35, 0, 36), (36, 0, 37), (36, 1, 38), (36, 2, 39), (42, 0, 43), (42, 1, 44), (42, 2, 45), (42, 3, 46), (42, 4, 47), (48, 0, 49), (48, 1, 50), (48, 2, 51), (48, 3, 52), (48, 4, 53), (60, 1, 61), (60, 2, 62), (60, 6, 63), (60, 7, 64), (60, 8, 65), (60, 9, 66), (60, 10, 67), (60, 11, 68), (60, 12, 69), (60, 13, 70), (60, 14, 71), (60, 15, 72), (60, 16, 73), (60, 17, 74), (60, 18, 75), (60, 19, 76), (60, 20, 77), (60, 21, 78), (60, 22, 79), (60, 23, 80), (60, 24, 81), (60, 25, 82), (60, 27, 83), (60, 28, 84), (60, 29, 85), (60, 30, 86), (60, 34, 87), (60, 44, 88), (60, 47, 89), (60, 48, 90), (60, 49, 91), (60, 50, 92), (60, 51, 93), (60, 52, 94), (60, 56, 95), (60, 57, 96), (60, 58, 97), (60, 59, 98), (60, 60, 99), (60, 61, 100), (60, 63, 101), (60, 64, 102), (60, 65, 103), (60, 66, 104), (60, 67, 105), (60, 68, 106)]
theorem fx_en1 : ∀ a : Fin 61, ∀ k : Fin 69, fx_t a.val k.val = none ∨ ∃ x ∈ fx_L, x.1 = a.val ∧ x.2.1 = k.val ∧ fx_t a.val k.val = some x.2.2 := by decide +kernel
theorem fx_len : ∀ a : Fin 61, (fx_tab.getD a.val []).length ≤ 69 := by decide +kernel
theorem fx_en {a k b : Nat} (h : fx_t a k = some b) : (a, k, b) ∈ fx_L := by
  have ha : a < 61 := by
    by_cases z : a < 61
    · exact z
    · have e : fx_tab.getD a [] = [] := by rw [List.getD_eq_getElem?_getD, List.getElem?_eq_none (show fx_tab.length ≤ a by rw [show fx_tab.length = 61 from rfl]; omega)]; rfl
      unfold fx_t at h; rw [e] at h; exact absurd h (by rw [List.getD_nil]; exact fun z => by cases z)
  have hk : k < 69 := by
    by_cases z : k < 69
    · exact z
    · unfold fx_t at h
      have hl := fx_len ⟨a, ha⟩
      dsimp only at hl
      rw [List.getD_eq_getElem?_getD, List.getElem?_eq_none (by omega)] at h
      cases h
  rcases fx_en1 ⟨a, ha⟩ ⟨k, hk⟩ with z | ⟨⟨x1, x2, x3⟩, hx, e1, e2, e3⟩
  · exact absurd (z.symm.trans h) (fun z => by cases z)
  · have e4 : x3 = b := Option.some.inj (e3.symm.trans h)
    rw [← e4, ← show x1 = a from e1, ← show x2 = k from e2]; exact hx
def rz_P (G G0 : mm_T) : Prop := ∀ a k, a < 60 → mm_R G a k = mm_R G0 a k
theorem rz_R {G G0 : mm_T} {k : Nat} {v : Option Nat} (h : rz_P G G0) : rz_P (ms_R G 60 k v) G0 := fun a j ha => by
  show up_2 (mm_R G) 60 k v a j = _
  rw [up_2_n _ _ (by omega)]; exact h a j ha
theorem rz_I {G G0 : mm_T} {b k : Nat} {v : Int} (h : rz_P G G0) : rz_P (ms_I G b k v) G0 := h
theorem rz_N {G G0 : mm_T} {b : Nat} (hb : 60 ≤ b) (h : rz_P G G0) : rz_P (ms_N G b) G0 := fun a j ha => by
  show (if a = b then none else mm_R G a j) = _
  rw [if_neg (by omega)]; exact h a j ha
theorem n2_rz (G : mm_T) : rz_P (n2_G G) (nk_G (ms_N G 0)) := by
  unfold n2_G nm_G
  repeat (first | with_reducible apply rz_R | (with_reducible refine rz_N (by decide) ?_) | with_reducible apply rz_I)
  exact fun _ _ _ => rfl
theorem fx_nL (G : mm_T) : ∀ x ∈ fx_L, mm_R (n2_G G) x.1 x.2.1 = some x.2.2 := by
  unfold fx_L
  refine List.forall_mem_cons.mpr ⟨(n2_rz G 0 0 (by decide)).trans rfl, ?_⟩
  refine List.forall_mem_cons.mpr ⟨(n2_rz G 0 1 (by decide)).trans rfl, ?_⟩
  refine List.forall_mem_cons.mpr ⟨(n2_rz G 0 2 (by decide)).trans rfl, ?_⟩
  refine List.forall_mem_cons.mpr ⟨(n2_rz G 0 3 (by decide)).trans rfl, ?_⟩
  refine List.forall_mem_cons.mpr ⟨(n2_rz G 0 4 (by decide)).trans rfl, ?_⟩
  refine List.forall_mem_cons.mpr ⟨(n2_rz G 0 5 (by decide)).trans rfl, ?_⟩
  refine List.forall_mem_cons.mpr ⟨(n2_rz G 0 6 (by decide)).trans rfl, ?_⟩
  refine List.forall_mem_cons.mpr ⟨(n2_rz G 0 7 (by decide)).trans rfl, ?_⟩
  refine List.forall_mem_cons.mpr ⟨(n2_rz G 0 8 (by decide)).trans rfl, ?_⟩
  refine List.forall_mem_cons.mpr ⟨(n2_rz G 0 9 (by decide)).trans rfl, ?_⟩
  refine List.forall_mem_cons.mpr ⟨(n2_rz G 0 10 (by decide)).trans rfl, ?_⟩
  refine List.forall_mem_cons.mpr ⟨(n2_rz G 1 0 (by decide)).trans rfl, ?_⟩
  refine List.forall_mem_cons.mpr ⟨(n2_rz G 1 1 (by decide)).trans rfl, ?_⟩
  refine List.forall_mem_cons.mpr ⟨(n2_rz G 1 2 (by decide)).trans rfl, ?_⟩
  refine List.forall_mem_cons.mpr ⟨(n2_rz G 7 0 (by decide)).trans rfl, ?_⟩
  refine List.forall_mem_cons.mpr ⟨(n2_rz G 7 1 (by decide)).trans rfl, ?_⟩
  refine List.forall_mem_cons.mpr ⟨(n2_rz G 7 2 (by decide)).trans rfl, ?_⟩
  refine List.forall_mem_cons.mpr ⟨(n2_rz G 7 3 (by decide)).trans rfl, ?_⟩
  refine List.forall_mem_cons.mpr ⟨(n2_rz G 12 0 (by decide)).trans rfl, ?_⟩
  refine List.forall_mem_cons.mpr ⟨(n2_rz G 12 1 (by decide)).trans rfl, ?_⟩
  refine List.forall_mem_cons.mpr ⟨(n2_rz G 12 2 (by decide)).trans rfl, ?_⟩
  refine List.forall_mem_cons.mpr ⟨(n2_rz G 12 3 (by decide)).trans rfl, ?_⟩
  refine List.forall_mem_cons.mpr ⟨(n2_rz G 17 0 (by decide)).trans rfl, ?_⟩
  refine List.forall_mem_cons.mpr ⟨(n2_rz G 17 1 (by decide)).trans rfl, ?_⟩
  refine List.forall_mem_cons.mpr ⟨(n2_rz G 17 2 (by decide)).trans rfl, ?_⟩
  refine List.forall_mem_cons.mpr ⟨(n2_rz G 17 3 (by decide)).trans rfl, ?_⟩
  refine List.forall_mem_cons.mpr ⟨(n2_rz G 17 4 (by decide)).trans rfl, ?_⟩
  refine List.forall_mem_cons.mpr ⟨(n2_rz G 17 5 (by decide)).trans rfl, ?_⟩
  refine List.forall_mem_cons.mpr ⟨(n2_rz G 24 0 (by decide)).trans rfl, ?_⟩
  refine List.forall_mem_cons.mpr ⟨(n2_rz G 24 1 (by decide)).trans rfl, ?_⟩
  refine List.forall_mem_cons.mpr ⟨(n2_rz G 24 2 (by decide)).trans rfl, ?_⟩
  refine List.forall_mem_cons.mpr ⟨(n2_rz G 24 3 (by decide)).trans rfl, ?_⟩
  refine List.forall_mem_cons.mpr ⟨(n2_rz G 24 4 (by decide)).trans rfl, ?_⟩
  refine List.forall_mem_cons.mpr ⟨(n2_rz G 24 5 (by decide)).trans rfl, ?_⟩
  refine List.forall_mem_cons.mpr ⟨(n2_rz G 24 6 (by decide)).trans rfl, ?_⟩
  refine List.forall_mem_cons.mpr ⟨(n2_rz G 24 7 (by decide)).trans rfl, ?_⟩
  refine List.forall_mem_cons.mpr ⟨(n2_rz G 33 0 (by decide)).trans rfl, ?_⟩
  refine List.forall_mem_cons.mpr ⟨(n2_rz G 35 0 (by decide)).trans rfl, ?_⟩
  refine List.forall_mem_cons.mpr ⟨(n2_rz G 36 0 (by decide)).trans rfl, ?_⟩
  refine List.forall_mem_cons.mpr ⟨(n2_rz G 36 1 (by decide)).trans rfl, ?_⟩
  refine List.forall_mem_cons.mpr ⟨(n2_rz G 36 2 (by decide)).trans rfl, ?_⟩
  refine List.forall_mem_cons.mpr ⟨(n2_rz G 42 0 (by decide)).trans rfl, ?_⟩
  refine List.forall_mem_cons.mpr ⟨(n2_rz G 42 1 (by decide)).trans rfl, ?_⟩
  refine List.forall_mem_cons.mpr ⟨(n2_rz G 42 2 (by decide)).trans rfl, ?_⟩
  refine List.forall_mem_cons.mpr ⟨(n2_rz G 42 3 (by decide)).trans rfl, ?_⟩
  refine List.forall_mem_cons.mpr ⟨(n2_rz G 42 4 (by decide)).trans rfl, ?_⟩
  refine List.forall_mem_cons.mpr ⟨(n2_rz G 48 0 (by decide)).trans rfl, ?_⟩
  refine List.forall_mem_cons.mpr ⟨(n2_rz G 48 1 (by decide)).trans rfl, ?_⟩
  refine List.forall_mem_cons.mpr ⟨(n2_rz G 48 2 (by decide)).trans rfl, ?_⟩
  refine List.forall_mem_cons.mpr ⟨(n2_rz G 48 3 (by decide)).trans rfl, ?_⟩
  refine List.forall_mem_cons.mpr ⟨(n2_rz G 48 4 (by decide)).trans rfl, ?_⟩
  refine List.forall_mem_cons.mpr ⟨rfl, ?_⟩
  refine List.forall_mem_cons.mpr ⟨rfl, ?_⟩
  refine List.forall_mem_cons.mpr ⟨rfl, ?_⟩
  refine List.forall_mem_cons.mpr ⟨rfl, ?_⟩
  refine List.forall_mem_cons.mpr ⟨rfl, ?_⟩
  refine List.forall_mem_cons.mpr ⟨rfl, ?_⟩
  refine List.forall_mem_cons.mpr ⟨rfl, ?_⟩
  refine List.forall_mem_cons.mpr ⟨rfl, ?_⟩
  refine List.forall_mem_cons.mpr ⟨rfl, ?_⟩
  refine List.forall_mem_cons.mpr ⟨rfl, ?_⟩
  refine List.forall_mem_cons.mpr ⟨rfl, ?_⟩
  refine List.forall_mem_cons.mpr ⟨rfl, ?_⟩
  refine List.forall_mem_cons.mpr ⟨rfl, ?_⟩
  refine List.forall_mem_cons.mpr ⟨rfl, ?_⟩
  refine List.forall_mem_cons.mpr ⟨rfl, ?_⟩
  refine List.forall_mem_cons.mpr ⟨rfl, ?_⟩
  refine List.forall_mem_cons.mpr ⟨rfl, ?_⟩
  refine List.forall_mem_cons.mpr ⟨rfl, ?_⟩
  refine List.forall_mem_cons.mpr ⟨rfl, ?_⟩
  refine List.forall_mem_cons.mpr ⟨rfl, ?_⟩
  refine List.forall_mem_cons.mpr ⟨rfl, ?_⟩
  refine List.forall_mem_cons.mpr ⟨rfl, ?_⟩
  refine List.forall_mem_cons.mpr ⟨rfl, ?_⟩
  refine List.forall_mem_cons.mpr ⟨rfl, ?_⟩
  refine List.forall_mem_cons.mpr ⟨rfl, ?_⟩
  refine List.forall_mem_cons.mpr ⟨rfl, ?_⟩
  refine List.forall_mem_cons.mpr ⟨rfl, ?_⟩
  refine List.forall_mem_cons.mpr ⟨rfl, ?_⟩
  refine List.forall_mem_cons.mpr ⟨rfl, ?_⟩
  refine List.forall_mem_cons.mpr ⟨rfl, ?_⟩
  refine List.forall_mem_cons.mpr ⟨rfl, ?_⟩
  refine List.forall_mem_cons.mpr ⟨rfl, ?_⟩
  refine List.forall_mem_cons.mpr ⟨rfl, ?_⟩
  refine List.forall_mem_cons.mpr ⟨rfl, ?_⟩
  refine List.forall_mem_cons.mpr ⟨rfl, ?_⟩
  refine List.forall_mem_cons.mpr ⟨rfl, ?_⟩
  refine List.forall_mem_cons.mpr ⟨rfl, ?_⟩
  refine List.forall_mem_cons.mpr ⟨rfl, ?_⟩
  refine List.forall_mem_cons.mpr ⟨rfl, ?_⟩
  refine List.forall_mem_cons.mpr ⟨rfl, ?_⟩
  refine List.forall_mem_cons.mpr ⟨rfl, ?_⟩
  refine List.forall_mem_cons.mpr ⟨rfl, ?_⟩
  refine List.forall_mem_cons.mpr ⟨rfl, ?_⟩
  refine List.forall_mem_cons.mpr ⟨rfl, ?_⟩
  refine List.forall_mem_cons.mpr ⟨rfl, ?_⟩
  refine List.forall_mem_cons.mpr ⟨rfl, ?_⟩
  exact fun x hx => absurd hx List.not_mem_nil
theorem n2_fx (G : mm_T) : fx_R (n2_G G) := fun a k b h => fx_nL G _ (fx_en h)
def nz_P (G : mm_T) : Prop := ∀ a j, mm_I G a j = 0 ∨ (a = 35 ∧ j = 7) ∨ (a = 60 ∧ j = 37)
theorem nz_R {G : mm_T} {b k : Nat} {v : Option Nat} (h : nz_P G) : nz_P (ms_R G b k v) := h
theorem nz_N {G : mm_T} {b : Nat} (h : nz_P G) : nz_P (ms_N G b) := fun a j => by
  show (if a = b then (0 : Int) else mm_I G a j) = 0 ∨ _
  by_cases z : a = b
  · exact Or.inl (if_pos z)
  · rw [if_neg z]; exact h a j
theorem nz_0 {G : mm_T} {b k : Nat} (h : nz_P G) : nz_P (ms_I G b k 0) := fun a j => by
  by_cases z : a = b ∧ j = k
  · rw [z.1, z.2]; exact Or.inl (mi_s _ _ _ _)
  · rw [mi_n z]; exact h a j
theorem nz_7 {G : mm_T} {v : Int} (h : nz_P G) : nz_P (ms_I G 35 7 v) := fun a j => by
  by_cases z : a = 35 ∧ j = 7
  · exact Or.inr (Or.inl z)
  · rw [mi_n z]; exact h a j
theorem nz_37 {G : mm_T} {v : Int} (h : nz_P G) : nz_P (ms_I G 60 37 v) := fun a j => by
  by_cases z : a = 60 ∧ j = 37
  · exact Or.inr (Or.inr z)
  · rw [mi_n z]; exact h a j
theorem n2_z {G : mm_T} (h : nz_P G) : nz_P (n2_G G) := by
  unfold n2_G nm_G nk_G
  repeat (first | with_reducible apply nz_R | with_reducible apply nz_N | with_reducible apply nz_7 | with_reducible apply nz_37 | with_reducible apply nz_0)
  exact h
theorem n2_7 (G : mm_T) : mm_I (n2_G G) 35 7 = -1 ∧ mm_I (n2_G G) 60 37 = -1 := ⟨rfl, rfl⟩
def jz_P (G : mm_T) : Prop := ∀ a j, mm_J G a j = 0
theorem jz_R {G : mm_T} {b k : Nat} {v : Option Nat} (h : jz_P G) : jz_P (ms_R G b k v) := h
theorem jz_I {G : mm_T} {b k : Nat} {v : Int} (h : jz_P G) : jz_P (ms_I G b k v) := h
theorem jz_N {G : mm_T} {b : Nat} (h : jz_P G) : jz_P (ms_N G b) := fun a j => by
  show (if a = b then (0 : Int) else mm_J G a j) = 0
  by_cases z : a = b
  · exact if_pos z
  · rw [if_neg z]; exact h a j
theorem n2_j {G : mm_T} (h : jz_P G) : jz_P (n2_G G) := by
  unfold n2_G nm_G nk_G
  repeat (first | with_reducible apply jz_R | with_reducible apply jz_N | with_reducible apply jz_I)
  exact h
/-- cells beyond both are not taken -/
def az_P (G G0 : mm_T) : Prop := ∀ a, 107 ≤ a → mm_A G a = mm_A G0 a
theorem az_R {G G0 : mm_T} {b k : Nat} {v : Option Nat} (h : az_P G G0) : az_P (ms_R G b k v) G0 := h
theorem az_I {G G0 : mm_T} {b k : Nat} {v : Int} (h : az_P G G0) : az_P (ms_I G b k v) G0 := h
theorem az_N {G G0 : mm_T} {b : Nat} (hb : b < 107) (h : az_P G G0) : az_P (ms_N G b) G0 := fun a ha => by
  show (if a = b then true else mm_A G a) = _
  rw [if_neg (by omega)]; exact h a ha
theorem n2_a (G : mm_T) : az_P (n2_G G) G := by
  unfold n2_G nm_G nk_G
  repeat (first | with_reducible apply az_R | (with_reducible refine az_N (by decide) ?_) | with_reducible apply az_I)
  exact fun _ _ => rfl
