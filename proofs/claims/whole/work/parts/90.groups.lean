/-! ===== what relates class and reference, by rows ===== -/
theorem mi_row {G : mm_T} {a b k : Nat} {v : Int} (h : b ≠ a) : mm_I (ms_I G a k v) b = mm_I G b := funext fun j => mi_n (fun z => h z.1)
/-- two rows agree below n, within bounds -/
def ag_R (f g : Nat → Int) (n : Nat) (lo hi : Int) : Prop := ∀ k, k < n → f k = g k ∧ lo ≤ f k ∧ f k ≤ hi
theorem ag_put {G : mm_T} {a b n k : Nat} {lo hi v : Int} (h : ag_R (mm_I G a) (mm_I G b) n lo hi) (hab : a ≠ b) (hv : lo ≤ v ∧ v ≤ hi) : ag_R (mm_I (ms_I (ms_I G a k v) b k v) a) (mm_I (ms_I (ms_I G a k v) b k v) b) n lo hi := by
  intro j hj
  by_cases e : j = k
  · subst e
    rw [mi_s, mi_n (fun z => hab z.1), mi_s]; exact ⟨rfl, hv⟩
  · rw [mi_n (fun z => e z.2), mi_n (fun z => e z.2), mi_n (fun z => e z.2), mi_n (fun z => e z.2)]; exact h j hj
def ga_I (G : mm_T) : Prop := ag_R (mm_I G 2) (mm_I G 61) 24 0 9 ∧ ag_R (mm_I G 3) (mm_I G 62) 4 0 99
def gf_I (G : mm_T) : Prop := mm_I G 35 6 = mm_I G 60 36 ∧ mm_I G 35 7 = mm_I G 60 37
def gt_I (G : mm_T) (z : Nat) : Prop := (mm_I G 33 1 = z ∧ mm_I G 60 35 = z ∧ z ≤ 500) ∧ ∀ k, k < z → mm_I G 34 k = mm_I G 87 k
theorem ga_0 {G : mm_T} (h : nz_P G) : ga_I (n2_G G) := by
  have z := n2_z h
  have e : ∀ a j, a ≠ 35 → a ≠ 60 → mm_I (n2_G G) a j = 0 := fun a j h1 h2 => (z a j).elim id (fun y => by omega)
  refine ⟨fun k hk => ?_, fun k hk => ?_⟩
  · rw [e 2 k (by omega) (by omega), e 61 k (by omega) (by omega)]; omega
  · rw [e 3 k (by omega) (by omega), e 62 k (by omega) (by omega)]; omega
theorem n2_0 {G : mm_T} (h : nz_P G) {a j : Nat} (h1 : ¬ (a = 35 ∧ j = 7)) (h2 : ¬ (a = 60 ∧ j = 37)) : mm_I (n2_G G) a j = 0 := (n2_z h a j).elim id (fun y => y.elim (fun z => absurd z h1) (fun z => absurd z h2))
theorem gf_0 {G : mm_T} (h : nz_P G) : gf_I (n2_G G) := ⟨by rw [n2_0 h (by omega) (by omega), n2_0 h (by omega) (by omega)], by rw [(n2_7 G).1, (n2_7 G).2]⟩
theorem gt_0 {G : mm_T} (h : nz_P G) : gt_I (n2_G G) 0 := ⟨⟨n2_0 h (by omega) (by omega), n2_0 h (by omega) (by omega), by omega⟩, fun k hk => absurd hk (Nat.not_lt_zero k)⟩
/-- bands: how many of each kind, and the three numbers of each -/
def gb_I (G : mm_T) : Prop := ag_R (mm_I G 8) (mm_I G 91) 3 0 4 ∧ ∀ k, k < 12 → mm_I G 9 k = mm_I G 92 k ∧ mm_I G 10 k = mm_I G 93 k ∧ mm_I G 11 k = mm_I G 94 k
theorem gb_0 {G : mm_T} (h : nz_P G) : gb_I (n2_G G) := by
  refine ⟨fun k hk => ?_, fun k hk => ?_⟩
  · rw [n2_0 h (by omega) (by omega), n2_0 h (by omega) (by omega)]; omega
  · rw [n2_0 h (by omega) (by omega), n2_0 h (by omega) (by omega), n2_0 h (by omega) (by omega), n2_0 h (by omega) (by omega), n2_0 h (by omega) (by omega), n2_0 h (by omega) (by omega)]; exact ⟨rfl, rfl, rfl⟩
