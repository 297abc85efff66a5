/-! ===== the cheapest ways: rounds, the chain of changes ===== -/
/-- how many shelves are settled -/
def cs_n (S : Nat → Int) : Nat → Nat
  | 0 => 0
  | m + 1 => cs_n S m + if S m = 1 then 1 else 0
theorem cs_le (S : Nat → Int) : ∀ m, cs_n S m ≤ m := by
  intro m
  induction m with
  | zero => exact Nat.le_refl _
  | succ m ih => rw [cs_n]; split <;> omega
theorem cs_all {S : Nat → Int} : ∀ m, cs_n S m = m → ∀ s, s < m → S s = 1 := by
  intro m
  induction m with
  | zero => intro _ s hs; omega
  | succ m ih =>
    intro h s hs
    rw [cs_n] at h
    have := cs_le S m
    by_cases q : S m = 1
    · rw [if_pos q] at h
      by_cases e : s = m
      · rw [e]; exact q
      · exact ih (by omega) s (by omega)
    · rw [if_neg q] at h; omega
theorem cs_up {S : Nat → Int} {u : Nat} (hu : S u ≠ 1) : ∀ m, cs_n (upp S u 1) m = cs_n S m + if u < m then 1 else 0 := by
  intro m
  induction m with
  | zero => rw [if_neg (by omega)]; rfl
  | succ m ih =>
    rw [cs_n, cs_n, ih]
    by_cases e : m = u
    · subst e
      have e2 : upp S m 1 m = 1 := by unfold upp; rw [if_pos rfl]
      rw [if_neg (show ¬ m < m by omega), if_pos e2, if_neg hu, if_pos (show m < m + 1 by omega)]
    · have e2 : upp S u 1 m = S m := by unfold upp; rw [if_neg e]
      rw [e2]
      by_cases q : u < m
      · rw [if_pos q, if_pos (show u < m + 1 by omega)]; omega
      · rw [if_neg q, if_neg (show ¬ u < m + 1 by omega)]; omega
/-- the least one that is not settled -/
theorem cs_min {S f : Nat → Int} : ∀ m, cs_n S m < m → ∃ u, u < m ∧ S u ≠ 1 ∧ ∀ x, x < m → S x ≠ 1 → f u ≤ f x := by
  intro m
  induction m with
  | zero => intro h; omega
  | succ m ih =>
    intro h
    rw [cs_n] at h
    by_cases q : S m = 1
    · rw [if_pos q] at h
      obtain ⟨u, u1, u2, u3⟩ := ih (by omega)
      refine ⟨u, by omega, u2, fun x hx hs => ?_⟩
      by_cases e : x = m
      · rw [e] at hs; exact absurd q hs
      · exact u3 x (by omega) hs
    · by_cases hl : cs_n S m < m
      · obtain ⟨u, u1, u2, u3⟩ := ih hl
        by_cases c : f u ≤ f m
        · refine ⟨u, by omega, u2, fun x hx hs => ?_⟩
          by_cases e : x = m
          · rw [e]; exact c
          · exact u3 x (by omega) hs
        · refine ⟨m, by omega, q, fun x hx hs => ?_⟩
          by_cases e : x = m
          · rw [e]; exact Int.le_refl _
          · have := u3 x (by omega) hs; omega
      · have all := cs_all (S := S) m (by have := cs_le S m; omega)
        refine ⟨m, by omega, q, fun x hx hs => ?_⟩
        by_cases e : x = m
        · rw [e]; exact Int.le_refl _
        · exact absurd (all x (by omega)) hs
/-- what is settled, between rounds -/
def st_I (p : Nat → Nat → Int) (a : Nat → Nat) (n : Nat) (y D S : Nat → Int) : Prop := (∀ s x, s < 24 → x < 24 → S s = 1 → S x ≠ 1 → D s + y s ≤ D x + y x) ∧ ∀ o s, o < n → s < 24 → S (a o) = 1 → D (a o) ≠ 4611686018427387904 → p o s ≠ 4611686018427387904 → D s ≤ D (a o) - p o (a o) + p o s
/-- within a round: u is the next to be settled; the rows before o are through, of o the shelves before t -/
def rd_I (p : Nat → Nat → Int) (a : Nat → Nat) (n : Nat) (y D0 S : Nat → Int) (u o t : Nat) (D : Nat → Int) : Prop := D u = D0 u ∧ (∀ s, s < 24 → S s = 1 → D s = D0 s) ∧ (∀ s, s < 24 → S s = 1 → D s + y s ≤ D u + y u) ∧ (∀ x, x < 24 → S x ≠ 1 → D u + y u ≤ D x + y x) ∧ (∀ o s, o < n → s < 24 → S (a o) = 1 → D (a o) ≠ 4611686018427387904 → p o s ≠ 4611686018427387904 → D s ≤ D (a o) - p o (a o) + p o s) ∧ ∀ o' s, (o' < o ∨ (o' = o ∧ s < t)) → o' < n → s < 24 → a o' = u → D u ≠ 4611686018427387904 → p o' s ≠ 4611686018427387904 → D s ≤ D u - p o' u + p o' s
theorem rd_0 {p : Nat → Nat → Int} {a : Nat → Nat} {n : Nat} {y D S : Nat → Int} {u : Nat} (h : st_I p a n y D S) (hu : u < 24) (hS : S u ≠ 1) (hm : ∀ x, x < 24 → S x ≠ 1 → D u + y u ≤ D x + y x) : rd_I p a n y D S u 0 0 D :=
  ⟨rfl, fun _ _ _ => rfl, fun s hs q => h.1 s u hs hu q hS, hm, h.2, fun o' s q => by omega⟩
theorem rd_n {p : Nat → Nat → Int} {a : Nat → Nat} {n : Nat} {y D0 S D : Nat → Int} {u o t : Nat} (h : rd_I p a n y D0 S u o t D) (hx : ¬ rx_c p a o t D) : rd_I p a n y D0 S u o (t + 1) D := by
  obtain ⟨h1, h2, h3, h4, h5, h6⟩ := h
  refine ⟨h1, h2, h3, h4, h5, fun o' s q q1 q2 q3 q4 q5 => ?_⟩
  by_cases e : o' = o ∧ s = t
  · obtain ⟨rfl, rfl⟩ := e
    have : ¬ (D (a o') - p o' (a o') + p o' s < D s) := fun z => hx ⟨by rw [q3]; exact q4, q5, z⟩
    rw [q3] at this; omega
  · exact h6 o' s (by omega) q1 q2 q3 q4 q5
theorem rd_c {p : Nat → Nat → Int} {r : Nat → Int} {a : Nat → Nat} {n : Nat} {y D0 S D : Nat → Int} {u o t : Nat} (hu : u < 24) (hSu : S u ≠ 1) (ha : as_F p r a n) (hy : as_Y p r a n y) (ho : o < n) (ht : t < 24) (h : rd_I p a n y D0 S u o t D) (hx : rx_c p a o t D) : rd_I p a n y D0 S u o (t + 1) (upp D t (D (a o) - p o (a o) + p o t)) := by
  obtain ⟨h1, h2, h3, h4, h5, h6⟩ := h
  obtain ⟨x1, x2, x3⟩ := hx
  obtain ⟨a1, a2⟩ := ha.1 o ho
  have yc := hy.2.2 o t ho ht x2
  have hSo : S (a o) ≠ 1 := fun q => by have := h5 o t ho ht q x1 x2; omega
  have hge := h4 (a o) a1 hSo
  have hSt : S t ≠ 1 := fun q => by have := h3 t ht q; omega
  have htu : t ≠ u := fun e => by rw [e] at x3 yc; omega
  have hne : a o ≠ t := fun e => by rw [e] at x3; omega
  have eu : upp D t (D (a o) - p o (a o) + p o t) u = D u := by unfold upp; rw [if_neg (fun q => htu q.symm)]
  have le : ∀ x, upp D t (D (a o) - p o (a o) + p o t) x ≤ D x := fun x => by unfold upp; split; (next q => rw [q]; omega); exact Int.le_refl _
  refine ⟨by rw [eu]; exact h1, fun s hs q => ?_, fun s hs q => ?_, fun x hx q => ?_, fun o2 s q1 q2 q3 q4 q5 => ?_, fun o' s q q1 q2 q3 q4 q5 => ?_⟩
  · unfold upp; rw [if_neg (fun e => hSt (by rw [← e]; exact q))]; exact h2 s hs q
  · rw [eu]; have := le s; have := h3 s hs q; omega
  · rw [eu]; unfold upp
    by_cases e : x = t
    · rw [if_pos e, e]; omega
    · rw [if_neg e]; exact h4 x hx q
  · have en : a o2 ≠ t := fun e => hSt (by rw [← e]; exact q3)
    have e2 : upp D t (D (a o) - p o (a o) + p o t) (a o2) = D (a o2) := by unfold upp; rw [if_neg en]
    rw [e2] at q4 ⊢
    have := h5 o2 s q1 q2 q3 q4 q5; have := le s; omega
  · rw [eu] at q4 ⊢
    by_cases e : o' = o ∧ s = t
    · obtain ⟨rfl, rfl⟩ := e
      unfold upp; rw [if_pos rfl, q3]; omega
    · have := h6 o' s (by omega) q1 q2 q3 q4 q5; have := le s; omega
theorem rd_o {p : Nat → Nat → Int} {a : Nat → Nat} {n : Nat} {y D0 S D : Nat → Int} {u o : Nat} (h : rd_I p a n y D0 S u o 24 D) : rd_I p a n y D0 S u (o + 1) 0 D := by
  obtain ⟨h1, h2, h3, h4, h5, h6⟩ := h
  exact ⟨h1, h2, h3, h4, h5, fun o' s q q1 q2 q3 q4 q5 => h6 o' s (by omega) q1 q2 q3 q4 q5⟩
theorem rd_e {p : Nat → Nat → Int} {a : Nat → Nat} {n : Nat} {y D0 S D : Nat → Int} {u : Nat} (hu : u < 24) (h : rd_I p a n y D0 S u n 0 D) : st_I p a n y D (upp S u 1) := by
  obtain ⟨h1, h2, h3, h4, h5, h6⟩ := h
  refine ⟨fun s x hs hx q1 q2 => ?_, fun o s ho hs q1 q2 q3 => ?_⟩
  · unfold upp at q1 q2
    by_cases e2 : x = u
    · rw [if_pos e2] at q2; exact absurd rfl q2
    · rw [if_neg e2] at q2
      have := h4 x hx q2
      by_cases e : s = u
      · rw [e]; exact this
      · rw [if_neg e] at q1; have := h3 s hs q1; omega
  · unfold upp at q1
    by_cases e : a o = u
    · rw [e] at q2 ⊢; exact h6 o s (by omega) ho hs e q2 q3
    · rw [if_neg e] at q1; exact h5 o s ho hs q1 q2 q3
theorem st_x {p : Nat → Nat → Int} {r : Nat → Int} {a : Nat → Nat} {n : Nat} {y D S : Nat → Int} (ha : as_F p r a n) (h : st_I p a n y D S) (hc : cs_n S 24 = 24) : bf_X p a n D := fun o s ho hs q1 q2 => h.2 o s ho hs (cs_all 24 hc (a o) (ha.1 o ho).1) q1 q2
/-- how many rows lie below -/
def rk_n (a : Nat → Nat) (y D : Nat → Int) (T : Nat → Nat) (s : Nat) : Nat → Nat
  | 0 => 0
  | n + 1 => rk_n a y D T s n + if D (a n) + y (a n) < D s + y s ∨ (D (a n) + y (a n) = D s + y s ∧ T (a n) < T s) then 1 else 0
theorem rk_le (a : Nat → Nat) (y D : Nat → Int) (T : Nat → Nat) (s : Nat) : ∀ n, rk_n a y D T s n ≤ n := by
  intro n
  induction n with
  | zero => exact Nat.le_refl _
  | succ n ih => rw [rk_n]; split <;> omega
theorem bf_tr {y D : Nat → Int} {T : Nat → Nat} {x s t : Nat} (h1 : bf_L y D T x s) (h2 : bf_L y D T s t) : bf_L y D T x t := by unfold bf_L at *; omega
theorem bf_ir {y D : Nat → Int} {T : Nat → Nat} {x : Nat} : ¬ bf_L y D T x x := by unfold bf_L; omega
theorem rk_lt {a : Nat → Nat} {y D : Nat → Int} {T : Nat → Nat} {s : Nat} : ∀ n o, o < n → bf_L y D T (a o) s → rk_n a y D T (a o) n < rk_n a y D T s n := by
  intro n
  induction n with
  | zero => intro o ho; omega
  | succ n ih =>
    intro o ho h
    rw [rk_n, rk_n]
    have mono : ∀ m, rk_n a y D T (a o) m ≤ rk_n a y D T s m := by
      intro m
      induction m with
      | zero => exact Nat.le_refl _
      | succ m ihm =>
        rw [rk_n, rk_n]
        by_cases q : bf_L y D T (a m) (a o)
        · have q2 := bf_tr q h
          unfold bf_L at q q2
          rw [if_pos q, if_pos q2]; omega
        · unfold bf_L at q
          rw [if_neg q]; split <;> omega
    by_cases e : o = n
    · subst e
      have i1 := bf_ir (y := y) (D := D) (T := T) (x := a o)
      unfold bf_L at i1 h
      rw [if_neg i1, if_pos h]
      have := mono o; omega
    · have := ih o (by omega) h
      by_cases q : bf_L y D T (a n) (a o)
      · have q2 := bf_tr q h
        unfold bf_L at q q2
        rw [if_pos q, if_pos q2]; omega
      · unfold bf_L at q
        rw [if_neg q]; split <;> omega
