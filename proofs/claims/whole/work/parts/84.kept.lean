/-! ===== what either keeps of a plan ===== -/
def inc_P (gw : Nat → Nat) (n : Nat) : Prop := ∀ j k, j < k → k < n → gw j < gw k
theorem inc_d {gw : Nat → Nat} {n : Nat} (h : inc_P gw n) {j k : Nat} (hj : j < n) (hk : k < n) (e : j ≠ k) : gw j ≠ gw k := by
  by_cases z : j < k
  · have := h j k z hk; omega
  · have := h k j (by omega) hj; omega
theorem kp_at {gw a : Nat → Nat} : ∀ n, inc_P gw n → ∀ k, k < n → kp_v gw a n (gw k) = (a k : Nat) := by
  intro n
  induction n with
  | zero => intro _ k hk; omega
  | succ n ih =>
    intro h k hk
    rw [kp_v]
    unfold upp
    by_cases e : k = n
    · rw [e, if_pos rfl]
    · rw [if_neg (inc_d h (by omega) (by omega) e)]
      exact ih (fun i j i1 i2 => h i j i1 (by omega)) k (by omega)
theorem kp_no {gw a : Nat → Nat} {w : Nat} : ∀ n, (∀ k, k < n → gw k ≠ w) → kp_v gw a n w = -1 := by
  intro n
  induction n with
  | zero => intro _; rfl
  | succ n ih =>
    intro h
    rw [kp_v]
    unfold upp
    rw [if_neg (fun z => h n (by omega) z.symm)]
    exact ih (fun k hk => h k (by omega))
theorem pl_no {w : Int} : ∀ n (wh sh : Nat → Int), (∀ k, k < n → wh k ≠ w) → pl_look wh sh w n = -1 := by
  intro n
  induction n with
  | zero => intro wh sh _; rfl
  | succ n ih =>
    intro wh sh h
    rw [pl_look, if_neg (h 0 (by omega))]
    exact ih _ _ (fun k hk => h (k + 1) (by omega))
theorem pl_at {w : Int} : ∀ n (wh sh : Nat → Int) k, k < n → wh k = w → (∀ j, j < k → wh j ≠ w) → pl_look wh sh w n = sh k := by
  intro n
  induction n with
  | zero => intro wh sh k hk; omega
  | succ n ih =>
    intro wh sh k hk h1 h2
    rw [pl_look]
    by_cases e : k = 0
    · subst e; rw [if_pos h1]
    · rw [if_neg (h2 0 (by omega))]
      obtain ⟨j, rfl⟩ : ∃ j, k = j + 1 := ⟨k - 1, by omega⟩
      exact ih (fun k => wh (k + 1)) (fun k => sh (k + 1)) j (by omega) h1 (fun i hi => h2 (i + 1) (by omega))
/-- what the reference tells of wheel w -/
theorem pl_kp {G : mm_T} {gw a : Nat → Nat} {n : Nat} (h : inc_P gw n) (h1 : ∀ k, k < n → mm_I G 96 k = (gw k : Nat) ∧ mm_I G 97 k = (a k : Nat)) (w : Nat) : pl_look (mm_I G 96) (mm_I G 97) (w : Int) n = kp_v gw a n w := by
  by_cases e : ∃ k, k < n ∧ gw k = w
  · obtain ⟨k, hk, ek⟩ := e
    rw [← ek, kp_at n h k hk, pl_at n (mm_I G 96) (mm_I G 97) k hk (h1 k hk).1 (fun j hj => by
      rw [(h1 j (by omega)).1]; have := h j k hj hk; omega)]
    exact (h1 k hk).2
  · rw [kp_no n (fun k hk z => e ⟨k, hk, z⟩), pl_no n _ _ (fun k hk z => e ⟨k, hk, by rw [(h1 k hk).1] at z; omega⟩)]
theorem pl_out {G : mm_T} {gw a : Nat → Nat} {n : Nat} {w : Int} (h1 : ∀ k, k < n → mm_I G 96 k = (gw k : Nat) ∧ mm_I G 97 k = (a k : Nat)) (h2 : ∀ k, k < n → gw k < 40) (hw : ¬ (0 ≤ w ∧ w ≤ 39)) : pl_look (mm_I G 96) (mm_I G 97) w n = -1 := by
  apply pl_no
  intro k hk
  rw [(h1 k hk).1]
  have := h2 k hk
  omega
theorem mv_i {G : mm_T} {gw : Nat → Nat} {n wc : Nat} (h : inc_P gw n) (hk : ∀ w, w < wc → ((mm_I G (300 + w) 4 ≠ -1 ∧ mm_I G 32 w ≠ -1) ↔ ∃ k, k < n ∧ gw k = w)) : ∀ w, w ≤ wc → mv_n G w ≤ n ∧ (∀ j, j < mv_n G w → gw j < w) ∧ ∀ j, mv_n G w ≤ j → j < n → w ≤ gw j := by
  intro w
  induction w with
  | zero => intro _; rw [mv_n]; exact ⟨by omega, fun j hj => by omega, fun j _ _ => by omega⟩
  | succ w ih =>
    intro hw
    obtain ⟨i1, i2, i3⟩ := ih (by omega)
    rw [mv_n]
    generalize mv_n G w = i at *
    by_cases e : ∃ k, k < n ∧ gw k = w
    · rw [if_pos ((hk w (by omega)).mpr e)]
      obtain ⟨k, k1, k2⟩ := e
      have ei : k = i := by
        by_cases z : k < i
        · have := i2 k z; omega
        · by_cases z2 : k = i
          · exact z2
          · have := i3 i (by omega) (by omega); have := h i k (by omega) k1; omega
      subst ei
      refine ⟨by omega, fun j hj => ?_, fun j j1 j2 => ?_⟩
      · by_cases z : j = k
        · rw [z]; omega
        · have := i2 j (by omega); omega
      · have := h k j (by omega) j2; omega
    · rw [if_neg (fun z => e ((hk w (by omega)).mp z))]
      refine ⟨by omega, fun j hj => ?_, fun j j1 j2 => ?_⟩
      · have := i2 j (by omega); omega
      · have := i3 j (by omega) j2
        by_cases z : gw j = w
        · exact absurd ⟨j, j2, z⟩ e
        · omega
theorem mv_at {G : mm_T} {gw : Nat → Nat} {n wc : Nat} (h : inc_P gw n) (hk : ∀ w, w < wc → ((mm_I G (300 + w) 4 ≠ -1 ∧ mm_I G 32 w ≠ -1) ↔ ∃ k, k < n ∧ gw k = w)) {k : Nat} (hn : k < n) (hw : gw k < wc) : mv_n G (gw k) = k := by
  obtain ⟨i1, i2, i3⟩ := mv_i h hk (gw k) (by omega)
  by_cases z : k < mv_n G (gw k)
  · have := i2 k z; omega
  · by_cases z2 : mv_n G (gw k) = k
    · exact z2
    · have := i3 (mv_n G (gw k)) (by omega) (by omega); have := h (mv_n G (gw k)) k (by omega) hn; omega
theorem mv_all {G : mm_T} {gw : Nat → Nat} {n wc : Nat} (h : inc_P gw n) (hk : ∀ w, w < wc → ((mm_I G (300 + w) 4 ≠ -1 ∧ mm_I G 32 w ≠ -1) ↔ ∃ k, k < n ∧ gw k = w)) (hw : ∀ k, k < n → gw k < wc) : mv_n G wc = n := by
  obtain ⟨i1, i2, i3⟩ := mv_i h hk wc (by omega)
  by_cases z : mv_n G wc = n
  · exact z
  · have := i3 (mv_n G wc) (by omega) (by omega); have := hw (mv_n G wc) (by omega); omega
