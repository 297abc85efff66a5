/-! ===== a day over all wheels: the reference ===== -/
def me4 (G : mm_T) (f : Nat → Int) (le : Nat → Nat) (dd : Nat → Int) (L k : Nat) : Int × (Int × Int × Int) := day4 (mm_I G 66 k) (mm_I G 60 0 - mm_I G 71 k) (mm_I G 68 k) (mm_I G 61 (mm_I G 67 k).toNat) (mm_I G 62 ((mm_I G 67 k).toNat / 6)) ((mm_I G 67 k).toNat : Int) (mm_I G 60 0) (mm_I G 69 k) (mm_I G 70 k) (mm_I G 72 k) f le dd L
def me_F (G G1 : mm_T) (f : Nat → Int) (le : Nat → Nat) (dd : Nat → Int) (L n : Nat) : Prop := (mm_R G1 = mm_R G ∧ mm_J G1 = mm_J G ∧ mm_A G1 = mm_A G) ∧ (∀ b i, b ≠ 89 → b ≠ 90 → ¬ (i < n ∧ 0 ≤ mm_I G 67 i ∧ (b = 68 ∨ b = 69 ∨ b = 70 ∨ b = 72)) → mm_I G1 b i = mm_I G b i) ∧ ∀ k, k < n → 0 ≤ mm_I G 67 k → mm_I G1 68 k = (me4 G f le dd L k).1 ∧ mm_I G1 69 k = (me4 G f le dd L k).2.1 ∧ mm_I G1 70 k = (me4 G f le dd L k).2.2.1 ∧ mm_I G1 72 k = (me4 G f le dd L k).2.2.2
theorem me_no {G G1 : mm_T} {f : Nat → Int} {le : Nat → Nat} {dd : Nat → Int} {L n : Nat} (h : me_F G G1 f le dd L n) (hn : ¬ 0 ≤ mm_I G 67 n) : me_F G G1 f le dd L (n + 1) := by
  obtain ⟨h1, h2, h3⟩ := h
  refine ⟨h1, fun b i b1 b2 b3 => h2 b i b1 b2 (fun z => b3 ⟨by omega, z.2⟩), fun k hk hl => ?_⟩
  by_cases e : k = n
  · rw [e] at hl; exact absurd hl hn
  · exact h3 k (by omega) hl
theorem me_rd {G G1 : mm_T} {f : Nat → Int} {le : Nat → Nat} {dd : Nat → Int} {L n : Nat} (h : me_F G G1 f le dd L n) {b : Nat} (b1 : b ≠ 89) (b2 : b ≠ 90) : mm_I G1 b n = mm_I G b n := h.2.1 _ _ b1 b2 (fun z => by omega)
theorem me_lo {G G1 : mm_T} {f : Nat → Int} {le : Nat → Nat} {dd : Nat → Int} {L n b : Nat} (h : me_F G G1 f le dd L n) (b1 : b ≠ 89) (b2 : b ≠ 90) (b3 : b ≠ 68 ∧ b ≠ 69 ∧ b ≠ 70 ∧ b ≠ 72) : mm_I G1 b = mm_I G b := funext fun i => h.2.1 _ _ b1 b2 (fun z => by omega)
theorem me_4 {G G1 : mm_T} {f : Nat → Int} {le : Nat → Nat} {dd : Nat → Int} {L n : Nat} (h : me_F G G1 f le dd L n) : me4 G1 f le dd L n = me4 G f le dd L n := by
  unfold me4
  rw [me_rd h (b := 68) (by omega) (by omega), me_rd h (b := 69) (by omega) (by omega), me_rd h (b := 70) (by omega) (by omega), me_rd h (b := 72) (by omega) (by omega), me_lo h (b := 66) (by omega) (by omega) (by omega), me_lo h (b := 60) (by omega) (by omega) (by omega), me_lo h (b := 71) (by omega) (by omega) (by omega), me_lo h (b := 61) (by omega) (by omega) (by omega), me_lo h (b := 62) (by omega) (by omega) (by omega), me_lo h (b := 67) (by omega) (by omega) (by omega)]
theorem me_yes {G G1 G2 : mm_T} {f : Nat → Int} {le : Nat → Nat} {dd : Nat → Int} {L n : Nat} (h : me_F G G1 f le dd L n) (hn : 0 ≤ mm_I G 67 n) (hq : mq_F G1 G2 n (me4 G1 f le dd L n).1 (me4 G1 f le dd L n).2) : me_F G G2 f le dd L (n + 1) := by
  rw [me_4 h] at hq
  obtain ⟨h1, h2, h3⟩ := h
  obtain ⟨q1, q2, q6, q7, q8, q9⟩ := hq
  refine ⟨⟨q1.1.trans h1.1, q1.2.1.trans h1.2.1, q1.2.2.trans h1.2.2⟩, fun b i b1 b2 b4 => ?_, fun k hk hl => ?_⟩
  · rw [q2 b i b1 b2 (fun z => b4 ⟨by omega, by rw [z.1]; exact hn, z.2⟩)]
    exact h2 b i b1 b2 (fun z => b4 ⟨by omega, z.2⟩)
  · by_cases e : k = n
    · subst e; exact ⟨q6, q7, q8, q9⟩
    · obtain ⟨a6, a7, a8, a9⟩ := h3 k (by omega) hl
      have o : ∀ b, b ≠ 89 → b ≠ 90 → mm_I G2 b k = mm_I G1 b k := fun b b1 b2 => q2 _ _ b1 b2 (by omega)
      exact ⟨(o 68 (by omega) (by omega)).trans a6, (o 69 (by omega) (by omega)).trans a7, (o 70 (by omega) (by omega)).trans a8, (o 72 (by omega) (by omega)).trans a9⟩
