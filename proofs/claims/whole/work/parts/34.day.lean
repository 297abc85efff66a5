/-! ===== a day over all wheels ===== -/
def day4 (kd ag ri ai da sh td mo we si : Int) (f : Nat → Int) (le : Nat → Nat) (dd : Nat → Int) (L : Nat) : Int × (Int × Int × Int) := (wn_v (ri + rp_v kd ai da), (wn_v ((dy_v (nv_v kd ag ri ai da sh td) kd f le dd (mo, we, si) L).1 + da / 20 + (dy_v (nv_v kd ag ri ai da sh td) kd f le dd (mo, we, si) L).2.2 / 3), wn_v ((dy_v (nv_v kd ag ri ai da sh td) kd f le dd (mo, we, si) L).2.1 - ai), (dy_v (nv_v kd ag ri ai da sh td) kd f le dd (mo, we, si) L).2.2 + 1))
def xd4 (G : mm_T) (f : Nat → Int) (le : Nat → Nat) (dd : Nat → Int) (L k : Nat) : Int × (Int × Int × Int) := day4 (mm_I G (300 + k) 1) (mm_I G 0 15 - mm_I G (300 + k) 2) (mm_I G (300 + k) 6) (mm_I G 2 (mm_I G (300 + k) 4).toNat) (mm_I G 3 (mm_I G (300 + k) 4 / 6).toNat) (mm_I G (300 + k) 4) (mm_I G 0 15) (mm_I G (300 + k) 7) (mm_I G (300 + k) 8) (mm_I G (300 + k) 9) f le dd L
def xd_F_a (G G1 : mm_T) (f : Nat → Int) (le : Nat → Nat) (dd : Nat → Int) (L n : Nat) : Prop := (mm_R G1 = mm_R G ∧ mm_J G1 = mm_J G ∧ mm_A G1 = mm_A G) ∧ (∀ b i, b ≠ 46 → b ≠ 47 → ¬ (b = 42 ∧ i = 7) → ¬ (∃ k, k < n ∧ b = 300 + k ∧ mm_I G (300 + k) 4 ≠ -1 ∧ (i = 6 ∨ i = 7 ∨ i = 8 ∨ i = 9)) → mm_I G1 b i = mm_I G b i) ∧ ∀ k, k < n → mm_I G (300 + k) 4 ≠ -1 → mm_I G1 (300 + k) 6 = (xd4 G f le dd L k).1 ∧ mm_I G1 (300 + k) 7 = (xd4 G f le dd L k).2.1 ∧ mm_I G1 (300 + k) 8 = (xd4 G f le dd L k).2.2.1 ∧ mm_I G1 (300 + k) 9 = (xd4 G f le dd L k).2.2.2
theorem xd_no_a {G G1 : mm_T} {f : Nat → Int} {le : Nat → Nat} {dd : Nat → Int} {L n : Nat} (h : xd_F_a G G1 f le dd L n) (hn : mm_I G (300 + n) 4 = -1) : xd_F_a G G1 f le dd L (n + 1) := by
  obtain ⟨h1, h2, h3⟩ := h
  refine ⟨h1, fun b i b1 b2 b3 b4 => h2 b i b1 b2 b3 (fun ⟨k, k1, k2, k3⟩ => b4 ⟨k, by omega, k2, k3⟩), fun k hk hl => ?_⟩
  by_cases e : k = n
  · rw [e] at hl; exact absurd hn hl
  · exact h3 k (by omega) hl
theorem xd_rd_a {G G1 : mm_T} {f : Nat → Int} {le : Nat → Nat} {dd : Nat → Int} {L n : Nat} (h : xd_F_a G G1 f le dd L n) (i : Nat) : mm_I G1 (300 + n) i = mm_I G (300 + n) i := h.2.1 _ _ (by omega) (by omega) (by omega) (fun ⟨k, k1, k2, _⟩ => by omega)
theorem xd_lo_a {G G1 : mm_T} {f : Nat → Int} {le : Nat → Nat} {dd : Nat → Int} {L n b : Nat} (h : xd_F_a G G1 f le dd L n) (hb : b < 300) (b1 : b ≠ 46) (b2 : b ≠ 47) (b3 : b ≠ 42) : mm_I G1 b = mm_I G b := funext fun i => h.2.1 _ _ b1 b2 (fun z => b3 z.1) (fun ⟨k, k1, k2, _⟩ => by omega)
theorem xd_4_a {G G1 : mm_T} {f : Nat → Int} {le : Nat → Nat} {dd : Nat → Int} {L n : Nat} (h : xd_F_a G G1 f le dd L n) : xd4 G1 f le dd L n = xd4 G f le dd L n := by
  unfold xd4
  rw [xd_rd_a h, xd_rd_a h, xd_rd_a h, xd_rd_a h, xd_rd_a h, xd_rd_a h, xd_rd_a h, xd_lo_a h (b := 0) (by omega) (by omega) (by omega) (by omega), xd_lo_a h (b := 2) (by omega) (by omega) (by omega) (by omega), xd_lo_a h (b := 3) (by omega) (by omega) (by omega) (by omega)]
theorem xd_yes_a {G G1 G2 : mm_T} {f : Nat → Int} {le : Nat → Nat} {dd : Nat → Int} {L n : Nat} (h : xd_F_a G G1 f le dd L n) (hn : mm_I G (300 + n) 4 ≠ -1) (hq : xq_F_a G1 G2 n (xd4 G1 f le dd L n).1 (xd4 G1 f le dd L n).2) : xd_F_a G G2 f le dd L (n + 1) := by
  rw [xd_4_a h] at hq
  obtain ⟨h1, h2, h3⟩ := h
  obtain ⟨q1, q2, q6, q7, q8, q9⟩ := hq
  refine ⟨⟨q1.1.trans h1.1, q1.2.1.trans h1.2.1, q1.2.2.trans h1.2.2⟩, fun b i b1 b2 b3 b4 => ?_, fun k hk hl => ?_⟩
  · rw [q2 b i b1 b2 b3 (fun z => b4 ⟨n, by omega, z.1, hn, z.2⟩)]
    exact h2 b i b1 b2 b3 (fun ⟨k, k1, k2, k3⟩ => b4 ⟨k, by omega, k2, k3⟩)
  · by_cases e : k = n
    · subst e; exact ⟨q6, q7, q8, q9⟩
    · obtain ⟨a6, a7, a8, a9⟩ := h3 k (by omega) hl
      have o : ∀ i, mm_I G2 (300 + k) i = mm_I G1 (300 + k) i := fun i => q2 _ _ (by omega) (by omega) (by omega) (by omega)
      exact ⟨(o 6).trans a6, (o 7).trans a7, (o 8).trans a8, (o 9).trans a9⟩
def xd_F_b (G G1 : mm_T) (f : Nat → Int) (le : Nat → Nat) (dd : Nat → Int) (L n : Nat) : Prop := (mm_R G1 = mm_R G ∧ mm_J G1 = mm_J G ∧ mm_A G1 = mm_A G) ∧ (∀ b i, b ≠ 52 → b ≠ 53 → ¬ (b = 48 ∧ i = 7) → ¬ (∃ k, k < n ∧ b = 300 + k ∧ mm_I G (300 + k) 4 ≠ -1 ∧ (i = 6 ∨ i = 7 ∨ i = 8 ∨ i = 9)) → mm_I G1 b i = mm_I G b i) ∧ ∀ k, k < n → mm_I G (300 + k) 4 ≠ -1 → mm_I G1 (300 + k) 6 = (xd4 G f le dd L k).1 ∧ mm_I G1 (300 + k) 7 = (xd4 G f le dd L k).2.1 ∧ mm_I G1 (300 + k) 8 = (xd4 G f le dd L k).2.2.1 ∧ mm_I G1 (300 + k) 9 = (xd4 G f le dd L k).2.2.2
theorem xd_no_b {G G1 : mm_T} {f : Nat → Int} {le : Nat → Nat} {dd : Nat → Int} {L n : Nat} (h : xd_F_b G G1 f le dd L n) (hn : mm_I G (300 + n) 4 = -1) : xd_F_b G G1 f le dd L (n + 1) := by
  obtain ⟨h1, h2, h3⟩ := h
  refine ⟨h1, fun b i b1 b2 b3 b4 => h2 b i b1 b2 b3 (fun ⟨k, k1, k2, k3⟩ => b4 ⟨k, by omega, k2, k3⟩), fun k hk hl => ?_⟩
  by_cases e : k = n
  · rw [e] at hl; exact absurd hn hl
  · exact h3 k (by omega) hl
theorem xd_rd_b {G G1 : mm_T} {f : Nat → Int} {le : Nat → Nat} {dd : Nat → Int} {L n : Nat} (h : xd_F_b G G1 f le dd L n) (i : Nat) : mm_I G1 (300 + n) i = mm_I G (300 + n) i := h.2.1 _ _ (by omega) (by omega) (by omega) (fun ⟨k, k1, k2, _⟩ => by omega)
theorem xd_lo_b {G G1 : mm_T} {f : Nat → Int} {le : Nat → Nat} {dd : Nat → Int} {L n b : Nat} (h : xd_F_b G G1 f le dd L n) (hb : b < 300) (b1 : b ≠ 52) (b2 : b ≠ 53) (b3 : b ≠ 48) : mm_I G1 b = mm_I G b := funext fun i => h.2.1 _ _ b1 b2 (fun z => b3 z.1) (fun ⟨k, k1, k2, _⟩ => by omega)
theorem xd_4_b {G G1 : mm_T} {f : Nat → Int} {le : Nat → Nat} {dd : Nat → Int} {L n : Nat} (h : xd_F_b G G1 f le dd L n) : xd4 G1 f le dd L n = xd4 G f le dd L n := by
  unfold xd4
  rw [xd_rd_b h, xd_rd_b h, xd_rd_b h, xd_rd_b h, xd_rd_b h, xd_rd_b h, xd_rd_b h, xd_lo_b h (b := 0) (by omega) (by omega) (by omega) (by omega), xd_lo_b h (b := 2) (by omega) (by omega) (by omega) (by omega), xd_lo_b h (b := 3) (by omega) (by omega) (by omega) (by omega)]
theorem xd_yes_b {G G1 G2 : mm_T} {f : Nat → Int} {le : Nat → Nat} {dd : Nat → Int} {L n : Nat} (h : xd_F_b G G1 f le dd L n) (hn : mm_I G (300 + n) 4 ≠ -1) (hq : xq_F_b G1 G2 n (xd4 G1 f le dd L n).1 (xd4 G1 f le dd L n).2) : xd_F_b G G2 f le dd L (n + 1) := by
  rw [xd_4_b h] at hq
  obtain ⟨h1, h2, h3⟩ := h
  obtain ⟨q1, q2, q6, q7, q8, q9⟩ := hq
  refine ⟨⟨q1.1.trans h1.1, q1.2.1.trans h1.2.1, q1.2.2.trans h1.2.2⟩, fun b i b1 b2 b3 b4 => ?_, fun k hk hl => ?_⟩
  · rw [q2 b i b1 b2 b3 (fun z => b4 ⟨n, by omega, z.1, hn, z.2⟩)]
    exact h2 b i b1 b2 b3 (fun ⟨k, k1, k2, k3⟩ => b4 ⟨k, by omega, k2, k3⟩)
  · by_cases e : k = n
    · subst e; exact ⟨q6, q7, q8, q9⟩
    · obtain ⟨a6, a7, a8, a9⟩ := h3 k (by omega) hl
      have o : ∀ i, mm_I G2 (300 + k) i = mm_I G1 (300 + k) i := fun i => q2 _ _ (by omega) (by omega) (by omega) (by omega)
      exact ⟨(o 6).trans a6, (o 7).trans a7, (o 8).trans a8, (o 9).trans a9⟩
