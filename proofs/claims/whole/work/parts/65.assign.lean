/-! ===== the best plan: sums, certificates ===== -/
def sm_f (f : Nat → Int) : Nat → Int
  | 0 => 0
  | n + 1 => sm_f f n + f n
def cn_f (a : Nat → Nat) (s : Nat) : Nat → Nat
  | 0 => 0
  | n + 1 => cn_f a s n + if a n = s then 1 else 0
theorem sm_le {f g : Nat → Int} : ∀ n, (∀ k, k < n → f k ≤ g k) → sm_f f n ≤ sm_f g n := by
  intro n
  induction n with
  | zero => intro _; exact Int.le_refl _
  | succ n ih => intro h; rw [sm_f, sm_f]; have := ih (fun k hk => h k (by omega)); have := h n (by omega); omega
theorem sm_cg {f g : Nat → Int} : ∀ n, (∀ k, k < n → f k = g k) → sm_f f n = sm_f g n := by
  intro n
  induction n with
  | zero => intro _; rfl
  | succ n ih => intro h; rw [sm_f, sm_f, ih (fun k hk => h k (by omega)), h n (by omega)]
theorem sm_ad (f g : Nat → Int) : ∀ n, sm_f (fun k => f k + g k) n = sm_f f n + sm_f g n := by
  intro n
  induction n with
  | zero => rfl
  | succ n ih => rw [sm_f, sm_f, sm_f, ih]; omega
theorem sm_one (y : Nat → Int) (a : Nat) : ∀ m, sm_f (fun s => if a = s then y s else 0) m = if a < m then y a else 0 := by
  intro m
  induction m with
  | zero => rfl
  | succ m ih =>
    rw [sm_f, ih]
    by_cases h : a = m
    · subst h; rw [if_neg (by omega), if_pos rfl, if_pos (by omega)]; omega
    · rw [if_neg h]
      by_cases h2 : a < m
      · rw [if_pos h2, if_pos (by omega)]; omega
      · rw [if_neg h2, if_neg (by omega)]; omega
theorem sm_z : ∀ m, sm_f (fun _ => 0) m = 0 := by
  intro m
  induction m with
  | zero => rfl
  | succ m ih => rw [sm_f, ih]; rfl
theorem sm_sw {a : Nat → Nat} {m : Nat} (y : Nat → Int) : ∀ n, (∀ k, k < n → a k < m) → sm_f (fun k => y (a k)) n = sm_f (fun s => y s * (cn_f a s n : Nat)) m := by
  intro n
  induction n with
  | zero => intro _; rw [sm_f]; rw [sm_cg (g := fun _ => 0) m (fun k _ => by show y k * ((0 : Nat) : Int) = 0; simp), sm_z]
  | succ n ih =>
    intro h
    rw [sm_f, ih (fun k hk => h k (by omega))]
    have e : sm_f (fun s => y s * (cn_f a s (n + 1) : Nat)) m = sm_f (fun s => y s * (cn_f a s n : Nat) + if a n = s then y s else 0) m := by
      refine sm_cg m (fun s _ => ?_)
      rw [cn_f]
      by_cases q : a n = s
      · rw [if_pos q, if_pos q, show ((cn_f a s n + 1 : Nat) : Int) = (cn_f a s n : Nat) + 1 by omega, Int.mul_add, Int.mul_one]
      · rw [if_neg q, if_neg q]; simp
    rw [e, sm_ad, sm_one, if_pos (h n (by omega))]
/-- prices: none, or within bounds -/
def pc_P (p : Nat → Nat → Int) (n : Nat) : Prop := ∀ k s, k < n → s < 24 → p k s = 4611686018427387904 ∨ (0 ≤ p k s ∧ p k s ≤ 4184623143714816)
def as_F (p : Nat → Nat → Int) (r : Nat → Int) (a : Nat → Nat) (n : Nat) : Prop := (∀ k, k < n → a k < 24 ∧ p k (a k) ≠ 4611686018427387904) ∧ ∀ s, s < 24 → (cn_f a s n : Int) ≤ r s
def as_Y (p : Nat → Nat → Int) (r : Nat → Int) (a : Nat → Nat) (n : Nat) (y : Nat → Int) : Prop := (∀ s, s < 24 → 0 ≤ y s ∧ y s ≤ 945724830479548416 * n) ∧ (∀ s, s < 24 → (cn_f a s n : Int) < r s → y s = 0) ∧ ∀ k s, k < n → s < 24 → p k s ≠ 4611686018427387904 → p k (a k) + y (a k) ≤ p k s + y s
theorem as_best {p : Nat → Nat → Int} {r : Nat → Int} {a b : Nat → Nat} {n : Nat} {y : Nat → Int} (ha : as_F p r a n) (hy : as_Y p r a n y) (hb : as_F p r b n) : sm_f (fun k => p k (a k)) n ≤ sm_f (fun k => p k (b k)) n := by
  have h1 : sm_f (fun k => p k (a k) + y (a k)) n ≤ sm_f (fun k => p k (b k) + y (b k)) n := sm_le n (fun k hk => hy.2.2 k (b k) hk (hb.1 k hk).1 (hb.1 k hk).2)
  rw [sm_ad, sm_ad, sm_sw y n (fun k hk => (ha.1 k hk).1), sm_sw y n (fun k hk => (hb.1 k hk).1)] at h1
  have h2 : sm_f (fun s => y s * (cn_f b s n : Nat)) 24 ≤ sm_f (fun s => y s * (cn_f a s n : Nat)) 24 := by
    refine sm_le 24 (fun s hs => ?_)
    have y0 := (hy.1 s hs).1
    by_cases q : (cn_f a s n : Int) < r s
    · rw [hy.2.1 s hs q]; simp
    · exact Int.mul_le_mul_of_nonneg_left (by have := hb.2 s hs; have := ha.2 s hs; omega) y0
  omega
/-- no plan -/
theorem as_none {p : Nat → Nat → Int} {r : Nat → Int} {a b : Nat → Nat} {n : Nat} {S : Nat → Int} (ha : as_F p r a n) (hS : ∀ s, S s = 0 ∨ S s = 1) (hf : ∀ s, s < 24 → S s = 1 → (cn_f a s n : Int) = r s) (hc : ∀ k s, k < n → S (a k) = 1 → s < 24 → p k s ≠ 4611686018427387904 → S s = 1) (hn : ∀ s, s < 24 → p n s ≠ 4611686018427387904 → S s = 1) (hb : as_F p r b (n + 1)) : False := by
  have h1 : sm_f (fun k => S (a k)) n + 1 ≤ sm_f (fun k => S (b k)) (n + 1) := by
    rw [sm_f]
    have e := hn (b n) (hb.1 n (by omega)).1 (hb.1 n (by omega)).2
    rw [e]
    have := sm_le (f := fun k => S (a k)) (g := fun k => S (b k)) n (fun k hk => by
      rcases hS (a k) with q | q
      · show S (a k) ≤ S (b k); rcases hS (b k) with q2 | q2 <;> omega
      · have := hc k (b k) hk q (hb.1 k (by omega)).1 (hb.1 k (by omega)).2
        show S (a k) ≤ S (b k); omega)
    omega
  rw [sm_sw S n (fun k hk => (ha.1 k hk).1), sm_sw S (n + 1) (fun k hk => (hb.1 k hk).1)] at h1
  have h2 : sm_f (fun s => S s * (cn_f b s (n + 1) : Nat)) 24 ≤ sm_f (fun s => S s * (cn_f a s n : Nat)) 24 := by
    refine sm_le 24 (fun s hs => ?_)
    rcases hS s with q | q
    · rw [q]; simp
    · rw [q, hf s hs q]; have := hb.2 s hs; omega
  omega
theorem as_sub {p : Nat → Nat → Int} {r : Nat → Int} {b : Nat → Nat} {n m : Nat} (hb : as_F p r b (n + m)) : as_F p r b n := by
  refine ⟨fun k hk => hb.1 k (by omega), fun s hs => ?_⟩
  have h := hb.2 s hs
  have : ∀ m, cn_f b s n ≤ cn_f b s (n + m) := by
    intro m
    induction m with
    | zero => exact Nat.le_refl _
    | succ m ih => rw [← Nat.add_assoc, cn_f]; omega
  have := this m
  omega
/-! ===== the cheapest ways ===== -/
def rx_c (p : Nat → Nat → Int) (a : Nat → Nat) (o s : Nat) (D : Nat → Int) : Prop := D (a o) ≠ 4611686018427387904 ∧ p o s ≠ 4611686018427387904 ∧ D (a o) - p o (a o) + p o s < D s
def bf_B (p : Nat → Nat → Int) (n : Nat) (y : Nat → Int) (D : Nat → Int) (V : Int) : Prop := (∀ s, s < 24 → D s ≤ p n s) ∧ ∀ s, s < 24 → D s = 4611686018427387904 ∨ (D s ≤ V ∧ 0 ≤ D s + y s)
def bf_L (y D : Nat → Int) (T : Nat → Nat) (x s : Nat) : Prop := D x + y x < D s + y s ∨ (D x + y x = D s + y s ∧ T x < T s)
def bf_C (p : Nat → Nat → Int) (a : Nat → Nat) (n : Nat) (y D C : Nat → Int) (T : Nat → Nat) : Prop := ∀ s, s < 24 → D s ≠ 4611686018427387904 → (C s = n ∧ D s = p n s) ∨ ∃ o, o < n ∧ C s = o ∧ D (a o) ≠ 4611686018427387904 ∧ p o s ≠ 4611686018427387904 ∧ D (a o) - p o (a o) + p o s ≤ D s ∧ bf_L y D T (a o) s
def bf_X (p : Nat → Nat → Int) (a : Nat → Nat) (n : Nat) (D : Nat → Int) : Prop := ∀ o s, o < n → s < 24 → D (a o) ≠ 4611686018427387904 → p o s ≠ 4611686018427387904 → D s ≤ D (a o) - p o (a o) + p o s
theorem rx_s {p : Nat → Nat → Int} {r : Nat → Int} {a : Nat → Nat} {n o s : Nat} {y D C : Nat → Int} {T : Nat → Nat} {c : Nat} {V : Int} (hp : pc_P p n) (ha : as_F p r a n) (hy : as_Y p r a n y) (ho : o < n) (hs : s < 24) (hx : rx_c p a o s D) (hV : D (a o) + 4184623143714816 ≤ V) (hV9 : V < 4611686018427387904) (hB : bf_B p n y D V) (hT : ∀ x, x < 24 → T x < c) (hC : bf_C p a n y D C T) : bf_B p n y (upp D s (D (a o) - p o (a o) + p o s)) V ∧ (∀ x, x < 24 → upn T s c x < c + 1) ∧ bf_C p a n y (upp D s (D (a o) - p o (a o) + p o s)) (upp C s o) (upn T s c) := by
  obtain ⟨x1, x2, x3⟩ := hx
  obtain ⟨a1, a2⟩ := ha.1 o ho
  have pa := hp o (a o) ho a1
  have ps := hp o s ho hs
  have yc := hy.2.2 o s ho hs x2
  have b1 := hB.2 (a o) a1
  have b2 := hB.2 s hs
  have hne : a o ≠ s := fun e => by rw [e] at x3; omega
  have fin : D (a o) - p o (a o) + p o s ≠ 4611686018427387904 := by omega
  refine ⟨⟨fun x hx => ?_, fun x hx => ?_⟩, fun x hx => ?_, fun x hx hm => ?_⟩
  · unfold upp
    by_cases e : x = s
    · rw [if_pos e, e]; have := hB.1 s hs; omega
    · rw [if_neg e]; exact hB.1 x hx
  · unfold upp
    by_cases e : x = s
    · rw [if_pos e, e]; right; omega
    · rw [if_neg e]; exact hB.2 x hx
  · unfold upn
    by_cases e : x = s
    · rw [if_pos e]; omega
    · rw [if_neg e]; have := hT x hx; omega
  · by_cases e : x = s
    · subst e
      right
      refine ⟨o, ho, by unfold upp; rw [if_pos rfl], ?_, x2, ?_, ?_⟩
      · unfold upp; rw [if_neg hne]; exact x1
      · unfold upp; rw [if_neg hne, if_pos rfl]; omega
      · unfold bf_L upp upn
        rw [if_neg hne, if_pos rfl, if_neg hne, if_pos rfl]
        have := hT (a o) a1
        by_cases q : D (a o) + y (a o) < D (a o) - p o (a o) + p o x + y x
        · exact Or.inl q
        · exact Or.inr ⟨by omega, this⟩
    · have hm' : D x ≠ 4611686018427387904 := by unfold upp at hm; rw [if_neg e] at hm; exact hm
      rcases hC x hx hm' with ⟨q1, q2⟩ | ⟨o2, q1, q2, q3, q4, q5, q6⟩
      · left; unfold upp; rw [if_neg e, if_neg e]; exact ⟨q1, q2⟩
      · right
        refine ⟨o2, q1, by unfold upp; rw [if_neg e]; exact q2, ?_, q4, ?_, ?_⟩
        · unfold upp
          by_cases e2 : a o2 = s
          · rw [if_pos e2]; exact fin
          · rw [if_neg e2]; exact q3
        · unfold upp
          rw [if_neg e]
          by_cases e2 : a o2 = s
          · rw [if_pos e2]; rw [e2] at q5; rw [e2]; omega
          · rw [if_neg e2]; exact q5
        · unfold bf_L at q6 ⊢
          unfold upp upn
          rw [if_neg e, if_neg e]
          by_cases e2 : a o2 = s
          · rw [if_pos e2, e2]; rw [e2] at q6; left; omega
          · rw [if_neg e2, if_neg e2]; exact q6
