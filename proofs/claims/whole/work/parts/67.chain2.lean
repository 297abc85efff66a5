/-! ===== the chain of changes keeps the plan best ===== -/
theorem cn_u {a : Nat → Nat} {o s x : Nat} : ∀ n, o < n → cn_f (upn a o s) x n + (if x = a o then 1 else 0) = cn_f a x n + (if x = s then 1 else 0) := by
  intro n
  induction n with
  | zero => intro h; omega
  | succ n ih =>
    intro h
    rw [cn_f, cn_f]
    by_cases e : o = n
    · subst e
      have e2 : ∀ m, m ≤ o → cn_f (upn a o s) x m = cn_f a x m := by
        intro m
        induction m with
        | zero => intro _; rfl
        | succ m ihm => intro hm; have e3 : upn a o s m = a m := (by unfold upn; rw [if_neg (by omega)]); rw [cn_f, cn_f, ihm (by omega), e3]
      rw [e2 o (Nat.le_refl _)]
      have e3 : upn a o s o = s := by unfold upn; rw [if_pos rfl]
      rw [e3]
      by_cases q1 : s = x
      · by_cases q2 : a o = x
        · rw [if_pos q1, if_pos q2, if_pos q2.symm, if_pos q1.symm]
        · rw [if_pos q1, if_neg q2, if_neg (fun z => q2 z.symm), if_pos q1.symm]
      · by_cases q2 : a o = x
        · rw [if_neg q1, if_pos q2, if_pos q2.symm, if_neg (fun z => q1 z.symm)]
        · rw [if_neg q1, if_neg q2, if_neg (fun z => q2 z.symm), if_neg (fun z => q1 z.symm)]
    · have i1 := ih (by omega)
      have e3 : upn a o s n = a n := by unfold upn; rw [if_neg (by omega)]
      rw [e3]; omega
theorem cn_o {a : Nat → Nat} {o s x : Nat} : ∀ n, n ≤ o → cn_f (upn a o s) x n = cn_f a x n := by
  intro n
  induction n with
  | zero => intro _; rfl
  | succ n ih => intro h; have e3 : upn a o s n = a n := (by unfold upn; rw [if_neg (by omega)]); rw [cn_f, cn_f, ih (by omega), e3]
def ch_M (p : Nat → Nat → Int) (a : Nat → Nat) (y D : Nat → Int) (Dt : Int) (o x : Nat) : Prop := x < 24 ∧ p o x ≠ 4611686018427387904 ∧ D x ≠ 4611686018427387904 ∧ D (a o) ≠ 4611686018427387904 ∧ D x = D (a o) - p o (a o) + p o x ∧ y x + D x ≤ Dt
def ch_I (p : Nat → Nat → Int) (a : Nat → Nat) (n : Nat) (y D : Nat → Int) (T : Nat → Nat) (t : Nat) (Dt : Int) (a1 : Nat → Nat) (s : Nat) : Prop := s < 24 ∧ D s ≠ 4611686018427387904 ∧ y s + D s ≤ Dt ∧ (∀ o, o < n → a1 o = a o ∨ (ch_M p a y D Dt o (a1 o) ∧ ¬ bf_L y D T (a o) s)) ∧ ∀ x, cn_f a1 x n + (if x = s then 1 else 0) = cn_f a x n + (if x = t then 1 else 0)
theorem ch_s {p : Nat → Nat → Int} {r : Nat → Int} {a : Nat → Nat} {n : Nat} {y D : Nat → Int} {T : Nat → Nat} {t : Nat} {Dt : Int} {a1 : Nat → Nat} {s o : Nat} (ha : as_F p r a n) (hy : as_Y p r a n y) (hX : bf_X p a n D) (h : ch_I p a n y D T t Dt a1 s) (ho : o < n) (h1 : D (a o) ≠ 4611686018427387904) (h2 : p o s ≠ 4611686018427387904) (h3 : D (a o) - p o (a o) + p o s ≤ D s) (h4 : bf_L y D T (a o) s) : a1 o = a o ∧ ch_I p a n y D T t Dt (upn a1 o s) (a o) := by
  obtain ⟨c1, c2, c3, c4, c5⟩ := h
  have e0 : a1 o = a o := by
    rcases c4 o ho with q | ⟨-, q⟩
    · exact q
    · exact absurd h4 q
  have hx := hX o s ho c1 h1 h2
  have yc := hy.2.2 o s ho c1 h2
  refine ⟨e0, (ha.1 o ho).1, h1, by omega, fun o2 ho2 => ?_, fun x => ?_⟩
  · by_cases e : o2 = o
    · subst e
      right
      have e3 : upn a1 o2 s o2 = s := by unfold upn; rw [if_pos rfl]
      rw [e3]
      exact ⟨⟨c1, h2, c2, h1, by omega, c3⟩, bf_ir⟩
    · have e3 : upn a1 o s o2 = a1 o2 := by unfold upn; rw [if_neg e]
      rw [e3]
      rcases c4 o2 ho2 with q | ⟨q1, q2⟩
      · exact Or.inl q
      · exact Or.inr ⟨q1, fun z => q2 (bf_tr z h4)⟩
  · have := cn_u (a := a1) (o := o) (s := s) (x := x) n ho
    rw [e0] at this
    have := c5 x
    omega
/-- the new certificate -/
def yn_v (y D : Nat → Int) (Dt : Int) (x : Nat) : Int := if D x = 4611686018427387904 then y x else max (y x) (Dt - D x)
theorem ch_e {p : Nat → Nat → Int} {r : Nat → Int} {a : Nat → Nat} {n : Nat} {y D : Nat → Int} {T : Nat → Nat} {t : Nat} {a1 : Nat → Nat} {s : Nat} {V : Int} (hp : pc_P p (n + 1)) (ha : as_F p r a n) (hy : as_Y p r a n y) (hX : bf_X p a n D) (hB : bf_B p n y D V) (hV : V ≤ 945724830479548416) (ht : t < 24) (htM : D t ≠ 4611686018427387904) (hr : (cn_f a t n : Int) < r t) (hmin : ∀ x, x < 24 → (cn_f a x n : Int) < r x → D x ≠ 4611686018427387904 → D t ≤ D x) (h : ch_I p a n y D T t (D t) a1 s) (hs : D s = p n s) : as_F p r (upn a1 n s) (n + 1) ∧ as_Y p r (upn a1 n s) (n + 1) (yn_v y D (D t)) := by
  obtain ⟨c1, c2, c3, c4, c5⟩ := h
  have an : upn a1 n s n = s := by unfold upn; rw [if_pos rfl]
  have ak : ∀ k, k < n → upn a1 n s k = a1 k := fun k hk => by unfold upn; rw [if_neg (by omega)]
  have cnt : ∀ x, cn_f (upn a1 n s) x (n + 1) = cn_f a x n + (if x = t then 1 else 0) := by
    intro x
    rw [cn_f, cn_o n (Nat.le_refl _), an, ← c5 x]
    by_cases q : s = x
    · rw [if_pos q, if_pos q.symm]
    · rw [if_neg q, if_neg (fun z => q z.symm)]
  have hpn : p n s ≠ 4611686018427387904 := by rw [← hs]; exact c2
  have dtV : D t ≤ V := by rcases hB.2 t ht with q | q; exact absurd q htM; exact q.1
  have base : ∀ k x, k < n → x < 24 → p k x ≠ 4611686018427387904 → p k (a k) + yn_v y D (D t) (a k) ≤ p k x + yn_v y D (D t) x := by
    intro k x hk hx hpx
    obtain ⟨ak1, ak2⟩ := ha.1 k hk
    have yc := hy.2.2 k x hk hx hpx
    have pk := hp k x (by omega) hx
    have pk2 := hp k (a k) (by omega) ak1
    unfold yn_v
    by_cases q : D (a k) = 4611686018427387904
    · rw [if_pos q]
      by_cases q2 : D x = 4611686018427387904
      · rw [if_pos q2]; exact yc
      · rw [if_neg q2]; omega
    · rw [if_neg q]
      have fx := hX k x hk hx q hpx
      have b1 := hB.2 (a k) ak1
      have q2 : D x ≠ 4611686018427387904 := by omega
      rw [if_neg q2]; omega
  refine ⟨⟨fun k hk => ?_, fun x hx => ?_⟩, fun x hx => ?_, fun x hx hc => ?_, fun k x hk hx hpx => ?_⟩
  · by_cases e : k = n
    · rw [e, an]; exact ⟨c1, hpn⟩
    · rw [ak k (by omega)]
      rcases c4 k (by omega) with q | ⟨q, -⟩
      · rw [q]; exact ha.1 k (by omega)
      · exact ⟨q.1, q.2.1⟩
  · rw [cnt x]
    have := ha.2 x hx
    by_cases e : x = t
    · rw [if_pos e, e]; omega
    · rw [if_neg e]; omega
  · have y1 := hy.1 x hx
    have b1 := hB.2 x hx
    unfold yn_v
    split
    · omega
    · next q => rcases b1 with b1 | b1; exact absurd b1 q; omega
  · rw [cnt x] at hc
    have hc2 : (cn_f a x n : Int) < r x := by omega
    have y0 := hy.2.1 x hx hc2
    unfold yn_v
    split
    · exact y0
    · next q => have := hmin x hx hc2 q; omega
  · by_cases e : k = n
    · subst e
      rw [an]
      have b0 := hB.1 x hx
      have pk := hp k x (by omega) hx
      have q2 : D x ≠ 4611686018427387904 := by omega
      unfold yn_v
      rw [if_neg c2, if_neg q2]; omega
    · have hk' : k < n := by omega
      have bs := base k x hk' hx hpx
      rw [ak k hk']
      rcases c4 k hk' with q | ⟨⟨q1, q2, q3, q4, q5, q6⟩, -⟩
      · rw [q]; exact bs
      · have : p k (a1 k) + yn_v y D (D t) (a1 k) ≤ p k (a k) + yn_v y D (D t) (a k) := by
          unfold yn_v
          rw [if_neg q3, if_neg q4]; omega
        omega
