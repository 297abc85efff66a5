/-! ===== what the reading machine keeps ===== -/
def bn_w : List Int → Nat
  | [] => 0
  | w :: t => (if w = 40 ∨ w = 48 then 0 else 1) + bn_w t
theorem bn_l : ∀ W : List Int, W.length = bn_w W + dp_n W := by
  intro W
  induction W with
  | nil => rfl
  | cons w t ih => rw [List.length_cons, bn_w, dp_n, ih]; split <;> omega
theorem bn_a : ∀ (Q W : List Int), bn_w (Q ++ W) = bn_w Q + bn_w W := by
  intro Q
  induction Q with
  | nil => intro W; simp [bn_w]
  | cons w t ih => intro W; rw [List.cons_append, bn_w, bn_w, ih]; omega
def wq_R : List Int → Nat → Nat → Prop
  | [], h, h' => h' = h
  | z :: t, h, h' => ((0 ≤ z ∨ (-18 ≤ z ∧ z ≤ -9)) ∧ h < 80 ∧ wq_R t (h + 1) h') ∨ (z = -8 ∧ 1 ≤ h ∧ wq_R t h h') ∨ (wf_b z ∧ 2 ≤ h ∧ wq_R t (h - 1) h')
theorem wq_a : ∀ (a b : List Int) (h h1 h2 : Nat), wq_R a h h1 → wq_R b h1 h2 → wq_R (a ++ b) h h2 := by
  intro a
  induction a with
  | nil => intro b h h1 h2 q1 q2; have q1 : h1 = h := q1; subst q1; exact q2
  | cons z t ih =>
    intro b h h1 h2 q1 q2
    rcases q1 with ⟨x1, x2, x3⟩ | ⟨x1, x2, x3⟩ | ⟨x1, x2, x3⟩
    · exact Or.inl ⟨x1, x2, ih b _ _ _ x3 q2⟩
    · exact Or.inr (Or.inl ⟨x1, x2, ih b _ _ _ x3 q2⟩)
    · exact Or.inr (Or.inr ⟨x1, x2, ih b _ _ _ x3 q2⟩)
theorem wq_ops : ∀ (Q : List Int) (c : Nat), (∀ x ∈ Q, 40 ≤ x ∧ x ≤ 47) → wq_R (Q.map oi_v) (bn_w Q + c + 1) (c + 1) := by
  intro Q
  induction Q with
  | nil => intro c _; show c + 1 = 0 + c + 1; omega
  | cons w t ih =>
    intro c h
    have hw := h w List.mem_cons_self
    have i1 := ih c (fun x hx => h x (List.mem_cons_of_mem _ hx))
    rw [List.map_cons, bn_w]
    by_cases e : w = 40
    · rw [if_pos (Or.inl e)]
      refine Or.inr (Or.inl ⟨by rw [e]; rfl, by omega, ?_⟩)
      rw [show 0 + bn_w t + c + 1 = bn_w t + c + 1 by omega]; exact i1
    · rw [if_neg (by omega)]
      refine Or.inr (Or.inr ⟨?_, by omega, ?_⟩)
      · have hw8 : w = 41 ∨ w = 42 ∨ w = 43 ∨ w = 44 ∨ w = 45 ∨ w = 46 ∨ w = 47 := by omega
        unfold wf_b
        rcases hw8 with rfl | rfl | rfl | rfl | rfl | rfl | rfl <;> decide
      · rw [show 1 + bn_w t + c + 1 - 1 = bn_w t + c + 1 by omega]; exact i1
theorem wq_p {f : Nat → Int} : ∀ (l : List Int) (a h : Nat), (∀ k, k < l.length → f (a + k) = l.getD k 0) → wq_R l h 1 → wf_p f l.length a h := by
  intro l
  induction l with
  | nil => intro a h _ q; have q : 1 = h := q; exact q.symm
  | cons z t ih =>
    intro a h hf q
    have e0 : f a = z := by have := hf 0 (by simp); simpa using this
    have ht : ∀ k, k < t.length → f (a + 1 + k) = t.getD k 0 := fun k hk => by
      have := hf (k + 1) (by simp; omega)
      rw [show a + 1 + k = a + (k + 1) by omega, this]; simp
    rw [List.length_cons, wf_p, e0]
    rcases q with ⟨x1, x2, x3⟩ | ⟨x1, x2, x3⟩ | ⟨x1, x2, x3⟩
    · exact Or.inl ⟨x1, x2, ih _ _ ht x3⟩
    · exact Or.inr (Or.inl ⟨x1, x2, ih _ _ ht x3⟩)
    · exact Or.inr (Or.inr ⟨x1, x2, ih _ _ ht x3⟩)
theorem pp_sx (l : Int) : ∀ (W o : List Int), ∃ Q, W = Q ++ (pp_s l W o).1 ∧ (pp_s l W o).2 = o ++ Q.map oi_v ∧ (∀ x ∈ Q, x ≠ 48) ∧ ((pp_s l W o).1 = [] ∨ ∃ w t, (pp_s l W o).1 = w :: t ∧ ¬ (w ≠ 48 ∧ l ≤ w)) := by
  intro W
  induction W with
  | nil => intro o; exact ⟨[], rfl, by simp [pp_s], fun x hx => (by cases hx), Or.inl rfl⟩
  | cons w t ih =>
    intro o
    rw [pp_s]
    by_cases h : w ≠ 48 ∧ l ≤ w
    · rw [if_pos h]
      obtain ⟨Q, h1, h2, h3, h4⟩ := ih (o ++ [oi_v w])
      refine ⟨w :: Q, by rw [List.cons_append, ← h1], by rw [h2]; simp, fun x hx => ?_, h4⟩
      rcases List.mem_cons.mp hx with rfl | hx
      · exact h.1
      · exact h3 x hx
    · rw [if_neg h]
      exact ⟨[], rfl, by simp, fun x hx => (by cases hx), Or.inr ⟨w, t, rfl, h⟩⟩
theorem pp_ox (a : Int) : ∀ (W o : List Int), ∃ Q, W = Q ++ (pp_o a W o).1 ∧ (pp_o a W o).2 = o ++ Q.map oi_v ∧ (∀ x ∈ Q, x ≠ 48) := by
  intro W
  induction W with
  | nil => intro o; exact ⟨[], rfl, by simp [pp_o], fun x hx => (by cases hx)⟩
  | cons w t ih =>
    intro o
    rw [pp_o]
    by_cases h : w ≠ 48 ∧ (a = 0 ∨ w ≠ 41)
    · rw [if_pos h]
      obtain ⟨Q, h1, h2, h3⟩ := ih (o ++ [oi_v w])
      refine ⟨w :: Q, by rw [List.cons_append, ← h1], by rw [h2]; simp, fun x hx => ?_⟩
      rcases List.mem_cons.mp hx with rfl | hx
      · exact h.1
      · exact h3 x hx
    · rw [if_neg h]
      exact ⟨[], rfl, by simp, fun x hx => (by cases hx)⟩
/-- what holds of the machine all along -/
def jo_I (n v0 : Nat) (o0 : List Int) (now i v : Nat) (W o : List Int) : Prop := (now = 0 ∨ now = 1 ∨ now = 2) ∧ wz_I W ∧ (dp_n W ≤ 8 ∧ (now ≠ 0 → dp_n W ≤ 7)) ∧ (∃ e h, o = o0 ++ e ∧ wq_R e 0 h ∧ h = bn_w W + (if now = 2 then 1 else 0) ∧ h + v0 ≤ v) ∧ v ≤ 80 ∧ i ≤ n ∧ o.length + W.length ≤ i
def jv_I (n v0 : Nat) (o0 : List Int) : px_T → Prop
  | .inl _ => True
  | .inr (now, i, v, W, o) => jo_I n v0 o0 now i v W o
def tk_E (K : Nat → Int) (n : Nat) : Prop := (K n = 300 ∨ K n = 301) ∧ ∀ k, k < n → K k ≠ 300 ∧ K k ≠ 301
theorem tk_lt {K : Nat → Int} {n i : Nat} (h : tk_E K n) (hi : i ≤ n) (hk : K i ≠ 300 ∧ K i ≠ 301) : i < n := by
  have := h.1
  by_cases e : i = n
  · rw [e] at hk; omega
  · omega
theorem jo_len {n v0 now i v : Nat} {o0 W o : List Int} (h : jo_I n v0 o0 now i v W o) : W.length ≤ 88 := by
  obtain ⟨h1, h2, h3, ⟨e, hh, h4, h5, h6, h7⟩, h8, -⟩ := h
  have := bn_l W
  omega
/-- popping keeps it -/
theorem jo_q {n v0 i v : Nat} {o0 W o Q : List Int} (h : jo_I n v0 o0 2 i v (Q ++ W) o) (hQ : ∀ x ∈ Q, x ≠ 48) : jo_I n v0 o0 2 i v W (o ++ Q.map oi_v) := by
  obtain ⟨h1, h2, ⟨h3, h3'⟩, ⟨e, hh, h4, h5, h6, h7⟩, h8, h9, h10⟩ := h
  have hz : ∀ x ∈ Q, 40 ≤ x ∧ x ≤ 47 := fun x hx => by have := h2 x (List.mem_append_left _ hx); have := hQ x hx; omega
  rw [bn_a, if_pos rfl] at h6
  rw [dp_a] at h3 h3'
  rw [List.length_append] at h10
  refine ⟨h1, fun x hx => h2 x (List.mem_append_right _ hx), ⟨by omega, fun q => by have := h3' q; omega⟩, ⟨e ++ Q.map oi_v, bn_w W + 1, by rw [h4, List.append_assoc], wq_a _ _ _ _ _ h5 ?_, by rw [if_pos rfl], by omega⟩, h8, h9, by rw [List.length_append, List.length_map]; omega⟩
  rw [h6, Nat.add_assoc]
  exact wq_ops Q (bn_w W) hz
theorem jv_g {K P : Nat → Int} {n v0 i v : Nat} {o0 W o : List Int} (hK : tk_E K n) (h : jo_I n v0 o0 2 i v W o) : jv_I n v0 o0 (px_g K P i v W o) := by
  have push : ∀ (W' o' : List Int) (w : Int) (now : Nat), (now = 0 ∨ now = 1) → K i ≠ 300 ∧ K i ≠ 301 → (41 ≤ w ∧ w ≤ 47) → jo_I n v0 o0 2 i v W' o' → jo_I n v0 o0 now (i + 1) v (w :: W') o' := by
    intro W' o' w now hn hk hw h
    obtain ⟨h1, h2, ⟨h3, h3'⟩, ⟨e, hh, h4, h5, h6, h7⟩, h8, h9, h10⟩ := h
    have := tk_lt hK h9 hk
    rw [if_pos rfl] at h6
    refine ⟨by omega, fun x hx => ?_, ⟨by rw [dp_n, if_neg (by omega)]; omega, fun _ => by rw [dp_n, if_neg (by omega)]; have := h3' (by omega); omega⟩, ⟨e, hh, h4, h5, ?_, h7⟩, h8, by omega, by rw [List.length_cons]; omega⟩
    · rcases List.mem_cons.mp hx with rfl | hx
      · omega
      · exact h2 x hx
    · rw [bn_w, if_neg (by omega), if_neg (by omega)]; omega
  unfold px_g
  obtain ⟨Q, q1, q2, q3, -⟩ := pp_sx 46 W o
  obtain ⟨Q2, r1, r2, r3⟩ := pp_ox (if K i = 6 then 1 else 0) W o
  obtain ⟨Q3, s1, s2, s3, s4⟩ := pp_sx 0 W o
  have hs : jo_I n v0 o0 2 i v (pp_s 46 W o).1 (pp_s 46 W o).2 := by rw [q2]; exact jo_q (by rw [← q1]; exact h) q3
  have ho : jo_I n v0 o0 2 i v (pp_o (if K i = 6 then 1 else 0) W o).1 (pp_o (if K i = 6 then 1 else 0) W o).2 := by rw [r2]; exact jo_q (by rw [← r1]; exact h) r3
  have hs0 : jo_I n v0 o0 2 i v (pp_s 0 W o).1 (pp_s 0 W o).2 := by rw [s2]; exact jo_q (by rw [← s1]; exact h) s3
  by_cases c1 : K i = 43 ∨ K i = 45
  · rw [if_pos c1]; exact push _ _ _ 1 (Or.inr rfl) (by omega) (by split <;> omega) hs
  · rw [if_neg c1]
    by_cases c2 : K i = 61 ∨ K i = 60 ∨ K i = 62
    · rw [if_pos c2]
      split
      · trivial
      · exact push _ _ _ 1 (Or.inr rfl) (by omega) (by have := cm_r (K i); omega) hs
    · rw [if_neg c2]
      by_cases c3 : K i = 6 ∨ K i = 5
      · rw [if_pos c3]; exact push _ _ _ 0 (Or.inl rfl) (by omega) (by split <;> omega) ho
      · rw [if_neg c3]
        by_cases c4 : K i = 41 ∧ 48 ∈ W
        · rw [if_pos c4]
          have hlt := tk_lt hK h.2.2.2.2.2.1 (by omega)
          rcases s4 with s4 | ⟨w, t, s4, s5⟩
          · exfalso
            have := c4.2
            rw [s1, s4, List.append_nil] at this
            exact s3 48 this rfl
          · have hz := hs0.2.1
            rw [s4] at hz
            have hw := (wz_c hz).1
            have w48 : w = 48 := by omega
            subst w48
            rw [s4] at hs0 ⊢
            obtain ⟨h1, h2, ⟨h3, h3'⟩, ⟨e, hh, h4, h5, h6, h7⟩, h8, h9, h10⟩ := hs0
            rw [dp_n, if_pos (Or.inr rfl)] at h3 h3'
            rw [bn_w, if_pos (Or.inr rfl)] at h6
            rw [List.length_cons] at h10
            exact ⟨h1, (wz_c h2).2, ⟨by show dp_n t ≤ 8; omega, fun q => by have := h3' q; show dp_n t ≤ 7; omega⟩, ⟨e, hh, h4, h5, by show hh = bn_w t + _; omega, h7⟩, h8, by omega, by show _ + t.length ≤ _; omega⟩
        · rw [if_neg c4]; trivial
theorem jv_d {K P N : Nat → Int} {n v0 now i v : Nat} {o0 W o : List Int} (hK : tk_E K n) (hN : ∀ k, k ≤ n → 0 ≤ N k) (hn : now ≠ 2) (h : jo_I n v0 o0 now i v W o) : jv_I n v0 o0 (px_d K P N now i v W o) := by
  obtain ⟨h1, h2, ⟨h3, h3'⟩, ⟨e, hh, h4, h5, h6, h7⟩, h8, h9, h10⟩ := h
  rw [if_neg hn] at h6
  have push : ∀ w : Int, (w = 40 ∨ w = 48) → ¬ (now = 0 ∧ 8 ≤ dp_n W) → K i ≠ 300 ∧ K i ≠ 301 → jo_I n v0 o0 0 (i + 1) v (w :: W) o := by
    intro w hw hd hk
    have := tk_lt hK h9 hk
    refine ⟨Or.inl rfl, fun x hx => ?_, ⟨by rw [dp_n, if_pos (by omega)]; by_cases q : now = 0; omega; have := h3' q; omega, fun q => absurd rfl q⟩, ⟨e, hh, h4, h5, ?_, h7⟩, h8, by omega, by rw [List.length_cons]; omega⟩
    · rcases List.mem_cons.mp hx with rfl | hx
      · omega
      · exact h2 x hx
    · rw [bn_w, if_pos (by omega), if_neg (by omega)]; omega
  unfold px_d
  by_cases c1 : now = 0 ∧ 8 ≤ dp_n W
  · rw [if_pos c1]; trivial
  · rw [if_neg c1]
    by_cases c2 : K i = 302 ∨ (8 ≤ K i ∧ K i ≤ 17) ∨ K i = 303
    · rw [if_pos c2]
      by_cases c3 : v = 80
      · rw [if_pos c3]; trivial
      · rw [if_neg c3]
        by_cases c4 : K i = 303
        · rw [if_pos c4]; trivial
        · rw [if_neg c4]
          have hlt := tk_lt hK h9 (by omega)
          have hNi := hN i h9
          refine ⟨by omega, h2, ⟨h3, fun _ => ?_⟩, ⟨e ++ [if K i = 302 then N i else -1 - K i], hh + 1, by rw [h4, List.append_assoc], wq_a _ _ _ _ _ h5 (Or.inl ⟨?_, by omega, rfl⟩), by rw [if_pos rfl]; omega, by omega⟩, by omega, by omega, by rw [List.length_append]; simp; omega⟩
          · by_cases q : now = 0
            · omega
            · exact h3' q
          · split <;> omega
    · rw [if_neg c2]
      by_cases c5 : K i = 40
      · rw [if_pos c5]; exact push 48 (Or.inr rfl) c1 (by omega)
      · rw [if_neg c5]
        by_cases c6 : now = 0 ∧ K i = 7
        · rw [if_pos c6]; exact push 40 (Or.inl rfl) c1 (by omega)
        · rw [if_neg c6]; trivial
theorem jv_n {K P N : Nat → Int} {n v0 : Nat} {o0 : List Int} (hK : tk_E K n) (hN : ∀ k, k ≤ n → 0 ≤ N k) : ∀ s, jv_I n v0 o0 s → jv_I n v0 o0 (px_n K P N s) := by
  intro s h
  rcases s with f | ⟨now, i, v, W, o⟩
  · trivial
  · show jv_I n v0 o0 (if now = 2 ∧ K i = 1 ∧ ¬ 48 ∈ W then .inr (now, i, v, W, o) else if now = 2 then px_g K P i v W o else px_d K P N now i v W o)
    split
    · exact h
    · split
      · next q => subst q; exact jv_g hK h
      · next q => exact jv_d hK hN q h
theorem jv_r {K P N : Nat → Int} {n v0 : Nat} {o0 : List Int} (hK : tk_E K n) (hN : ∀ k, k ≤ n → 0 ≤ N k) {s t : px_T} (h : jv_I n v0 o0 s) (hr : rc_R K P N s t) : jv_I n v0 o0 t := by
  obtain ⟨m, rfl⟩ := hr
  induction m generalizing s with
  | zero => exact h
  | succ m ih => exact ih (jv_n hK hN s h)
theorem jo_0 {n v i : Nat} {o : List Int} (hv : v ≤ 80) (hi : i ≤ n) (ho : o.length ≤ i) : jo_I n v o 0 i v [] o := ⟨Or.inl rfl, fun x hx => (by cases hx), ⟨by simp [dp_n], fun q => absurd rfl q⟩, ⟨[], 0, by simp, rfl, rfl, by omega⟩, hv, hi, by simpa using ho⟩
/-- an e that is read adds a line that can be worked out -/
theorem e_wq {K P N : Nat → Int} {n i v i' v' : Nat} {o o' : List Int} (hK : tk_E K n) (hN : ∀ k, k ≤ n → 0 ≤ N k) (hv : v ≤ 80) (hi : i ≤ n) (ho : o.length ≤ i) (h : s_or K P N 0 i v o i' v' o') : ∃ e, o' = o ++ e ∧ wq_R e 0 1 ∧ i' ≤ n ∧ v' ≤ 80 ∧ o'.length ≤ i' := by
  obtain ⟨Q, o2, h1, h2, h3, -⟩ := h.2 [] rfl (Or.inl rfl)
  have hj0 : jv_I n v o (.inr (0, i, v, [], o)) := jo_0 hv hi ho
  have hj : jo_I n v o 2 i' v' (Q ++ []) o2 := jv_r hK hN hj0 h1
  have hj2 : jo_I n v o 2 i' v' [] (o2 ++ Q.map oi_v) := jo_q hj (fun x hx => by have := h3 x hx; omega)
  rw [h2] at hj2
  obtain ⟨-, -, -, ⟨e, hh, h4, h5, h6, h7⟩, h8, h9, h10⟩ := hj2
  refine ⟨e, h4, ?_, h9, h8, by simpa using h10⟩
  rw [h6] at h5; exact h5
