/-! ===== the reference's reading of an e, as a machine by itself ===== -/
abbrev px_O : Type := Nat × Nat × Nat × List Int × List Int
abbrev px_T : Type := (Int × Int) ⊕ px_O
/-- what stands for an operator that waits -/
def oi_v (w : Int) : Int := if w = 40 then -8 else if w = 41 then -6 else if w = 42 then -7 else if w = 43 then -62 else if w = 44 then -61 else if w = 45 then -63 else if w = 46 then -44 else -46
def fq_v (K : Nat → Int) (i : Nat) (k : Int) : Int := if K i = 300 then 1 else k
def pb_v (K P : Nat → Int) (i : Nat) (k : Int) : px_T := .inl (fq_v K i k, P i)
def pp_s (least : Int) : List Int → List Int → List Int × List Int
  | [], o => ([], o)
  | w :: t, o => if w ≠ 48 ∧ least ≤ w then pp_s least t (o ++ [oi_v w]) else (w :: t, o)
def pp_o (a : Int) : List Int → List Int → List Int × List Int
  | [], o => ([], o)
  | w :: t, o => if w ≠ 48 ∧ (a = 0 ∨ w ≠ 41) then pp_o a t (o ++ [oi_v w]) else (w :: t, o)
def dp_n : List Int → Nat
  | [] => 0
  | w :: t => (if w = 40 ∨ w = 48 then 1 else 0) + dp_n t
def px_d (K P N : Nat → Int) (now i v : Nat) (W o : List Int) : px_T :=
  if now = 0 ∧ 8 ≤ dp_n W then pb_v K P i 2
  else if K i = 302 ∨ (8 ≤ K i ∧ K i ≤ 17) ∨ K i = 303 then (if v = 80 then pb_v K P i 2 else if K i = 303 then pb_v K P i 3 else .inr (2, i + 1, v + 1, W, o ++ [if K i = 302 then N i else -1 - K i]))
  else if K i = 40 then .inr (0, i + 1, v, 48 :: W, o)
  else if now = 0 ∧ K i = 7 then .inr (0, i + 1, v, 40 :: W, o)
  else pb_v K P i 2
def cm_v (k : Int) : Int := if k = 61 then 43 else if k = 60 then 44 else 45
def px_g (K P : Nat → Int) (i v : Nat) (W o : List Int) : px_T :=
  if K i = 43 ∨ K i = 45 then .inr (1, i + 1, v, (if K i = 43 then 46 else 47) :: (pp_s 46 W o).1, (pp_s 46 W o).2)
  else if K i = 61 ∨ K i = 60 ∨ K i = 62 then (if 43 ≤ (pp_s 46 W o).1.headD (-1) ∧ (pp_s 46 W o).1.headD (-1) ≤ 45 then pb_v K P i 2 else .inr (1, i + 1, v, cm_v (K i) :: (pp_s 46 W o).1, (pp_s 46 W o).2))
  else if K i = 6 ∨ K i = 5 then .inr (0, i + 1, v, (if K i = 6 then 42 else 41) :: (pp_o (if K i = 6 then 1 else 0) W o).1, (pp_o (if K i = 6 then 1 else 0) W o).2)
  else if K i = 41 ∧ 48 ∈ W then .inr (2, i + 1, v, (pp_s 0 W o).1.tail, (pp_s 0 W o).2)
  else pb_v K P i 2
def px_n (K P N : Nat → Int) : px_T → px_T
  | .inl f => .inl f
  | .inr (now, i, v, W, o) => if now = 2 ∧ K i = 1 ∧ ¬ 48 ∈ W then .inr (now, i, v, W, o) else if now = 2 then px_g K P i v W o else px_d K P N now i v W o
def px_i (K P N : Nat → Int) : Nat → px_T → px_T
  | 0, s => s
  | n + 1, s => px_i K P N n (px_n K P N s)
def rc_R (K P N : Nat → Int) (s t : px_T) : Prop := ∃ n, px_i K P N n s = t
theorem px_ia (K P N : Nat → Int) : ∀ m n s, px_i K P N (m + n) s = px_i K P N n (px_i K P N m s) := by
  intro m
  induction m with
  | zero => intro n s; rw [Nat.zero_add]; rfl
  | succ m ih => intro n s; rw [Nat.add_right_comm, px_i, px_i, ih]
theorem rc_0 {K P N : Nat → Int} (s : px_T) : rc_R K P N s s := ⟨0, rfl⟩
theorem rc_t {K P N : Nat → Int} {s t u : px_T} (h1 : rc_R K P N s t) (h2 : rc_R K P N t u) : rc_R K P N s u := by
  obtain ⟨m, h1⟩ := h1
  obtain ⟨n, h2⟩ := h2
  exact ⟨m + n, by rw [px_ia, h1, h2]⟩
theorem rc_1 {K P N : Nat → Int} {s t : px_T} (h : px_n K P N s = t) : rc_R K P N s t := ⟨1, h⟩
theorem rc_g {K P N : Nat → Int} {i v : Nat} {W o : List Int} {t : px_T} (h : K i ≠ 1 ∨ 48 ∈ W) (e : px_g K P i v W o = t) : rc_R K P N (.inr (2, i, v, W, o)) t := by
  refine rc_1 ?_
  show (if 2 = 2 ∧ K i = 1 ∧ ¬ 48 ∈ W then _ else if 2 = 2 then px_g K P i v W o else _) = _
  rw [if_neg (fun q => by rcases h with h | h; exact h q.2.1; exact q.2.2 h), if_pos rfl]; exact e
theorem rc_d {K P N : Nat → Int} {now i v : Nat} {W o : List Int} {t : px_T} (h : now ≠ 2) (e : px_d K P N now i v W o = t) : rc_R K P N (.inr (now, i, v, W, o)) t := by
  refine rc_1 ?_
  show (if now = 2 ∧ K i = 1 ∧ ¬ 48 ∈ W then _ else if now = 2 then _ else px_d K P N now i v W o) = _
  rw [if_neg (fun q => h q.1), if_neg h]; exact e
/-- popping -/
theorem pp_sa {l : Int} : ∀ (Q W o : List Int), (∀ x ∈ Q, x ≠ 48 ∧ l ≤ x) → pp_s l (Q ++ W) o = pp_s l W (o ++ Q.map oi_v) := by
  intro Q
  induction Q with
  | nil => intro W o _; simp
  | cons w t ih =>
    intro W o h
    rw [List.cons_append, pp_s, if_pos (h w List.mem_cons_self), ih _ _ (fun x hx => h x (List.mem_cons_of_mem _ hx))]
    simp
theorem pp_oa {a : Int} : ∀ (Q W o : List Int), (∀ x ∈ Q, x ≠ 48 ∧ (a = 0 ∨ x ≠ 41)) → pp_o a (Q ++ W) o = pp_o a W (o ++ Q.map oi_v) := by
  intro Q
  induction Q with
  | nil => intro W o _; simp
  | cons w t ih =>
    intro W o h
    rw [List.cons_append, pp_o, if_pos (h w List.mem_cons_self), ih _ _ (fun x hx => h x (List.mem_cons_of_mem _ hx))]
    simp
/-- where a one, a sum, a both, an e may begin -/
def c_one (W : List Int) : Prop := W = [] ∨ ∃ w t, W = w :: t ∧ (w = 40 ∨ w = 41 ∨ w = 42 ∨ w = 48)
def c_sum (W : List Int) : Prop := W = [] ∨ ∃ w t, W = w :: t ∧ (w ≤ 45 ∨ w = 48)
def c_and (W : List Int) : Prop := W = [] ∨ ∃ w t, W = w :: t ∧ (w = 41 ∨ w = 48)
def c_or (W : List Int) : Prop := W = [] ∨ ∃ t, W = 48 :: t
theorem c_os {W : List Int} (h : c_one W) : c_sum W := by
  rcases h with h | ⟨w, t, h, q⟩
  · exact Or.inl h
  · exact Or.inr ⟨w, t, h, by omega⟩
theorem c_ao {W : List Int} (h : c_and W) : c_one W := by
  rcases h with h | ⟨w, t, h, q⟩
  · exact Or.inl h
  · exact Or.inr ⟨w, t, h, by omega⟩
theorem c_oa {W : List Int} (h : c_or W) : c_and W := by
  rcases h with h | ⟨t, h⟩
  · exact Or.inl h
  · exact Or.inr ⟨48, t, h, Or.inr rfl⟩
theorem pp_s6 {W : List Int} (h : c_sum W) (o : List Int) : pp_s 46 W o = (W, o) := by
  rcases h with rfl | ⟨w, t, rfl, q⟩
  · rfl
  · rw [pp_s, if_neg (by omega)]
theorem pp_o1 {W : List Int} (h : c_and W) (o : List Int) : pp_o 1 W o = (W, o) := by
  rcases h with rfl | ⟨w, t, rfl, q⟩
  · rfl
  · rw [pp_o, if_neg (by omega)]
theorem pp_o0 {W : List Int} (h : c_or W) (o : List Int) : pp_o 0 W o = (W, o) := by
  rcases h with rfl | ⟨t, rfl⟩
  · rfl
  · rw [pp_o, if_neg (by omega)]
theorem pp_s0 (t o : List Int) : pp_s 0 (48 :: t) o = (48 :: t, o) := by rw [pp_s, if_neg (by omega)]
theorem dp_a : ∀ (Q W : List Int), dp_n (Q ++ W) = dp_n Q + dp_n W := by
  intro Q
  induction Q with
  | nil => intro W; simp [dp_n]
  | cons w t ih => intro W; rw [List.cons_append, dp_n, dp_n, ih]; omega
/-- the places where a token can't go on -/
def cmp_t (k : Int) : Prop := k = 60 ∨ k = 61 ∨ k = 62
section
variable {K P N : Nat → Int}
/-- a term -/
def s_term (K P N : Nat → Int) (dep i v : Nat) (o : List Int) (i' v' : Nat) (o' : List Int) : Prop := ∀ W now, (now = 0 ∨ now = 1) → dp_n W = dep → rc_R K P N (.inr (now, i, v, W, o)) (.inr (2, i', v', W, o'))
def b_term (K P N : Nat → Int) (dep i v : Nat) (o : List Int) (k p : Int) : Prop := ∀ W now, (now = 0 ∧ K i ≠ 7 ∨ now = 1) → dp_n W = dep → rc_R K P N (.inr (now, i, v, W, o)) (.inl (k, p))
def s_sum (K P N : Nat → Int) (dep i v : Nat) (o : List Int) (i' v' : Nat) (o' : List Int) : Prop := (K i' ≠ 43 ∧ K i' ≠ 45) ∧ ∀ W now, (now = 0 ∨ now = 1) → dp_n W = dep → c_sum W → ∃ Q o2, rc_R K P N (.inr (now, i, v, W, o)) (.inr (2, i', v', Q ++ W, o2)) ∧ o2 ++ Q.map oi_v = o' ∧ (∀ x ∈ Q, x = 46 ∨ x = 47)
def b_sum (K P N : Nat → Int) (dep i v : Nat) (o : List Int) (k p : Int) : Prop := ∀ W now, (now = 0 ∧ K i ≠ 7 ∨ now = 1) → dp_n W = dep → c_sum W → rc_R K P N (.inr (now, i, v, W, o)) (.inl (k, p))
def s_one (K P N : Nat → Int) (dep i v : Nat) (o : List Int) (i' v' : Nat) (o' : List Int) : Prop := (K i' ≠ 43 ∧ K i' ≠ 45) ∧ ∀ W, dp_n W = dep → c_one W → ∃ Q o2, rc_R K P N (.inr (0, i, v, W, o)) (.inr (2, i', v', Q ++ W, o2)) ∧ o2 ++ Q.map oi_v = o' ∧ (∀ x ∈ Q, x = 40 ∨ (43 ≤ x ∧ x ≤ 47)) ∧ (cmp_t (K i') → px_g K P i' v' (Q ++ W) o2 = pb_v K P i' 2)
def b_one (K P N : Nat → Int) (dep i v : Nat) (o : List Int) (k p : Int) : Prop := ∀ W, dp_n W = dep → c_one W → rc_R K P N (.inr (0, i, v, W, o)) (.inl (k, p))
def s_and (K P N : Nat → Int) (dep i v : Nat) (o : List Int) (i' v' : Nat) (o' : List Int) : Prop := (K i' ≠ 43 ∧ K i' ≠ 45 ∧ K i' ≠ 6) ∧ ∀ W, dp_n W = dep → c_and W → ∃ Q o2, rc_R K P N (.inr (0, i, v, W, o)) (.inr (2, i', v', Q ++ W, o2)) ∧ o2 ++ Q.map oi_v = o' ∧ (∀ x ∈ Q, 40 ≤ x ∧ x ≤ 47 ∧ x ≠ 41) ∧ (cmp_t (K i') → px_g K P i' v' (Q ++ W) o2 = pb_v K P i' 2)
def b_and (K P N : Nat → Int) (dep i v : Nat) (o : List Int) (k p : Int) : Prop := ∀ W, dp_n W = dep → c_and W → rc_R K P N (.inr (0, i, v, W, o)) (.inl (k, p))
def s_or (K P N : Nat → Int) (dep i v : Nat) (o : List Int) (i' v' : Nat) (o' : List Int) : Prop := (K i' ≠ 43 ∧ K i' ≠ 45 ∧ K i' ≠ 6 ∧ K i' ≠ 5) ∧ ∀ W, dp_n W = dep → c_or W → ∃ Q o2, rc_R K P N (.inr (0, i, v, W, o)) (.inr (2, i', v', Q ++ W, o2)) ∧ o2 ++ Q.map oi_v = o' ∧ (∀ x ∈ Q, 40 ≤ x ∧ x ≤ 47) ∧ (cmp_t (K i') → px_g K P i' v' (Q ++ W) o2 = pb_v K P i' 2)
def b_or (K P N : Nat → Int) (dep i v : Nat) (o : List Int) (k p : Int) : Prop := ∀ W, dp_n W = dep → c_or W → rc_R K P N (.inr (0, i, v, W, o)) (.inl (k, p))
theorem px_val {now i v : Nat} {W o : List Int} (h0 : now = 0 → dp_n W < 8) (hv : v ≠ 80) (hk : K i = 302 ∨ (8 ≤ K i ∧ K i ≤ 17)) : px_d K P N now i v W o = .inr (2, i + 1, v + 1, W, o ++ [if K i = 302 then N i else -1 - K i]) := by
  unfold px_d
  rw [if_neg (fun q => by have := h0 q.1; omega), if_pos (by omega), if_neg hv, if_neg (by omega)]
/-- a number or a name -/
theorem t_val {dep i v : Nat} {o : List Int} (hd : dep < 8) (hv : v < 80) (hk : K i = 302 ∨ (8 ≤ K i ∧ K i ≤ 17)) : s_term K P N dep i v o (i + 1) (v + 1) (o ++ [if K i = 302 then N i else -1 - K i]) := by
  intro W now hn hW
  exact rc_d (by omega) (px_val (fun _ => by omega) (by omega) hk)
theorem t_bad2 {dep i v : Nat} {o : List Int} (hd : dep < 8) (hk : v = 80 ∧ (K i = 302 ∨ (8 ≤ K i ∧ K i ≤ 17) ∨ K i = 303) ∨ ¬ (K i = 302 ∨ (8 ≤ K i ∧ K i ≤ 17) ∨ K i = 303) ∧ K i ≠ 40) : b_term K P N dep i v o (fq_v K i 2) (P i) := by
  intro W now hn hW
  refine rc_d (by omega) ?_
  unfold px_d
  rw [if_neg (by omega)]
  rcases hk with ⟨h1, h2⟩ | ⟨h1, h2⟩
  · rw [if_pos h2, if_pos h1]; rfl
  · rw [if_neg h1, if_neg h2, if_neg (by omega)]; rfl
theorem t_bad3 {dep i v : Nat} {o : List Int} (hd : dep < 8) (hv : v < 80) (hk : K i = 303) : b_term K P N dep i v o (fq_v K i 3) (P i) := by
  intro W now hn hW
  refine rc_d (by omega) ?_
  unfold px_d
  rw [if_neg (by omega), if_pos (Or.inr (Or.inr hk)), if_neg (by omega), if_pos hk]; rfl
theorem px_opn {now i v : Nat} {W o : List Int} (h0 : now = 0 → dp_n W < 8) (hk : K i = 40) : px_d K P N now i v W o = .inr (0, i + 1, v, 48 :: W, o) := by
  unfold px_d
  rw [if_neg (fun q => by have := h0 q.1; omega), if_neg (by omega), if_pos hk]
/-- ( e ) -/
theorem t_par {dep i v i' v' : Nat} {o o' : List Int} (hd : dep < 8) (hk : K i = 40) (h : s_or K P N (dep + 1) (i + 1) v o i' v' o') (hk' : K i' = 41) : s_term K P N dep i v o (i' + 1) v' o' := by
  intro W now hn hW
  obtain ⟨Q, o2, h1, h2, h3, -⟩ := h.2 (48 :: W) (by rw [dp_n, if_pos (Or.inr rfl)]; omega) (Or.inr ⟨W, rfl⟩)
  refine rc_t (rc_d (by omega) (px_opn (fun _ => by omega) hk)) (rc_t h1 (rc_g (Or.inl (by omega)) ?_))
  unfold px_g
  rw [if_neg (by omega), if_neg (by omega), if_neg (by omega), if_pos ⟨hk', List.mem_append_right _ List.mem_cons_self⟩, pp_sa Q (48 :: W) o2 (fun x hx => by have := h3 x hx; omega), pp_s0, h2]
  rfl
theorem t_parb1 {dep i v : Nat} {o : List Int} {k p : Int} (hd : dep < 8) (hk : K i = 40) (h : b_or K P N (dep + 1) (i + 1) v o k p) : b_term K P N dep i v o k p := by
  intro W now hn hW
  exact rc_t (rc_d (by omega) (px_opn (fun _ => by omega) hk)) (h (48 :: W) (by rw [dp_n, if_pos (Or.inr rfl)]; omega) (Or.inr ⟨W, rfl⟩))
theorem e_bad {i v : Nat} {W Q o2 : List Int} (hk : (K i ≠ 43 ∧ K i ≠ 45 ∧ K i ≠ 6 ∧ K i ≠ 5)) (h4 : cmp_t (K i) → px_g K P i v (Q ++ W) o2 = pb_v K P i 2) (h5 : ¬ (K i = 41 ∧ 48 ∈ Q ++ W)) : px_g K P i v (Q ++ W) o2 = pb_v K P i 2 := by
  by_cases hc : cmp_t (K i)
  · exact h4 hc
  · unfold cmp_t at hc
    unfold px_g
    rw [if_neg (by omega), if_neg (by omega), if_neg (by omega), if_neg h5]
theorem t_parb2 {dep i v i' v' : Nat} {o o' : List Int} (hd : dep < 8) (hk : K i = 40) (h : s_or K P N (dep + 1) (i + 1) v o i' v' o') (hk' : K i' ≠ 41) : b_term K P N dep i v o (fq_v K i' 2) (P i') := by
  intro W now hn hW
  obtain ⟨Q, o2, h1, h2, h3, h4⟩ := h.2 (48 :: W) (by rw [dp_n, if_pos (Or.inr rfl)]; omega) (Or.inr ⟨W, rfl⟩)
  exact rc_t (rc_d (by omega) (px_opn (fun _ => by omega) hk)) (rc_t h1 (rc_g (Or.inr (List.mem_append_right _ List.mem_cons_self)) (e_bad h.1 h4 (fun q => hk' q.1))))
/-- sums: the first j terms are read, a sign waits -/
def m_sum (K P N : Nat → Int) (dep i v : Nat) (o : List Int) (j : Int) (i' v' : Nat) (o' : List Int) : Prop := (j = -1 ∧ i' = i ∧ v' = v ∧ o' = o) ∨ ((j = 43 ∨ j = 45) ∧ ∀ W now, (now = 0 ∨ now = 1) → dp_n W = dep → c_sum W → rc_R K P N (.inr (now, i, v, W, o)) (.inr (1, i', v', (if j = 43 then 46 else 47) :: W, o')))
def aj_v (j : Int) : List Int := if j = -1 then [] else [-1 - j]
theorem su_go {dep i v i1 v1 i2 v2 : Nat} {o o1 o2 : List Int} {j : Int} (h1 : m_sum K P N dep i v o j i1 v1 o1) (h2 : s_term K P N dep i1 v1 o1 i2 v2 o2) (hk : K i2 = 43 ∨ K i2 = 45) : m_sum K P N dep i v o (K i2) (i2 + 1) v2 (o2 ++ aj_v j) := by
  refine Or.inr ⟨hk, fun W now hn hW hc => ?_⟩
  rcases h1 with ⟨rfl, rfl, rfl, rfl⟩ | ⟨hj, h1⟩
  · refine rc_t (h2 W now hn hW) (rc_g (Or.inl (by omega)) ?_)
    unfold px_g
    rw [if_pos hk, pp_s6 hc]
    rw [show aj_v (-1) = [] from rfl, List.append_nil]
  · have hd : dp_n ((if j = 43 then 46 else 47) :: W) = dep := by rw [dp_n, if_neg (by split <;> omega)]; omega
    refine rc_t (h1 W now hn hW hc) (rc_t (h2 _ 1 (Or.inr rfl) hd) (rc_g (Or.inl (by omega)) ?_))
    unfold px_g
    rw [if_pos hk]
    have e : pp_s 46 ((if j = 43 then 46 else 47) :: W) o2 = (W, o2 ++ aj_v j) := by
      rw [pp_s, if_pos (by split <;> omega), pp_s6 hc]
      rcases hj with rfl | rfl <;> rfl
    rw [e]
theorem su_end {dep i v i1 v1 i2 v2 : Nat} {o o1 o2 : List Int} {j : Int} (h1 : m_sum K P N dep i v o j i1 v1 o1) (h2 : s_term K P N dep i1 v1 o1 i2 v2 o2) (hk : ¬ (K i2 = 43 ∨ K i2 = 45)) : s_sum K P N dep i v o i2 v2 (o2 ++ aj_v j) := by
  refine ⟨by omega, fun W now hn hW hc => ?_⟩
  rcases h1 with ⟨rfl, rfl, rfl, rfl⟩ | ⟨hj, h1⟩
  · exact ⟨[], o2, h2 W now hn hW, rfl, fun x hx => by cases hx⟩
  · have hd : dp_n ((if j = 43 then 46 else 47) :: W) = dep := by rw [dp_n, if_neg (by split <;> omega)]; omega
    refine ⟨[if j = 43 then 46 else 47], o2, rc_t (h1 W now hn hW hc) (h2 _ 1 (Or.inr rfl) hd), ?_, fun x hx => ?_⟩
    · rcases hj with rfl | rfl <;> rfl
    · rw [List.mem_singleton] at hx; rw [hx]; split <;> omega
theorem su_bad {dep i v i1 v1 : Nat} {o o1 : List Int} {j k p : Int} (h1 : m_sum K P N dep i v o j i1 v1 o1) (h2 : b_term K P N dep i1 v1 o1 k p) : b_sum K P N dep i v o k p := by
  intro W now hn hW hc
  rcases h1 with ⟨rfl, rfl, rfl, rfl⟩ | ⟨hj, h1⟩
  · exact h2 W now hn hW
  · have hd : dp_n ((if j = 43 then 46 else 47) :: W) = dep := by rw [dp_n, if_neg (by split <;> omega)]; omega
    exact rc_t (h1 W now (by omega) hW hc) (h2 _ 1 (Or.inr rfl) hd)
/-- a sum alone, a comparison, not -/
theorem on_sum {dep i v i' v' : Nat} {o o' : List Int} (h : s_sum K P N dep i v o i' v' o') (hk : ¬ cmp_t (K i')) : s_one K P N dep i v o i' v' o' := by
  refine ⟨h.1, fun W hW hc => ?_⟩
  obtain ⟨Q, o2, h1, h2, h3⟩ := h.2 W 0 (Or.inl rfl) hW (c_os hc)
  exact ⟨Q, o2, h1, h2, fun x hx => by have := h3 x hx; omega, fun q => absurd q hk⟩
theorem c_hd {W : List Int} (h : c_one W) : ¬ (43 ≤ W.headD (-1) ∧ W.headD (-1) ≤ 45) := by
  rcases h with rfl | ⟨w, t, rfl, q⟩
  · simp
  · simp only [List.headD_cons]; omega
theorem on_cmp1 {dep i v i1 v1 : Nat} {o o1 : List Int} (h : s_sum K P N dep i v o i1 v1 o1) (hk : cmp_t (K i1)) {W : List Int} (hW : dp_n W = dep) (hc : c_one W) : rc_R K P N (.inr (0, i, v, W, o)) (.inr (1, i1 + 1, v1, cm_v (K i1) :: W, o1)) := by
  unfold cmp_t at hk
  obtain ⟨Q, o2, h1, h2, h3⟩ := h.2 W 0 (Or.inl rfl) hW (c_os hc)
  refine rc_t h1 (rc_g (Or.inl (by omega)) ?_)
  unfold px_g
  rw [if_neg (by omega), if_pos (by omega), pp_sa Q W o2 (fun x hx => by have := h3 x hx; omega), pp_s6 (c_os hc), h2, if_neg (c_hd hc)]
theorem cm_r (k : Int) : 43 ≤ cm_v k ∧ cm_v k ≤ 45 := by unfold cm_v; split; omega; split <;> omega
theorem cm_oi {k : Int} (h : cmp_t k) : oi_v (cm_v k) = -1 - k := by
  unfold cmp_t at h
  rcases h with rfl | rfl | rfl <;> rfl
theorem on_cmp {dep i v i1 v1 i2 v2 : Nat} {o o1 o2 : List Int} (h : s_sum K P N dep i v o i1 v1 o1) (hk : cmp_t (K i1)) (h' : s_sum K P N dep (i1 + 1) v1 o1 i2 v2 o2) : s_one K P N dep i v o i2 v2 (o2 ++ [-1 - K i1]) := by
  refine ⟨h'.1, fun W hW hc => ?_⟩
  have a := on_cmp1 h hk hW hc
  have hr := cm_r (K i1)
  obtain ⟨Q, o3, h1, h2, h3⟩ := h'.2 (cm_v (K i1) :: W) 1 (Or.inr rfl) (by rw [dp_n, if_neg (by omega)]; omega) (Or.inr ⟨_, W, rfl, by omega⟩)
  refine ⟨Q ++ [cm_v (K i1)], o3, ?_, ?_, fun x hx => ?_, fun q => ?_⟩
  · rw [List.append_assoc]; exact rc_t a h1
  · rw [List.map_append, ← List.append_assoc, h2, List.map_cons, List.map_nil, cm_oi hk]
  · rcases List.mem_append.mp hx with hx | hx
    · have := h3 x hx; omega
    · rw [List.mem_singleton] at hx; omega
  · unfold cmp_t at q
    unfold px_g
    rw [if_neg (by omega), if_pos (by omega), List.append_assoc, pp_sa Q _ o3 (fun x hx => by have := h3 x hx; omega), List.singleton_append, pp_s6 (Or.inr ⟨_, W, rfl, by omega⟩)]
    rw [if_pos (by simp only [List.headD_cons]; omega)]
theorem on_b1 {dep i v : Nat} {o : List Int} {k p : Int} (hk : K i ≠ 7) (h : b_sum K P N dep i v o k p) : b_one K P N dep i v o k p := fun W hW hc => h W 0 (Or.inl ⟨rfl, hk⟩) hW (c_os hc)
theorem on_b2 {dep i v i1 v1 : Nat} {o o1 : List Int} {k p : Int} (h : s_sum K P N dep i v o i1 v1 o1) (hk : cmp_t (K i1)) (h' : b_sum K P N dep (i1 + 1) v1 o1 k p) : b_one K P N dep i v o k p := by
  intro W hW hc
  have hr := cm_r (K i1)
  exact rc_t (on_cmp1 h hk hW hc) (h' (cm_v (K i1) :: W) 1 (Or.inr rfl) (by rw [dp_n, if_neg (by omega)]; omega) (Or.inr ⟨_, W, rfl, by omega⟩))
theorem px_not {i v : Nat} {W o : List Int} (h0 : dp_n W < 8) (hk : K i = 7) : px_d K P N 0 i v W o = .inr (0, i + 1, v, 40 :: W, o) := by
  unfold px_d
  rw [if_neg (by omega), if_neg (by omega), if_neg (by omega), if_pos ⟨rfl, hk⟩]
theorem on_not {dep i v i' v' : Nat} {o o' : List Int} (hd : dep < 8) (hk : K i = 7) (h : s_one K P N (dep + 1) (i + 1) v o i' v' o') : s_one K P N dep i v o i' v' (o' ++ [-8]) := by
  refine ⟨h.1, fun W hW hc => ?_⟩
  obtain ⟨Q, o2, h1, h2, h3, h4⟩ := h.2 (40 :: W) (by rw [dp_n, if_pos (Or.inl rfl)]; omega) (Or.inr ⟨40, W, rfl, Or.inl rfl⟩)
  refine ⟨Q ++ [40], o2, ?_, ?_, fun x hx => ?_, fun q => ?_⟩
  · rw [List.append_assoc]; exact rc_t (rc_d (by omega) (px_not (by omega) hk)) h1
  · rw [List.map_append, ← List.append_assoc, h2]; rfl
  · rcases List.mem_append.mp hx with hx | hx
    · exact h3 x hx
    · rw [List.mem_singleton] at hx; omega
  · rw [List.append_assoc]; exact h4 q
theorem on_notb {dep i v : Nat} {o : List Int} {k p : Int} (hd : dep < 8) (hk : K i = 7) (h : b_one K P N (dep + 1) (i + 1) v o k p) : b_one K P N dep i v o k p := by
  intro W hW hc
  exact rc_t (rc_d (by omega) (px_not (by omega) hk)) (h (40 :: W) (by rw [dp_n, if_pos (Or.inl rfl)]; omega) (Or.inr ⟨40, W, rfl, Or.inl rfl⟩))
theorem on_deep {dep i v : Nat} {o : List Int} (hd : 8 ≤ dep) : b_one K P N dep i v o (fq_v K i 2) (P i) := by
  intro W hW hc
  refine rc_d (by omega) ?_
  unfold px_d
  rw [if_pos ⟨rfl, by omega⟩]; rfl
/-- both -/
def m_and (K P N : Nat → Int) (dep i v : Nat) (o : List Int) (j : Int) (i' v' : Nat) (o' : List Int) : Prop := (j = -1 ∧ i' = i ∧ v' = v ∧ o' = o) ∨ (j = 6 ∧ ∀ W, dp_n W = dep → c_and W → rc_R K P N (.inr (0, i, v, W, o)) (.inr (0, i', v', 42 :: W, o')))
theorem an_go {dep i v i1 v1 i2 v2 : Nat} {o o1 o2 : List Int} {j : Int} (h1 : m_and K P N dep i v o j i1 v1 o1) (h2 : s_one K P N dep i1 v1 o1 i2 v2 o2) (hk : K i2 = 6) : m_and K P N dep i v o (K i2) (i2 + 1) v2 (o2 ++ aj_v j) := by
  refine Or.inr ⟨hk, fun W hW hc => ?_⟩
  rcases h1 with ⟨rfl, rfl, rfl, rfl⟩ | ⟨rfl, h1⟩
  · obtain ⟨Q, o3, g1, g2, g3, -⟩ := h2.2 W hW (c_ao hc)
    refine rc_t g1 (rc_g (Or.inl (by omega)) ?_)
    unfold px_g
    rw [if_neg (by omega), if_neg (by omega), if_pos (Or.inl hk), if_pos hk, if_pos hk, pp_oa Q W o3 (fun x hx => by have := g3 x hx; omega), pp_o1 hc, g2, show aj_v (-1) = [] from rfl, List.append_nil]
  · obtain ⟨Q, o3, g1, g2, g3, -⟩ := h2.2 (42 :: W) (by rw [dp_n, if_neg (by omega)]; omega) (Or.inr ⟨42, W, rfl, by omega⟩)
    refine rc_t (h1 W hW hc) (rc_t g1 (rc_g (Or.inl (by omega)) ?_))
    unfold px_g
    rw [if_neg (by omega), if_neg (by omega), if_pos (Or.inl hk), if_pos hk, if_pos hk, pp_oa Q _ o3 (fun x hx => by have := g3 x hx; omega), pp_o, if_pos (by omega), pp_o1 hc, g2]
    rfl
theorem an_end {dep i v i1 v1 i2 v2 : Nat} {o o1 o2 : List Int} {j : Int} (h1 : m_and K P N dep i v o j i1 v1 o1) (h2 : s_one K P N dep i1 v1 o1 i2 v2 o2) (hk : K i2 ≠ 6) : s_and K P N dep i v o i2 v2 (o2 ++ aj_v j) := by
  refine ⟨⟨h2.1.1, h2.1.2, hk⟩, fun W hW hc => ?_⟩
  rcases h1 with ⟨rfl, rfl, rfl, rfl⟩ | ⟨rfl, h1⟩
  · obtain ⟨Q, o3, g1, g2, g3, g4⟩ := h2.2 W hW (c_ao hc)
    exact ⟨Q, o3, g1, by rw [g2, show aj_v (-1) = [] from rfl, List.append_nil], fun x hx => by have := g3 x hx; omega, g4⟩
  · obtain ⟨Q, o3, g1, g2, g3, g4⟩ := h2.2 (42 :: W) (by rw [dp_n, if_neg (by omega)]; omega) (Or.inr ⟨42, W, rfl, by omega⟩)
    refine ⟨Q ++ [42], o3, ?_, ?_, fun x hx => ?_, fun q => ?_⟩
    · rw [List.append_assoc]; exact rc_t (h1 W hW hc) g1
    · rw [List.map_append, ← List.append_assoc, g2]; rfl
    · rcases List.mem_append.mp hx with hx | hx
      · have := g3 x hx; omega
      · rw [List.mem_singleton] at hx; omega
    · rw [List.append_assoc]; exact g4 q
theorem an_bad {dep i v i1 v1 : Nat} {o o1 : List Int} {j k p : Int} (h1 : m_and K P N dep i v o j i1 v1 o1) (h2 : b_one K P N dep i1 v1 o1 k p) : b_and K P N dep i v o k p := by
  intro W hW hc
  rcases h1 with ⟨rfl, rfl, rfl, rfl⟩ | ⟨rfl, h1⟩
  · exact h2 W hW (c_ao hc)
  · exact rc_t (h1 W hW hc) (h2 (42 :: W) (by rw [dp_n, if_neg (by omega)]; omega) (Or.inr ⟨42, W, rfl, by omega⟩))
/-- e -/
def m_or (K P N : Nat → Int) (dep i v : Nat) (o : List Int) (j : Int) (i' v' : Nat) (o' : List Int) : Prop := (j = -1 ∧ i' = i ∧ v' = v ∧ o' = o) ∨ (j = 5 ∧ ∀ W, dp_n W = dep → c_or W → rc_R K P N (.inr (0, i, v, W, o)) (.inr (0, i', v', 41 :: W, o')))
theorem or_go {dep i v i1 v1 i2 v2 : Nat} {o o1 o2 : List Int} {j : Int} (h1 : m_or K P N dep i v o j i1 v1 o1) (h2 : s_and K P N dep i1 v1 o1 i2 v2 o2) (hk : K i2 = 5) : m_or K P N dep i v o (K i2) (i2 + 1) v2 (o2 ++ aj_v j) := by
  refine Or.inr ⟨hk, fun W hW hc => ?_⟩
  rcases h1 with ⟨rfl, rfl, rfl, rfl⟩ | ⟨rfl, h1⟩
  · obtain ⟨Q, o3, g1, g2, g3, -⟩ := h2.2 W hW (c_oa hc)
    refine rc_t g1 (rc_g (Or.inl (by omega)) ?_)
    unfold px_g
    rw [if_neg (by omega), if_neg (by omega), if_pos (Or.inr hk), if_neg (by omega), if_neg (by omega), pp_oa Q W o3 (fun x hx => by have := g3 x hx; omega), pp_o0 hc, g2, show aj_v (-1) = [] from rfl, List.append_nil]
  · obtain ⟨Q, o3, g1, g2, g3, -⟩ := h2.2 (41 :: W) (by rw [dp_n, if_neg (by omega)]; omega) (Or.inr ⟨41, W, rfl, by omega⟩)
    refine rc_t (h1 W hW hc) (rc_t g1 (rc_g (Or.inl (by omega)) ?_))
    unfold px_g
    rw [if_neg (by omega), if_neg (by omega), if_pos (Or.inr hk), if_neg (by omega), if_neg (by omega), pp_oa Q _ o3 (fun x hx => by have := g3 x hx; omega), pp_o, if_pos (by omega), pp_o0 hc, g2]
    rfl
theorem or_end {dep i v i1 v1 i2 v2 : Nat} {o o1 o2 : List Int} {j : Int} (h1 : m_or K P N dep i v o j i1 v1 o1) (h2 : s_and K P N dep i1 v1 o1 i2 v2 o2) (hk : K i2 ≠ 5) : s_or K P N dep i v o i2 v2 (o2 ++ aj_v j) := by
  refine ⟨⟨h2.1.1, h2.1.2.1, h2.1.2.2, hk⟩, fun W hW hc => ?_⟩
  rcases h1 with ⟨rfl, rfl, rfl, rfl⟩ | ⟨rfl, h1⟩
  · obtain ⟨Q, o3, g1, g2, g3, g4⟩ := h2.2 W hW (c_oa hc)
    exact ⟨Q, o3, g1, by rw [g2, show aj_v (-1) = [] from rfl, List.append_nil], fun x hx => by have := g3 x hx; omega, g4⟩
  · obtain ⟨Q, o3, g1, g2, g3, g4⟩ := h2.2 (41 :: W) (by rw [dp_n, if_neg (by omega)]; omega) (Or.inr ⟨41, W, rfl, by omega⟩)
    refine ⟨Q ++ [41], o3, ?_, ?_, fun x hx => ?_, fun q => ?_⟩
    · rw [List.append_assoc]; exact rc_t (h1 W hW hc) g1
    · rw [List.map_append, ← List.append_assoc, g2]; rfl
    · rcases List.mem_append.mp hx with hx | hx
      · have := g3 x hx; omega
      · rw [List.mem_singleton] at hx; omega
    · rw [List.append_assoc]; exact g4 q
theorem or_bad {dep i v i1 v1 : Nat} {o o1 : List Int} {j k p : Int} (h1 : m_or K P N dep i v o j i1 v1 o1) (h2 : b_and K P N dep i1 v1 o1 k p) : b_or K P N dep i v o k p := by
  intro W hW hc
  rcases h1 with ⟨rfl, rfl, rfl, rfl⟩ | ⟨rfl, h1⟩
  · exact h2 W hW (c_oa hc)
  · exact rc_t (h1 W hW hc) (h2 (41 :: W) (by rw [dp_n, if_neg (by omega)]; omega) (Or.inr ⟨41, W, rfl, by omega⟩))
end
