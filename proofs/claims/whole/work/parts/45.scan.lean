/-! ===== the tokens of a text, by themselves ===== -/
def bb_B (B : Nat → Int) (z : Nat) : Prop := z ≤ 500 ∧ (∀ k, k < z → 0 ≤ B k ∧ B k ≤ 255) ∧ ∀ k, z ≤ k → B k = -1
theorem bb_r {B : Nat → Int} {z : Nat} (h : bb_B B z) (k : Nat) : -1 ≤ B k ∧ B k ≤ 255 := by
  by_cases hk : k < z
  · have := h.2.1 k hk; omega
  · have := h.2.2 k (by omega); omega
def rn_n (p : Int → Int) (B : Nat → Int) : Nat → Nat → Nat
  | 0, a => a
  | n + 1, a => if p (B a) = 1 then rn_n p B n (a + 1) else a
theorem rn_u {p : Int → Int} {B : Nat → Int} : ∀ n a j, a ≤ j → j ≤ a + n → (∀ k, a ≤ k → k < j → p (B k) = 1) → (j = a + n ∨ p (B j) ≠ 1) → rn_n p B n a = j := by
  intro n
  induction n with
  | zero => intro a j h1 h2 _ _; exact (show a = j by omega)
  | succ n ih =>
    intro a j h1 h2 h3 h4
    rw [rn_n]
    by_cases hj : a = j
    · subst hj
      rw [if_neg (by rcases h4 with h | h; omega; exact h)]
    · rw [if_pos (h3 a (by omega) (by omega))]
      exact ih (a + 1) j (by omega) (by omega) (fun k k1 k2 => h3 k (by omega) k2) (by rcases h4 with h | h; left; omega; right; exact h)
def rn_z (p : Int → Int) (B : Nat → Int) (z a : Nat) : Nat := rn_n p B (z - a) a
theorem rn_p {p : Int → Int} {B : Nat → Int} : ∀ n a, a ≤ rn_n p B n a ∧ rn_n p B n a ≤ a + n ∧ (∀ k, a ≤ k → k < rn_n p B n a → p (B k) = 1) ∧ (rn_n p B n a = a + n ∨ p (B (rn_n p B n a)) ≠ 1) := by
  intro n
  induction n with
  | zero => intro a; exact ⟨Nat.le_refl _, Nat.le_refl _, fun k h1 h2 => absurd h2 (by show ¬ k < a; omega), Or.inl rfl⟩
  | succ n ih =>
    intro a
    rw [rn_n]
    by_cases h : p (B a) = 1
    · rw [if_pos h]
      obtain ⟨i1, i2, i3, i4⟩ := ih (a + 1)
      refine ⟨by omega, by omega, fun k k1 k2 => ?_, ?_⟩
      · by_cases e : k = a
        · rw [e]; exact h
        · exact i3 k (by omega) k2
      · rcases i4 with i4 | i4
        · left; omega
        · right; exact i4
    · rw [if_neg h]
      exact ⟨Nat.le_refl _, by omega, fun k h1 h2 => absurd h2 (by omega), Or.inr h⟩
theorem rn_zp {p : Int → Int} {B : Nat → Int} {z a : Nat} (hz : bb_B B z) (hp : p (-1) ≠ 1) (ha : a ≤ z) : a ≤ rn_z p B z a ∧ rn_z p B z a ≤ z ∧ (∀ k, a ≤ k → k < rn_z p B z a → p (B k) = 1) ∧ p (B (rn_z p B z a)) ≠ 1 := by
  obtain ⟨h1, h2, h3, h4⟩ := rn_p (p := p) (B := B) (z - a) a
  refine ⟨h1, by unfold rn_z; omega, h3, ?_⟩
  rcases h4 with h4 | h4
  · unfold rn_z; rw [h4, hz.2.2 _ (by omega)]; exact hp
  · exact h4
theorem rn_zu {p : Int → Int} {B : Nat → Int} {z a j : Nat} (hz : bb_B B z) (ha : a ≤ z) (h1 : a ≤ j) (h2 : j ≤ z) (h3 : ∀ k, a ≤ k → k < j → p (B k) = 1) (h4 : p (B j) ≠ 1) : rn_z p B z a = j := rn_u _ _ _ h1 (by omega) h3 (Or.inr h4)
def bk_i (b : Int) : Int := if b = 32 ∨ b = 10 then 1 else 0
theorem bk_1 (b : Int) : bk_i b = 1 ↔ bk_s b := by unfold bk_i bk_s; split <;> omega
theorem is_l1 (b : Int) : is_l b = 1 ↔ 97 ≤ b ∧ b ≤ 122 := by unfold is_l; split <;> omega
theorem is_d1 (b : Int) : is_d b = 1 ↔ 48 ≤ b ∧ b ≤ 57 := by unfold is_d; split <;> omega
/-- the place behind the blanks -/
def sk_b (B : Nat → Int) (z a : Nat) : Nat := rn_z bk_i B z a
/-- how long a token is -/
def tl_n (B : Nat → Int) (z a : Nat) : Nat := if is_l (B a) = 1 then rn_z is_l B z a - a else if is_d (B a) = 1 then rn_z is_d B z a - a else 1
theorem tl_pos {B : Nat → Int} {z a : Nat} (hz : bb_B B z) (ha : a < z) : 1 ≤ tl_n B z a ∧ a + tl_n B z a ≤ z := by
  unfold tl_n
  split
  · next h =>
    obtain ⟨h1, h2, h3, h4⟩ := rn_zp (p := is_l) hz (by decide) (show a ≤ z by omega)
    have : rn_z is_l B z a ≠ a := fun e => by rw [e] at h4; exact h4 h
    omega
  · split
    · next h =>
      obtain ⟨h1, h2, h3, h4⟩ := rn_zp (p := is_d) hz (by decide) (show a ≤ z by omega)
      have : rn_z is_d B z a ≠ a := fun e => by rw [e] at h4; exact h4 h
      omega
    · omega
/-- a word's value -/
def wv_n (f : Nat → Int) : Nat → Int
  | 0 => 0
  | n + 1 => wv_n f n * 256 + f n
theorem wv_0 {f : Nat → Int} : ∀ n, (∀ i, i < n → 1 ≤ f i ∧ f i ≤ 255) → 0 ≤ wv_n f n := by
  intro n
  induction n with
  | zero => intro _; exact Int.le_refl _
  | succ n ih => intro h; rw [wv_n]; have := ih (fun i hi => h i (by omega)); have := h n (by omega); omega
theorem wv_inj {f g : Nat → Int} : ∀ n m, (∀ i, i < n → 1 ≤ f i ∧ f i ≤ 255) → (∀ i, i < m → 1 ≤ g i ∧ g i ≤ 255) → wv_n f n = wv_n g m → n = m ∧ ∀ i, i < n → f i = g i := by
  intro n
  induction n with
  | zero =>
    intro m hf hg h
    cases m with
    | zero => exact ⟨rfl, fun i hi => absurd hi (by omega)⟩
    | succ m =>
      exfalso
      rw [wv_n, wv_n] at h
      have := wv_0 (f := g) m (fun i hi => hg i (by omega)); have := hg m (by omega); omega
  | succ n ih =>
    intro m hf hg h
    cases m with
    | zero =>
      exfalso
      rw [wv_n, wv_n] at h
      have := wv_0 (f := f) n (fun i hi => hf i (by omega)); have := hf n (by omega); omega
    | succ m =>
      rw [wv_n, wv_n] at h
      have h1 := hf n (by omega)
      have h2 := hg m (by omega)
      obtain ⟨e, h3⟩ := ih m (fun i hi => hf i (by omega)) (fun i hi => hg i (by omega)) (by omega)
      refine ⟨by omega, fun i hi => ?_⟩
      by_cases hi2 : i = n
      · rw [hi2]; subst e; omega
      · exact h3 i (by omega)
theorem wv_cg {f g : Nat → Int} : ∀ n, (∀ i, i < n → f i = g i) → wv_n f n = wv_n g n := by
  intro n
  induction n with
  | zero => intro _; rfl
  | succ n ih => intro h; rw [wv_n, wv_n, ih (fun i hi => h i (by omega)), h n (by omega)]
theorem wv_in {f : Nat → Int} : ∀ n, n ≤ 8 → (∀ i, i < n → 97 ≤ f i ∧ f i ≤ 122) → 0 ≤ wv_n f n ∧ wv_n f n < 123 * 256 ^ (n - 1) ∨ n = 0 := by
  intro n
  induction n with
  | zero => intro _ _; exact Or.inr rfl
  | succ n ih =>
    intro h8 h
    left
    have h1 := h n (by omega)
    rw [wv_n]
    have hn : n = 0 ∨ n = 1 ∨ n = 2 ∨ n = 3 ∨ n = 4 ∨ n = 5 ∨ n = 6 ∨ n = 7 := by omega
    rcases ih (by omega) (fun i hi => h i (by omega)) with h2 | h2
    · rcases hn with rfl | rfl | rfl | rfl | rfl | rfl | rfl | rfl
      · simp only [wv_n]; omega
      all_goals (simp only [Nat.add_sub_cancel] at h2 ⊢; omega)
    · subst h2; simp only [wv_n]; omega
def wk_c : List Int := [2003330414, 25711, 1953854062, 2002875240, 422827094888, 28530, 6385252, 7237492, 1802071652, 6383461, 1919512677, 470021401700, 131277443786868, 6383986, 1684106608, 1936286821, 495672716390, 6578553]
/-- which word it is -/
def wk_f (V : Int) : List Int → Int → Int
  | [], _ => 303
  | c :: t, n => if V = c then n else wk_f V t (n + 1)
def wk_v (V : Int) : Int := wk_f V wk_c 0
theorem wk_18 {w : Nat} (h : w < 18) : w = 0 ∨ w = 1 ∨ w = 2 ∨ w = 3 ∨ w = 4 ∨ w = 5 ∨ w = 6 ∨ w = 7 ∨ w = 8 ∨ w = 9 ∨ w = 10 ∨ w = 11 ∨ w = 12 ∨ w = 13 ∨ w = 14 ∨ w = 15 ∨ w = 16 ∨ w = 17 := by omega
theorem wk_at {w : Nat} (h : w < 18) : wk_v (wk_c.getD w 0) = w := by
  rcases wk_18 h with rfl | rfl | rfl | rfl | rfl | rfl | rfl | rfl | rfl | rfl | rfl | rfl | rfl | rfl | rfl | rfl | rfl | rfl <;> decide
theorem wk_fi (V : Int) : ∀ (l : List Int) (n : Int), (∃ w, w < l.length ∧ wk_f V l n = n + (w : Nat) ∧ V = l.getD w 0) ∨ (wk_f V l n = 303 ∧ ∀ w, w < l.length → V ≠ l.getD w 0) := by
  intro l
  induction l with
  | nil => intro n; exact Or.inr ⟨rfl, fun w h => absurd h (by simp)⟩
  | cons c t ih =>
    intro n
    rw [wk_f]
    by_cases h : V = c
    · rw [if_pos h]; exact Or.inl ⟨0, by simp, by omega, by simpa using h⟩
    · rw [if_neg h]
      rcases ih (n + 1) with ⟨w, h1, h2, h3⟩ | ⟨h1, h2⟩
      · exact Or.inl ⟨w + 1, by simp; omega, by rw [h2]; omega, by simpa using h3⟩
      · refine Or.inr ⟨h1, fun w hw => ?_⟩
        cases w with
        | zero => simpa using h
        | succ w => have := h2 w (by simp at hw; omega); simpa using this
theorem wk_is {V : Int} {w : Nat} (h : w < 18) : wk_v V = w ↔ V = wk_c.getD w 0 := by
  constructor
  · intro hv
    unfold wk_v at hv
    rcases wk_fi V wk_c 0 with ⟨u, h1, h2, h3⟩ | ⟨h1, -⟩
    · rw [show w = u by omega]; exact h3
    · omega
  · intro hv; rw [hv]; exact wk_at h
theorem wk_no {V : Int} (h : ∀ w, w < 18 → V ≠ wk_c.getD w 0) : wk_v V = 303 := by
  rcases wk_fi V wk_c 0 with ⟨u, h1, h2, h3⟩ | ⟨h1, -⟩
  · exact absurd h3 (h u h1)
  · exact h1
theorem wk_r (V : Int) : (0 ≤ wk_v V ∧ wk_v V ≤ 17) ∨ wk_v V = 303 := by
  rcases wk_fi V wk_c 0 with ⟨u, h1, h2, h3⟩ | ⟨h1, -⟩
  · have : wk_c.length = 18 := rfl
    unfold wk_v
    left; omega
  · exact Or.inr h1
def wk_l : List Nat := [4, 2, 4, 4, 5, 2, 3, 3, 4, 3, 4, 5, 6, 3, 4, 4, 5, 3]
theorem wk_row : ∀ w : Fin 18, (wk_l.getD w.val 0 ≤ 8 ∧ 1 ≤ wk_l.getD w.val 0) ∧ (∀ i : Fin 8, i.val < wk_l.getD w.val 0 → 97 ≤ tx_v (8 * w.val + i.val) ∧ tx_v (8 * w.val + i.val) ≤ 122) ∧ (∀ i : Fin 8, wk_l.getD w.val 0 ≤ i.val → tx_v (8 * w.val + i.val) = 32) ∧ wv_n (fun i => tx_v (8 * w.val + i)) (wk_l.getD w.val 0) = wk_c.getD w.val 0 := by decide +kernel
theorem wk_eq {f : Nat → Int} {n w : Nat} (hn : n ≤ 8) (hf : ∀ i, i < n → 97 ≤ f i ∧ f i ≤ 122) (hw : w < 18) : (∀ i, i < 8 → (if i < n then f i else 32) = tx_v (8 * w + i)) ↔ wv_n f n = wk_c.getD w 0 := by
  obtain ⟨⟨a1, a2⟩, a3, a4, a5⟩ := wk_row ⟨w, hw⟩
  dsimp only at a1 a2 a3 a4 a5
  generalize wk_l.getD w 0 = l at *
  rw [← a5]
  constructor
  · intro h
    have hl : n = l := by
      by_cases h1 : n < l
      · have := h n (by omega); rw [if_neg (by omega)] at this
        have := a3 ⟨n, by omega⟩ h1; dsimp only at this; omega
      · by_cases h2 : l < n
        · have h3 := h l (by omega); rw [if_pos h2] at h3
          have h4 := a4 ⟨l, by omega⟩ (Nat.le_refl _); have h5 := hf l h2; dsimp only at h4; omega
        · omega
    subst hl
    refine wv_cg n (fun i hi => ?_)
    have := h i (by omega); rw [if_pos hi] at this; exact this
  · intro h
    obtain ⟨e, h2⟩ := wv_inj n l (fun i hi => by have := hf i hi; omega) (fun i hi => by have := a3 ⟨i, by omega⟩ hi; dsimp only at this; omega) h
    subst e
    intro i hi
    by_cases h3 : i < n
    · rw [if_pos h3]; exact h2 i h3
    · rw [if_neg h3]; have := a4 ⟨i, hi⟩ (by show n ≤ i; omega); exact this.symm
/-- digits -/
def nb_v (B : Nat → Int) (a : Nat) : Nat → Int
  | 0 => 0
  | n + 1 => 10 * nb_v B a n + B (a + n) - 48
theorem nb_r {B : Nat → Int} {a : Nat} : ∀ n, n ≤ 6 → (∀ i, i < n → 48 ≤ B (a + i) ∧ B (a + i) ≤ 57) → 0 ≤ nb_v B a n ∧ nb_v B a n < 10 ^ n := by
  intro n
  induction n with
  | zero => intro _ _; exact ⟨Int.le_refl _, show (0 : Int) < 10 ^ 0 by decide⟩
  | succ n ih =>
    intro h6 h
    have h1 := h n (by omega)
    obtain ⟨i1, i2⟩ := ih (by omega) (fun i hi => h i (by omega))
    rw [nb_v]
    have hn : n = 0 ∨ n = 1 ∨ n = 2 ∨ n = 3 ∨ n = 4 ∨ n = 5 := by omega
    rcases hn with rfl | rfl | rfl | rfl | rfl | rfl <;> omega
/-- what a token is: a word by its number, a sign by its byte, 300 none, 301 the end, 302 a number, 303 a strange name -/
def tk_k (B : Nat → Int) (z a : Nat) : Int :=
  if B a = -1 then 301 else if is_l (B a) = 1 then (if 8 < tl_n B z a then 300 else wk_v (wv_n (fun i => B (a + i)) (tl_n B z a)))
  else if is_d (B a) = 1 then (if 6 < tl_n B z a ∨ is_l (B (a + tl_n B z a)) = 1 then 300 else 302) else if is_s (B a) = 1 then B a else 300
def tk_m (B : Nat → Int) (z a : Nat) : Int := if tk_k B z a = 302 then nb_v B a (tl_n B z a) else 0
theorem tl_l {B : Nat → Int} {z a : Nat} (hz : bb_B B z) (ha : a < z) (h : is_l (B a) = 1) : (∀ i, i < tl_n B z a → is_l (B (a + i)) = 1) ∧ is_l (B (a + tl_n B z a)) ≠ 1 := by
  obtain ⟨h1, h2, h3, h4⟩ := rn_zp (p := is_l) hz (by decide) (show a ≤ z by omega)
  unfold tl_n
  rw [if_pos h]
  refine ⟨fun i hi => h3 _ (by omega) (by omega), ?_⟩
  rw [show a + (rn_z is_l B z a - a) = rn_z is_l B z a by omega]; exact h4
theorem tl_d {B : Nat → Int} {z a : Nat} (hz : bb_B B z) (ha : a < z) (h : is_d (B a) = 1) : (∀ i, i < tl_n B z a → is_d (B (a + i)) = 1) ∧ is_d (B (a + tl_n B z a)) ≠ 1 := by
  have hl : ¬ is_l (B a) = 1 := by rw [is_l1]; rw [is_d1] at h; omega
  obtain ⟨h1, h2, h3, h4⟩ := rn_zp (p := is_d) hz (by decide) (show a ≤ z by omega)
  unfold tl_n
  rw [if_neg hl, if_pos h]
  refine ⟨fun i hi => h3 _ (by omega) (by omega), ?_⟩
  rw [show a + (rn_z is_d B z a - a) = rn_z is_d B z a by omega]; exact h4
theorem tk_r {B : Nat → Int} {z a : Nat} (hz : bb_B B z) : 0 ≤ tk_k B z a ∧ tk_k B z a ≤ 303 := by
  have hb := bb_r hz a
  have hw := wk_r (wv_n (fun i => B (a + i)) (tl_n B z a))
  unfold tk_k
  split
  · omega
  · split
    · split <;> omega
    · split
      · split <;> omega
      · split <;> omega
theorem tm_r {B : Nat → Int} {z a : Nat} (hz : bb_B B z) : 0 ≤ tk_m B z a ∧ tk_m B z a ≤ 999999 := by
  unfold tk_m
  split
  · next h =>
    have hw := wk_r (wv_n (fun i => B (a + i)) (tl_n B z a))
    unfold tk_k at h
    by_cases h1 : B a = -1
    · rw [if_pos h1] at h; omega
    · have haz : a < z := by
        by_cases q : a < z
        · exact q
        · exact absurd (hz.2.2 a (by omega)) h1
      rw [if_neg h1] at h
      by_cases h2 : is_l (B a) = 1
      · rw [if_pos h2] at h
        split at h <;> omega
      · rw [if_neg h2] at h
        by_cases h3 : is_d (B a) = 1
        · rw [if_pos h3] at h
          by_cases h4 : 6 < tl_n B z a ∨ is_l (B (a + tl_n B z a)) = 1
          · rw [if_pos h4] at h; omega
          · obtain ⟨d1, -⟩ := tl_d hz haz h3
            have h5 : tl_n B z a ≤ 6 := by omega
            obtain ⟨r1, r2⟩ := nb_r (B := B) (a := a) (tl_n B z a) h5 (fun i hi => (is_d1 _).mp (d1 i hi))
            have h6 : tl_n B z a = 0 ∨ tl_n B z a = 1 ∨ tl_n B z a = 2 ∨ tl_n B z a = 3 ∨ tl_n B z a = 4 ∨ tl_n B z a = 5 ∨ tl_n B z a = 6 := by omega
            generalize nb_v B a (tl_n B z a) = y at *
            generalize tl_n B z a = n at *
            rcases h6 with rfl | rfl | rfl | rfl | rfl | rfl | rfl <;> omega
        · rw [if_neg h3] at h
          have hb := bb_r hz a
          split at h <;> omega
  · omega
/-- where the tokens stand -/
def ps_k (B : Nat → Int) (z : Nat) : Nat → Nat
  | 0 => sk_b B z 0
  | k + 1 => sk_b B z (ps_k B z k + tl_n B z (ps_k B z k))
theorem sk_bp {B : Nat → Int} {z a : Nat} (hz : bb_B B z) (ha : a ≤ z) : a ≤ sk_b B z a ∧ sk_b B z a ≤ z ∧ (∀ k, a ≤ k → k < sk_b B z a → bk_s (B k)) ∧ ¬ bk_s (B (sk_b B z a)) := by
  obtain ⟨h1, h2, h3, h4⟩ := rn_zp (p := bk_i) hz (by decide) ha
  exact ⟨h1, h2, fun k k1 k2 => (bk_1 _).mp (h3 k k1 k2), fun h => h4 ((bk_1 _).mpr h)⟩
theorem sk_bu {B : Nat → Int} {z a j : Nat} (hz : bb_B B z) (ha : a ≤ z) (h1 : a ≤ j) (h2 : j ≤ z) (h3 : ∀ k, a ≤ k → k < j → bk_s (B k)) (h4 : ¬ bk_s (B j)) : sk_b B z a = j := rn_zu hz ha h1 h2 (fun k k1 k2 => (bk_1 _).mpr (h3 k k1 k2)) (fun h => h4 ((bk_1 _).mp h))
theorem tk_end {B : Nat → Int} {z a : Nat} (hz : bb_B B z) (ha : a ≤ z) (h : tk_k B z a ≠ 301) : a < z := by
  by_cases q : a < z
  · exact q
  · exfalso; apply h; unfold tk_k; rw [if_pos (hz.2.2 a (by omega))]
theorem ps_z {B : Nat → Int} {z : Nat} (hz : bb_B B z) : ∀ k, (∀ j, j < k → tk_k B z (ps_k B z j) ≠ 301) → k ≤ ps_k B z k ∧ ps_k B z k ≤ z := by
  intro k
  induction k with
  | zero => intro _; exact ⟨Nat.zero_le _, (sk_bp hz (Nat.zero_le _)).2.1⟩
  | succ k ih =>
    intro h
    obtain ⟨h1, h2⟩ := ih (fun j hj => h j (by omega))
    have h3 := tk_end hz h2 (h k (by omega))
    obtain ⟨h4, h5⟩ := tl_pos hz h3
    obtain ⟨h6, h7, -⟩ := sk_bp (a := ps_k B z k + tl_n B z (ps_k B z k)) hz h5
    exact ⟨by rw [ps_k]; omega, h7⟩
