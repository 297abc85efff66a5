/-! ===== the best plan by sets ===== -/
def dv_v (q : Nat → Nat → Int) (b : Nat → Nat) (x n : Nat) : Int := sm_f (fun k => if Nat.testBit x k = true then q (b k) k else 0) n
def cx_v (b : Nat → Nat) (x t n : Nat) : Int := sm_f (fun k => if Nat.testBit x k = true ∧ b k = t then 1 else 0) n
def df_F (q : Nat → Nat → Int) (room : Nat → Int) (n s : Nat) (b : Nat → Nat) (x : Nat) : Prop := (∀ k, k < n → Nat.testBit x k = true → s ≤ b k ∧ b k < 24 ∧ 0 ≤ q (b k) k) ∧ ∀ t, s ≤ t → t < 24 → cx_v b x t n ≤ room t
/-- a part that may lie on shelf s, the rest behind it -/
def vq_P (q : Nat → Nat → Int) (room : Nat → Int) (n s : Nat) (C : Nat → Int) (x p : Nat) : Prop := p &&& x = p ∧ on_A (q s) p n ∧ mc_v p 10 ≤ room s ∧ C (rmv x p) ≠ 9223372036854775807
def dl_I (q : Nat → Nat → Int) (room : Nat → Int) (n s : Nat) (C : Nat → Int) : Prop := ∀ x, x < 2 ^ n → (C x = 9223372036854775807 ∧ ∀ b, ¬ df_F q room n s b x) ∨ ((0 ≤ C x ∧ C x ≤ 41846231437148160 * (24 - s : Nat)) ∧ ∀ b, df_F q room n s b x → C x ≤ dv_v q b x n)
theorem on_sm (q : Nat → Int) (x : Nat) : ∀ n, on_v q x n = sm_f (fun k => if Nat.testBit x k = true then q k else 0) n := by
  intro n
  induction n with
  | zero => rfl
  | succ n ih => rw [on_v, sm_f, ih]
theorem mc_sm (x : Nat) : ∀ n, mc_v x n = sm_f (fun k => if Nat.testBit x k = true then 1 else 0) n := by
  intro n
  induction n with
  | zero => rfl
  | succ n ih => rw [mc_v, sm_f, ih]; unfold tb_i; rfl
theorem sm_cut {f : Nat → Int} {n : Nat} (hf : ∀ k, n ≤ k → f k = 0) : ∀ m, sm_f f (n + m) = sm_f f n := by
  intro m
  induction m with
  | zero => rfl
  | succ m ih => rw [← Nat.add_assoc, sm_f, ih, hf _ (by omega)]; omega
theorem on_le {q : Nat → Int} {x : Nat} (hq : ∀ k, q k ≤ 4184623143714816) : ∀ n, on_A q x n → 0 ≤ on_v q x n ∧ on_v q x n ≤ 4184623143714816 * n := by
  intro n
  induction n with
  | zero => intro _; exact ⟨Int.le_refl _, Int.le_refl _⟩
  | succ n ih =>
    intro h
    have i1 := ih (fun k hk => h k (by omega))
    have h1 := h n (by omega)
    have h2 := hq n
    rw [on_v]
    split
    · next e => have := h1 e; omega
    · omega
theorem dl_24 {q : Nat → Nat → Int} {room : Nat → Int} {n : Nat} {C : Nat → Int} (hC : ∀ x, x < 2 ^ n → C x = if x = 0 then 0 else 9223372036854775807) : dl_I q room n 24 C := by
  intro x hx
  rw [hC x hx]
  by_cases e : x = 0
  · rw [if_pos e]
    refine Or.inr ⟨⟨Int.le_refl _, by omega⟩, fun b _ => ?_⟩
    unfold dv_v
    rw [sm_cg (g := fun _ => 0) n (fun k _ => by rw [e, Nat.zero_testBit]; rfl), sm_z]
    exact Int.le_refl _
  · rw [if_neg e]
    refine Or.inl ⟨rfl, fun b hb => e ?_⟩
    apply Nat.eq_of_testBit_eq
    intro k
    rw [Nat.zero_testBit]
    cases hk : Nat.testBit x k with
    | false => rfl
    | true =>
      by_cases h2 : k < n
      · have := hb.1 k h2 hk; omega
      · rw [bit_out hx (by omega)] at hk; cases hk
theorem dl_s {q : Nat → Nat → Int} {room : Nat → Int} {n s : Nat} {C C' : Nat → Int} (hn : n ≤ 10) (hs : s < 24) (hq : ∀ s k, q s k ≤ 4184623143714816) (h : dl_I q room n (s + 1) C) (h' : ∀ x, x < 2 ^ n → (C' x = 9223372036854775807 ∨ ∃ p, vq_P q room n s C x p ∧ C' x = on_v (q s) p n + C (rmv x p)) ∧ ∀ p, vq_P q room n s C x p → C' x ≠ 9223372036854775807 ∧ C' x ≤ on_v (q s) p n + C (rmv x p)) : dl_I q room n s C' := by
  intro x hx
  obtain ⟨h1, h2⟩ := h' x hx
  have part : ∀ b, df_F q room n s b x → ∃ p, vq_P q room n s C x p ∧ on_v (q s) p n + C (rmv x p) ≤ dv_v q b x n := by
    intro b hb
    have pb := mk_b (fun k => Nat.testBit x k && decide (b k = s)) n
    generalize mk_m (fun k => Nat.testBit x k && decide (b k = s)) n = p at pb
    have pk : ∀ k, Nat.testBit p k = true ↔ k < n ∧ Nat.testBit x k = true ∧ b k = s := fun k => by rw [pb k]; simp
    have hsub : p &&& x = p := sb_bits.mpr (fun k hk => ((pk k).mp hk).2.1)
    have hrx : rmv x p < 2 ^ n := Nat.lt_of_le_of_lt (rmv_le x p) hx
    have rb : ∀ k, k < n → (Nat.testBit (rmv x p) k = true ↔ Nat.testBit x k = true ∧ b k ≠ s) := fun k hk => by
      rw [rmv_b]
      have := pk k
      cases hxk : Nat.testBit x k <;> cases hpk : Nat.testBit p k <;> simp_all
    have hA : on_A (q s) p n := fun k hk hb2 => by
      have e := (pk k).mp hb2
      have := hb.1 k hk e.2.1
      rw [e.2.2] at this; exact this.2.2
    have hcnt : mc_v p 10 ≤ room s := by
      have e1 : mc_v p 10 = cx_v b x s n := by
        rw [mc_sm]
        have : sm_f (fun k => if Nat.testBit p k = true then (1 : Int) else 0) 10 = sm_f (fun k => if Nat.testBit p k = true then (1 : Int) else 0) n := by
          have := sm_cut (f := fun k => if Nat.testBit p k = true then (1 : Int) else 0) (n := n) (fun k hk => if_neg (fun z => by have := (pk k).mp z; omega)) (10 - n)
          rw [show n + (10 - n) = 10 by omega] at this; exact this
        rw [this]
        unfold cx_v
        refine sm_cg n (fun k hk => ?_)
        have := pk k
        by_cases z : Nat.testBit x k = true ∧ b k = s
        · rw [if_pos (this.mpr ⟨hk, z⟩), if_pos z]
        · rw [if_neg (fun w => z (this.mp w).2), if_neg z]
      rw [e1]; exact hb.2 s (Nat.le_refl _) hs
    have hdf : df_F q room n (s + 1) b (rmv x p) := by
      refine ⟨fun k hk hb2 => ?_, fun t ht1 ht2 => ?_⟩
      · have e := (rb k hk).mp hb2
        have := hb.1 k hk e.1
        exact ⟨by omega, this.2⟩
      · have : cx_v b (rmv x p) t n = cx_v b x t n := by
          unfold cx_v
          refine sm_cg n (fun k hk => ?_)
          have := rb k hk
          by_cases z : Nat.testBit x k = true ∧ b k = t
          · rw [if_pos z, if_pos ⟨this.mpr ⟨z.1, by omega⟩, z.2⟩]
          · rw [if_neg z, if_neg (fun w => z ⟨(this.mp w.1).1, w.2⟩)]
        rw [this]; exact hb.2 t (by omega) ht2
    have hdv : dv_v q b x n = on_v (q s) p n + dv_v q b (rmv x p) n := by
      rw [on_sm]
      unfold dv_v
      rw [← sm_ad]
      refine sm_cg n (fun k hk => ?_)
      have e1 := pk k
      have e2 := rb k hk
      by_cases z : Nat.testBit x k = true
      · by_cases w : b k = s
        · rw [if_pos z, if_pos (e1.mpr ⟨hk, z, w⟩), if_neg (fun u => (e2.mp u).2 w), w]; omega
        · rw [if_pos z, if_neg (fun u => w (e1.mp u).2.2), if_pos (e2.mpr ⟨z, w⟩)]; omega
      · rw [if_neg z, if_neg (fun u => z (e1.mp u).2.1), if_neg (fun u => z (e2.mp u).1)]; omega
    rcases h (rmv x p) hrx with ⟨c1, c2⟩ | ⟨c1, c2⟩
    · exact absurd hdf (c2 b)
    · have := c2 b hdf
      exact ⟨p, ⟨hsub, hA, hcnt, by omega⟩, by omega⟩
  rcases h1 with h1 | ⟨p, hp, e⟩
  · refine Or.inl ⟨h1, fun b hb => ?_⟩
    obtain ⟨p, hp, -⟩ := part b hb
    exact (h2 p hp).1 h1
  · refine Or.inr ⟨?_, fun b hb => ?_⟩
    · have ol := on_le (q := q s) (x := p) (fun k => hq s k) n hp.2.1
      rcases h (rmv x p) (Nat.lt_of_le_of_lt (rmv_le x p) hx) with ⟨c1, c2⟩ | ⟨c1, c2⟩
      · exact absurd c1 hp.2.2.2
      · rw [e]; omega
    · obtain ⟨p2, hp2, h3⟩ := part b hb
      have := (h2 p2 hp2).2; omega
/-- a plan told shelf by shelf: those not in x have their shelf -/
def rc_I (q : Nat → Nat → Int) (room : Nat → Int) (n s : Nat) (b : Nat → Nat) (x : Nat) (rest all : Int) : Prop := (∀ k, k < n → Nat.testBit x k = false → b k < s ∧ 0 ≤ q (b k) k) ∧ (∀ t, t < s → t < 24 → sm_f (fun k => if Nat.testBit x k = false ∧ b k = t then 1 else 0) n ≤ room t) ∧ sm_f (fun k => if Nat.testBit x k = false then q (b k) k else 0) n + rest = all
theorem rc_s {q : Nat → Nat → Int} {room : Nat → Int} {n s : Nat} {b b' : Nat → Nat} {x p : Nat} {C C' : Nat → Int} {all : Int} (hn : n ≤ 10) (hx : x < 2 ^ n) (h : rc_I q room n s b x (C' x) all) (hp : vq_P q room n s C x p) (e : C' x = on_v (q s) p n + C (rmv x p)) (hb1 : ∀ k, k < n → Nat.testBit p k = true → b' k = s) (hb2 : ∀ k, k < n → Nat.testBit p k = false → b' k = b k) : rc_I q room n (s + 1) b' (rmv x p) (C (rmv x p)) all := by
  obtain ⟨h1, h2, h3⟩ := h
  have psub := sb_bits.mp hp.1
  have rb : ∀ k, (Nat.testBit (rmv x p) k = false ↔ Nat.testBit x k = false ∨ Nat.testBit p k = true) := fun k => by
    rw [rmv_b]; cases Nat.testBit x k <;> cases Nat.testBit p k <;> simp
  refine ⟨fun k hk hr => ?_, fun t ht ht24 => ?_, ?_⟩
  · cases hpk : Nat.testBit p k with
    | true => rw [hb1 k hk hpk]; exact ⟨by omega, hp.2.1 k hk hpk⟩
    | false =>
      rw [hb2 k hk hpk]
      rcases (rb k).mp hr with z | z
      · have := h1 k hk z; exact ⟨by omega, this.2⟩
      · rw [hpk] at z; cases z
  · by_cases ets : t = s
    · subst ets
      have : sm_f (fun k => if Nat.testBit (rmv x p) k = false ∧ b' k = t then (1 : Int) else 0) n ≤ mc_v p 10 := by
        rw [mc_sm]
        have hc := sm_cut (f := fun k => if Nat.testBit p k = true then (1 : Int) else 0) (n := n) (fun k hk => if_neg (fun z => by rw [bit_out (Nat.lt_of_le_of_lt (by rw [← hp.1]; exact Nat.and_le_right) hx) hk] at z; cases z)) (10 - n)
        rw [show n + (10 - n) = 10 by omega] at hc
        rw [hc]
        refine sm_le n (fun k hk => ?_)
        by_cases z : Nat.testBit p k = true
        · rw [if_pos z]; split <;> omega
        · have z' : Nat.testBit p k = false := by simpa using z
          rw [if_neg z, if_neg (fun w => by
            rcases (rb k).mp w.1 with u | u
            · have := (h1 k hk u).1; have := w.2; rw [hb2 k hk z'] at this; omega
            · exact z u)]
          exact Int.le_refl _
      exact Int.le_trans this hp.2.2.1
    · have : sm_f (fun k => if Nat.testBit (rmv x p) k = false ∧ b' k = t then (1 : Int) else 0) n = sm_f (fun k => if Nat.testBit x k = false ∧ b k = t then (1 : Int) else 0) n := by
        refine sm_cg n (fun k hk => ?_)
        cases hpk : Nat.testBit p k with
        | true =>
          have hxk := psub k hpk
          rw [if_neg (fun w => ets (by have := w.2; rw [hb1 k hk hpk] at this; omega)), if_neg (fun w => by rw [hxk] at w; exact absurd w.1 (by decide))]
        | false =>
          rw [hb2 k hk hpk]
          by_cases z : Nat.testBit x k = false ∧ b k = t
          · rw [if_pos z, if_pos ⟨(rb k).mpr (Or.inl z.1), z.2⟩]
          · have z2 : ¬ (Nat.testBit (rmv x p) k = false ∧ b k = t) := by
              intro w
              rcases (rb k).mp w.1 with u | u
              · exact z ⟨u, w.2⟩
              · rw [hpk] at u; cases u
            rw [if_neg z, if_neg z2]
      rw [this]; exact h2 t (by omega) ht24
  · rw [e, on_sm] at h3
    have : sm_f (fun k => if Nat.testBit (rmv x p) k = false then q (b' k) k else 0) n = sm_f (fun k => if Nat.testBit x k = false then q (b k) k else 0) n + sm_f (fun k => if Nat.testBit p k = true then q s k else 0) n := by
      rw [← sm_ad]
      refine sm_cg n (fun k hk => ?_)
      cases hpk : Nat.testBit p k with
      | true =>
        have hxk := psub k hpk
        rw [hb1 k hk hpk, if_pos ((rb k).mpr (Or.inr hpk)), if_neg (by rw [hxk]; decide), if_pos rfl]; omega
      | false =>
        rw [hb2 k hk hpk]
        by_cases z : Nat.testBit x k = false
        · rw [if_pos ((rb k).mpr (Or.inl z)), if_pos z, if_neg (by decide)]; omega
        · rw [if_neg (fun w => by
            rcases (rb k).mp w with u | u
            · exact z u
            · rw [hpk] at u; cases u), if_neg z, if_neg (by decide)]; omega
    omega
