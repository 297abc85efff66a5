/-! ===== both plans are one ===== -/
theorem rk_cg {sh : Nat → Int} {gw gw' : Nat → Nat} {s : Int} : ∀ n, (∀ k, k < n → gw k = gw' k) → rk_c sh gw s n = rk_c sh gw' s n := by
  intro n
  induction n with
  | zero => intro _; rfl
  | succ n ih => intro h; rw [rk_c, rk_c, ih (fun k hk => h k (by omega)), h n (by omega)]
theorem gy_room {su : Nat → Nat → Int} {sh r0 : Nat → Int} {s : Nat} : ∀ i, (∀ w, w < i → -1 ≤ sh w) → gy_r su sh r0 i s = r0 s + rk_c sh (gy_w su sh i) s (gy_c su sh i) := by
  intro i
  induction i with
  | zero => intro _; rw [gy_r, gy_c, rk_c, Int.add_zero]
  | succ i ih =>
    intro h
    have i1 := ih (fun w hw => h w (by omega))
    have h0 := h i (by omega)
    rw [gy_r, gy_c, gy_w]
    by_cases q : sh i ≠ -1 ∧ su i (sh i).toNat ≠ 1
    · rw [if_pos q, if_pos q, if_pos q, rk_c, rk_cg (gw' := gy_w su sh i) (gy_c su sh i) (fun k hk => by unfold upn; rw [if_neg (by omega)])]
      have e : upn (gy_w su sh i) (gy_c su sh i) i (gy_c su sh i) = i := by unfold upn; rw [if_pos rfl]
      rw [e]
      unfold upp
      by_cases z : s = (sh i).toNat
      · rw [if_pos z, if_pos (by omega), ← z, i1]; omega
      · rw [if_neg z, if_neg (by omega), i1]; omega
    · rw [if_neg q, if_neg q, if_neg q, Nat.add_zero]; exact i1
theorem gy_inc {su : Nat → Nat → Int} {sh : Nat → Int} : ∀ i j k, j < k → k < gy_c su sh i → gy_w su sh i j < gy_w su sh i k := by
  intro i
  induction i with
  | zero => intro j k hj hk; rw [gy_c] at hk; omega
  | succ i ih =>
    intro j k hj hk
    rw [gy_c] at hk
    rw [gy_w]
    by_cases q : sh i ≠ -1 ∧ su i (sh i).toNat ≠ 1
    · rw [if_pos q] at hk ⊢
      unfold upn
      rw [if_neg (show j ≠ gy_c su sh i by omega)]
      by_cases e : k = gy_c su sh i
      · rw [if_pos e]; exact (gy_p i j (by omega)).1
      · rw [if_neg e]; exact ih j k hj (by omega)
    · rw [if_neg q] at hk ⊢; exact ih j k hj (by omega)
theorem gy_cg {su su' : Nat → Nat → Int} {sh sh' : Nat → Int} : ∀ i, (∀ w, w < i → sh w = sh' w) → (∀ w, w < i → sh w ≠ -1 → su w (sh w).toNat = su' w (sh w).toNat) → gy_c su sh i = gy_c su' sh' i ∧ gy_w su sh i = gy_w su' sh' i := by
  intro i
  induction i with
  | zero => intro _ _; exact ⟨rfl, rfl⟩
  | succ i ih =>
    intro h1 h2
    obtain ⟨i1, i2⟩ := ih (fun w hw => h1 w (by omega)) (fun w hw => h2 w (by omega))
    have e1 := h1 i (by omega)
    have e2 := h2 i (by omega)
    rw [gy_c, gy_w, gy_c, gy_w, i1, i2, ← e1]
    by_cases z : sh i = -1
    · rw [if_neg (fun y => y.1 z), if_neg (fun y => y.1 z), if_neg (fun y => y.1 z), if_neg (fun y => y.1 z)]; exact ⟨rfl, rfl⟩
    · rw [e2 z]; exact ⟨rfl, rfl⟩
theorem dg_tw {k : Nat} (hk : k < 10) : dg_v (k + 1) = tw_v (9 - k) := by
  have hk : k = 0 ∨ k = 1 ∨ k = 2 ∨ k = 3 ∨ k = 4 ∨ k = 5 ∨ k = 6 ∨ k = 7 ∨ k = 8 ∨ k = 9 := by omega
  rcases hk with rfl | rfl | rfl | rfl | rfl | rfl | rfl | rfl | rfl | rfl <;> decide
theorem pz_co {n h k s : Nat} (hn : n ≤ 10) (hk : k < n) : pz_v h k s = tw_v (10 - n) * co_v n h k s := by
  unfold pz_v co_v
  rw [Int.mul_add, ← Int.mul_assoc, ← Int.mul_assoc, ← tw_a, ← tw_a, dg_tw (by omega), show 10 - n + n = 10 by omega, show 10 - n + (n - 1 - k) = 9 - k by omega, show tw_v 10 = 63403380965376 from by decide, Int.mul_comm (wy_v h s), Int.mul_comm (s : Int)]
theorem sm_ml (c : Int) (f : Nat → Int) : ∀ n, sm_f (fun k => c * f k) n = c * sm_f f n := by
  intro n
  induction n with
  | zero => rw [sm_f, sm_f, Int.mul_zero]
  | succ n ih => rw [sm_f, sm_f, ih, Int.mul_add]
def hn_v (a : Nat → Nat) : Nat → Int
  | 0 => 0
  | n + 1 => hn_v a n * 24 + (a n : Nat)
theorem hn_sm (a : Nat → Nat) : ∀ n, sm_f (fun k => tw_v (n - 1 - k) * (a k : Nat)) n = hn_v a n := by
  intro n
  induction n with
  | zero => rfl
  | succ n ih =>
    rw [sm_f, hn_v, ← ih, Int.mul_comm _ 24, ← sm_ml]
    rw [sm_cg (g := fun k => 24 * (tw_v (n - 1 - k) * (a k : Nat))) n (fun k hk => by
      rw [show n + 1 - 1 - k = (n - 1 - k) + 1 by omega, tw_v, Int.mul_comm _ 24, Int.mul_assoc])]
    rw [show n + 1 - 1 - n = 0 by omega, tw_v, Int.one_mul]
theorem hn_r {a : Nat → Nat} : ∀ n, (∀ k, k < n → a k < 24) → 0 ≤ hn_v a n ∧ hn_v a n < tw_v n := by
  intro n
  induction n with
  | zero => intro _; rw [hn_v, tw_v]; omega
  | succ n ih => intro h; have := ih (fun k hk => h k (by omega)); have := h n (by omega); rw [hn_v, tw_v]; omega
theorem hn_u {a b : Nat → Nat} : ∀ n, (∀ k, k < n → a k < 24) → (∀ k, k < n → b k < 24) → hn_v a n = hn_v b n → ∀ k, k < n → a k = b k := by
  intro n
  induction n with
  | zero => intro _ _ _ k hk; omega
  | succ n ih =>
    intro ha hb h k hk
    rw [hn_v, hn_v] at h
    have a1 := ha n (by omega)
    have b1 := hb n (by omega)
    by_cases e : k = n
    · rw [e]; omega
    · exact ih (fun k hk => ha k (by omega)) (fun k hk => hb k (by omega)) (by omega) k (by omega)
theorem co_sm (n : Nat) (h a : Nat → Nat) : sm_f (fun k => co_v n (h k) k (a k)) n = tw_v n * sm_f (fun k => wy_v (h k) (a k)) n + hn_v a n := by
  unfold co_v
  rw [sm_ad, sm_ml, hn_sm]
/-- equal cost: the same places -/
theorem co_u {n : Nat} {h a b : Nat → Nat} (ha : ∀ k, k < n → a k < 24) (hb : ∀ k, k < n → b k < 24) (e : sm_f (fun k => co_v n (h k) k (a k)) n = sm_f (fun k => co_v n (h k) k (b k)) n) : ∀ k, k < n → a k = b k := by
  rw [co_sm, co_sm] at e
  have r1 := hn_r n ha
  have r2 := hn_r n hb
  have em : (tw_v n * sm_f (fun k => wy_v (h k) (a k)) n + hn_v a n) % tw_v n = (tw_v n * sm_f (fun k => wy_v (h k) (b k)) n + hn_v b n) % tw_v n := by rw [e]
  rw [Int.mul_add_emod_self_left, Int.mul_add_emod_self_left, Int.emod_eq_of_lt r1.1 r1.2, Int.emod_eq_of_lt r2.1 r2.2] at em
  exact hn_u n ha hb em
theorem cn_sm (a : Nat → Nat) (s : Nat) : ∀ n, ((cn_f a s n : Nat) : Int) = sm_f (fun k => if a k = s then 1 else 0) n := by
  intro n
  induction n with
  | zero => rfl
  | succ n ih => rw [cn_f, sm_f, ← ih]; split <;> omega
theorem cx_cn {b : Nat → Nat} {n t : Nat} : cx_v b (2 ^ n - 1) t n = (cn_f b t n : Nat) := by
  rw [cn_sm]; unfold cx_v
  apply sm_cg
  intro k hk
  rw [all_b hk]
  by_cases z : b k = t
  · rw [if_pos ⟨rfl, z⟩, if_pos z]
  · rw [if_neg (fun y => z y.2), if_neg z]
/-- the two feasibilities are one -/
theorem as_df {su : Nat → Nat → Int} {sh : Nat → Int} {gw : Nat → Nat} {n : Nat} {r room : Nat → Int} {b : Nat → Nat} (hn : n ≤ 10) (hh : ∀ k, k < n → 0 ≤ sh (gw k) ∧ sh (gw k) ≤ 23) (hr : ∀ s, s < 24 → r s = room s) : as_F (px_v su sh gw n) r b n ↔ df_F (qm_v su sh gw n) room n 0 b (2 ^ n - 1) := by
  have key : ∀ k s, k < n → s < 24 → (px_v su sh gw n k s ≠ 4611686018427387904 ↔ 0 ≤ qm_v su sh gw n s k) := fun k s hk hs => by
    have h0 := hh k hk
    have h24 : (sh (gw k)).toNat < 24 := by omega
    unfold px_v qm_v
    by_cases z : su (gw k) s = 1
    · rw [if_pos ⟨hk, z⟩, if_pos ⟨⟨hs, hk⟩, z⟩]
      have p1 := pz_r (k := k) h24 hs
      have p2 := co_r hn hk h24 hs
      constructor
      · intro _; exact p2.1
      · intro _ y; omega
    · rw [if_neg (fun y => z y.2), if_neg (fun y => z y.2)]
      constructor
      · intro y; exact absurd rfl y
      · intro y; omega
  constructor
  · intro h
    refine ⟨fun k hk _ => ?_, fun t _ ht => ?_⟩
    · have g := h.1 k hk
      exact ⟨by omega, g.1, (key k (b k) hk g.1).mp g.2⟩
    · rw [cx_cn, ← hr t ht]; exact h.2 t ht
  · intro h
    refine ⟨fun k hk => ?_, fun s hs => ?_⟩
    · have g := h.1 k hk (all_b hk)
      exact ⟨g.2.1, (key k (b k) hk g.2.1).mpr g.2.2⟩
    · have g := h.2 s (by omega) hs
      rw [cx_cn] at g; rw [hr s hs]; exact g
/-- what either finds -/
theorem pl_eq {su : Nat → Nat → Int} {sh : Nat → Int} {gw : Nat → Nat} {n : Nat} {r room y : Nat → Int} {a b : Nat → Nat} (hn : n ≤ 10) (hh : ∀ k, k < n → 0 ≤ sh (gw k) ∧ sh (gw k) ≤ 23) (hr : ∀ s, s < 24 → r s = room s) (ha : as_F (px_v su sh gw n) r a n) (hy : as_Y (px_v su sh gw n) r a n y) (hb : df_F (qm_v su sh gw n) room n 0 b (2 ^ n - 1)) (hm : ∀ b', df_F (qm_v su sh gw n) room n 0 b' (2 ^ n - 1) → dv_v (qm_v su sh gw n) b (2 ^ n - 1) n ≤ dv_v (qm_v su sh gw n) b' (2 ^ n - 1) n) : ∀ k, k < n → a k = b k := by
  have hb2 := (as_df hn hh hr).mpr hb
  have ha2 := (as_df hn hh hr).mp ha
  have l1 := as_best ha hy hb2
  have l2 := hm a ha2
  have sp : ∀ c, as_F (px_v su sh gw n) r c n → sm_f (fun k => px_v su sh gw n k (c k)) n = tw_v (10 - n) * sm_f (fun k => co_v n (sh (gw k)).toNat k (c k)) n := fun c hc => by
    rw [← sm_ml]
    apply sm_cg
    intro k hk
    have g := (hc.1 k hk).2
    unfold px_v at g ⊢
    by_cases z : k < n ∧ su (gw k) (c k) = 1
    · rw [if_pos z]; exact pz_co hn hk
    · rw [if_neg z] at g; exact absurd rfl g
  have sq : ∀ c, df_F (qm_v su sh gw n) room n 0 c (2 ^ n - 1) → dv_v (qm_v su sh gw n) c (2 ^ n - 1) n = sm_f (fun k => co_v n (sh (gw k)).toNat k (c k)) n := fun c hc => by
    unfold dv_v
    apply sm_cg
    intro k hk
    have g := hc.1 k hk (all_b hk)
    rw [all_b hk, if_pos rfl]
    have g2 := g.2.2
    unfold qm_v at g2 ⊢
    by_cases z : (c k < 24 ∧ k < n) ∧ su (gw k) (c k) = 1
    · rw [if_pos z]
    · rw [if_neg z] at g2; omega
  rw [sp a ha, sp b hb2] at l1
  rw [sq b hb, sq a ha2] at l2
  have t1 := tw_r (10 - n) (by omega)
  have l3 := Int.le_of_mul_le_mul_left l1 (by omega)
  exact co_u (fun k hk => (ha.1 k hk).1) (fun k hk => (hb2.1 k hk).1) (Int.le_antisymm l3 l2)
