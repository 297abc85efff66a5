/-! ===== both plans over the two descriptions of the same cellar ===== -/
/-- the same suits and shelves, told twice -/
def tw_P (su su' : Nat → Nat → Int) (sh sh' : Nat → Int) (wc : Nat) : Prop := (∀ w, w < wc → sh w = sh' w ∧ -1 ≤ sh w ∧ sh w ≤ 23) ∧ ∀ w s, w < wc → s < 24 → su w s = su' w s
theorem tw_gy {su su' : Nat → Nat → Int} {sh sh' : Nat → Int} {wc : Nat} (h : tw_P su su' sh sh' wc) : gy_c su sh wc = gy_c su' sh' wc ∧ gy_w su sh wc = gy_w su' sh' wc := gy_cg wc (fun w hw => (h.1 w hw).1) (fun w hw _ => h.2 w _ hw (by have := h.1 w hw; omega))
theorem qm_cg {su su' : Nat → Nat → Int} {sh sh' : Nat → Int} {wc n : Nat} {gw : Nat → Nat} (h : tw_P su su' sh sh' wc) (hg : ∀ k, k < n → gw k < wc) : qm_v su sh gw n = qm_v su' sh' gw n := by
  funext s k
  unfold qm_v
  by_cases z : s < 24 ∧ k < n
  · rw [(h.1 (gw k) (hg k z.2)).1, h.2 (gw k) s (hg k z.2) z.1]
  · rw [if_neg (fun y => z y.1), if_neg (fun y => z y.1)]
theorem rk_cs {sh sh' : Nat → Int} {gw : Nat → Nat} {s : Int} : ∀ n, (∀ k, k < n → sh (gw k) = sh' (gw k)) → rk_c sh gw s n = rk_c sh' gw s n := by
  intro n
  induction n with
  | zero => intro _; rfl
  | succ n ih => intro h; rw [rk_c, rk_c, ih (fun k hk => h k (by omega)), h n (by omega)]
theorem tw_room {su su' : Nat → Nat → Int} {sh sh' r0 : Nat → Int} {wc : Nat} (h : tw_P su su' sh sh' wc) (hr0 : ∀ s, s < 24 → r0 s = 4 - ct_n sh' s wc) {s : Nat} (hs : s < 24) : gy_r su sh r0 wc s = 4 - ct_n sh' s wc + rk_c sh' (gy_w su sh wc) s (gy_c su sh wc) := by
  rw [gy_room wc (fun w hw => (h.1 w hw).2.1), hr0 s hs, rk_cs (sh' := sh') _ (fun k hk => (h.1 _ (gy_p wc k hk).1).1)]
/-- goers lie on a shelf -/
theorem tw_hh {su su' : Nat → Nat → Int} {sh sh' : Nat → Int} {wc : Nat} (h : tw_P su su' sh sh' wc) : ∀ k, k < gy_c su sh wc → 0 ≤ sh (gy_w su sh wc k) ∧ sh (gy_w su sh wc k) ≤ 23 := fun k hk => by
  have g := gy_p (su := su) (sh := sh) wc k hk
  have g2 := h.1 _ g.1
  have g3 := g.2.1
  exact ⟨by omega, g2.2.2⟩
/-- what the two find: no place for all on both sides, or the same shelves -/
theorem tw_none {su su' : Nat → Nat → Int} {sh sh' r0 room : Nat → Int} {wc : Nat} (h : tw_P su su' sh sh' wc) (hr0 : ∀ s, s < 24 → r0 s = 4 - ct_n sh' s wc) (hn : gy_c su sh wc ≤ 10) (hroom : ∀ s, s < 24 → room s = 4 - ct_n sh' s wc + rk_c sh' (gy_w su sh wc) s (gy_c su sh wc)) (b : Nat → Nat) : as_F (px_v su sh (gy_w su sh wc) (gy_c su sh wc)) (gy_r su sh r0 wc) b (gy_c su sh wc) ↔ df_F (qm_v su' sh' (gy_w su sh wc) (gy_c su sh wc)) room (gy_c su sh wc) 0 b (2 ^ (gy_c su sh wc) - 1) := by
  rw [← qm_cg h (fun k hk => (gy_p wc k hk).1)]
  exact as_df hn (tw_hh h) (fun s hs => by rw [tw_room h hr0 hs, hroom s hs])
theorem tw_same {su su' : Nat → Nat → Int} {sh sh' r0 room y : Nat → Int} {wc : Nat} {a b : Nat → Nat} (h : tw_P su su' sh sh' wc) (hr0 : ∀ s, s < 24 → r0 s = 4 - ct_n sh' s wc) (hn : gy_c su sh wc ≤ 10) (hroom : ∀ s, s < 24 → room s = 4 - ct_n sh' s wc + rk_c sh' (gy_w su sh wc) s (gy_c su sh wc)) (ha : as_F (px_v su sh (gy_w su sh wc) (gy_c su sh wc)) (gy_r su sh r0 wc) a (gy_c su sh wc)) (hy : as_Y (px_v su sh (gy_w su sh wc) (gy_c su sh wc)) (gy_r su sh r0 wc) a (gy_c su sh wc) y) (hb : df_F (qm_v su' sh' (gy_w su sh wc) (gy_c su sh wc)) room (gy_c su sh wc) 0 b (2 ^ (gy_c su sh wc) - 1)) (hm : ∀ b', df_F (qm_v su' sh' (gy_w su sh wc) (gy_c su sh wc)) room (gy_c su sh wc) 0 b' (2 ^ (gy_c su sh wc) - 1) → dv_v (qm_v su' sh' (gy_w su sh wc) (gy_c su sh wc)) b (2 ^ (gy_c su sh wc) - 1) (gy_c su sh wc) ≤ dv_v (qm_v su' sh' (gy_w su sh wc) (gy_c su sh wc)) b' (2 ^ (gy_c su sh wc) - 1) (gy_c su sh wc)) : (∀ k, k < gy_c su sh wc → a k = b k) ∧ sm_f (fun k => wy_v (sh (gy_w su sh wc k)).toNat (a k)) (gy_c su sh wc) = sm_f (fun k => wy_v (sh' (gy_w su sh wc k)).toNat (b k)) (gy_c su sh wc) := by
  rw [← qm_cg h (fun k hk => (gy_p wc k hk).1)] at hb hm
  have e := pl_eq hn (tw_hh h) (fun s hs => by rw [tw_room h hr0 hs, hroom s hs]) ha hy hb hm
  exact ⟨e, sm_cg _ (fun k hk => by rw [e k hk, (h.1 _ (gy_p wc k hk).1).1])⟩
