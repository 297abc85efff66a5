/-! ===== a new wheel, on both sides ===== -/
def wk_K (G : mm_T) (wc c : Nat) (kd s m1 l1 m2 l2 m3 l3 : Int) : Prop := wc < 40 ∧ c < 200 ∧ (0 ≤ kd ∧ kd ≤ 2) ∧ (0 ≤ s ∧ s ≤ 23 ∧ mm_I G 4 s.toNat < 4) ∧ m1 ≠ -1 ∧ xu_am G m1 l1 m2 l2 m3 l3
def wk_M (G : mm_T) (wc c : Nat) (kd s m1 l1 m2 l2 m3 l3 : Int) : Prop := wc < 40 ∧ c < 200 ∧ (0 ≤ kd ∧ kd ≤ 2) ∧ (0 ≤ s ∧ s ≤ 23) ∧ ct_n (mm_I G 67) s wc < 4 ∧ 0 ≤ m1 ∧ (m1 = -1 ∨ (0 ≤ m1 ∧ m1 < mm_I G 60 3 ∧ 1 ≤ l1 ∧ l1 ≤ mm_I G 64 m1.toNat)) ∧ (m2 = -1 ∨ (0 ≤ m2 ∧ m2 < mm_I G 60 3 ∧ 1 ≤ l2 ∧ l2 ≤ mm_I G 64 m2.toNat)) ∧ (m3 = -1 ∨ (0 ≤ m3 ∧ m3 < mm_I G 60 3 ∧ 1 ≤ l3 ∧ l3 ≤ mm_I G 64 m3.toNat)) ∧ m1 ≠ m2 ∧ m1 ≠ m3 ∧ (m2 ≠ m3 ∨ m2 = -1)
theorem wk_p {G : mm_T} {mc wc : Nat} (hM : gi_M G mc wc) (m l : Int) : (m = -1 ∨ (0 ≤ m ∧ m < mm_I G 0 13 ∧ 1 ≤ l ∧ l ≤ mm_I G (200 + m.toNat) 1)) ↔ (m = -1 ∨ (0 ≤ m ∧ m < mm_I G 60 3 ∧ 1 ≤ l ∧ l ≤ mm_I G 64 m.toNat)) := by
  obtain ⟨m1, m2, m3, -, -, m6⟩ := hM
  rw [m1, m2]
  by_cases y : 0 ≤ m ∧ m < (mc : Int)
  · rw [(m6 m.toNat (by omega)).1.2.1]
  · exact ⟨fun x => x.imp id (fun x => absurd ⟨x.1, x.2.1⟩ y), fun x => x.imp id (fun x => absurd ⟨x.1, x.2.1⟩ y)⟩
theorem wk_i {G : mm_T} {mc wc c : Nat} {kd s m1 l1 m2 l2 m3 l3 : Int} (hM : gi_M G mc wc) (hL : gi_L G wc) : wk_K G wc c kd s m1 l1 m2 l2 m3 l3 ↔ wk_M G wc c kd s m1 l1 m2 l2 m3 l3 := by
  have l4 : 0 ≤ s ∧ s ≤ 23 → mm_I G 4 s.toNat = ct_n (mm_I G 67) s wc := fun hs => by
    rw [(hL s.toNat (by omega)).1, show ((s.toNat : Nat) : Int) = s by omega]
  constructor
  · rintro ⟨a1, a2, a3, ⟨a4, a5, a6⟩, a7, b1, b2, b3⟩
    have b2' := (wk_p hM m2 l2).mp (b2.imp id And.right)
    have b3' := (wk_p hM m3 l3).mp (b3.imp id (fun x => x.2.2))
    have b0 : 0 ≤ m1 := b1.elim (fun x => absurd x a7) And.left
    refine ⟨a1, a2, a3, ⟨a4, a5⟩, by rw [← l4 ⟨a4, a5⟩]; exact a6, b0, (wk_p hM m1 l1).mp b1, b2', b3', ?_, ?_, ?_⟩
    · exact b2.elim (fun x => by omega) And.left
    · exact b3.elim (fun x => by omega) And.left
    · exact b3.elim (fun x => by omega) (fun x => Or.inl x.2.1)
  · rintro ⟨a1, a2, a3, ⟨a4, a5⟩, a6, a7, b1, b2, b3, n1, n2, n3⟩
    refine ⟨a1, a2, a3, ⟨a4, a5, by rw [l4 ⟨a4, a5⟩]; exact a6⟩, by omega, (wk_p hM m1 l1).mpr b1, ((wk_p hM m2 l2).mpr b2).imp id (fun x => ⟨n1, x⟩), ((wk_p hM m3 l3).mpr b3).elim Or.inl (fun x => Or.inr ⟨n2, by omega, x⟩)⟩
theorem gq_wheel_n (X : gx_T) (d : Nat) {G : mm_T} {mc wc c kc z : Nat} {T : Int} (h : gi_G G mc wc c kc z T) {kd s m1 l1 m2 l2 m3 l3 : Int} (h0 : i3_in kd) (hs : i3_in s) (h1 : i3_in m1) (h2 : i3_in l1) (h3 : i3_in m2) (h4 : i3_in l2) (h5 : i3_in m3) (h6 : i3_in l3) (hn : ¬ wk_K G wc c kd s m1 l1 m2 l2 m3 l3) : aw_M X (d + 59) mt_K_wheel [av_r (some 0), av_i kd, av_i s, av_i m1, av_i l1, av_i m2, av_i l2, av_i m3, av_i l3] G 0 0 (gj_P X (d + 59) mt_Mo_wheel [av_r (some 60), av_i kd, av_i s, av_i m1, av_i l1, av_i m2, av_i l2, av_i m3, av_i l3] (gi_J mc wc)) := by
  obtain ⟨hF, hD, hA, hFa, hT, hB, hM, hC, hX, hE, hN, hL, hI, hS, hK, hP, hO⟩ := id h
  obtain ⟨c1, c2, c3, c4, c5, c6⟩ := id hC
  refine am_mono ?_ (cm_K_wheel_n X (d + 54) G hF (gi_W hC hM hX) c1 c3 h0 hs h1 h2 h3 h4 h5 h6 c4 c6 (gi_hly hL) hn)
  rintro r G1 ⟨rfl, e1⟩
  have f1 : ∀ b j : Nat, ¬ (b = 40 ∨ b = 41) → mm_I G1 b j = mm_I G b j := by
    rw [e1]; unfold xu_v; exact ff_s (P := fun b j => ¬ (b = 40 ∨ b = 41)) (ff_s (ff_s (ff_s (ff_s (ff_s (ff_0 _ G) (by omega)) (by omega)) (by omega)) (by omega)) (by omega)) (by omega)
  have hJ : gi_G G1 mc wc c kc z T := gi_sc h (fun b j x => f1 b j (by omega)) (by rw [e1]; rfl) (by rw [e1]; rfl)
  obtain ⟨hF1, -, -, -, -, -, hM1, hC1, -, -, hN1, hL1, -⟩ := id hJ
  have c40 := hC1.2.2.1
  have m30 := hM1.2.2.1
  refine ⟨_, rfl, am_mono ?_ (cm_Mo_wheel X (d + 56) G1 hF1 h0 hs h1 h2 h3 h4 h5 h6 hC1.2.1 c3 hC1.2.2.2.2.1 c6 (by rw [hM1.2.1]; omega) (fun k hk => (hM1.2.2.2.2.2 k hk).2.1) (fun k hk => by have := (hM1.2.2.2.2.2 k hk).2.2; omega) (fun q => (hN1.2.2 wc (Nat.le_refl _) q).1))⟩
  rintro r G2 (⟨x, -⟩ | ⟨-, rfl, rfl⟩)
  · exfalso
    refine hn ((wk_i hM hL).mpr ?_)
    have r67 : mm_I G1 67 = mm_I G 67 := funext fun j => f1 67 j (by omega)
    have r64 : mm_I G1 64 = mm_I G 64 := funext fun j => f1 64 j (by omega)
    rw [r67, r64, f1 60 3 (by omega)] at x
    exact x
  · exact ⟨rfl, c, kc, z, T, hJ⟩
theorem xl_ff {P : Nat → Nat → Prop} {A : mm_T} {w c : Nat} {s t : Int} (h : ∀ b j, P b j → ¬ (b = 4 ∨ (13 ≤ b ∧ b ≤ 16) ∨ (b = 300 + w ∧ (j = 4 ∨ j = 5)) ∨ (b = 12 ∧ j = 4))) : ff_F P A (xl_y A w s t c) := by
  unfold xl_y
  exact ff_s (ff_s (ff_s (ff_s (ff_s (ff_s (ff_s (ff_s (ff_0 P A) (fun x => h _ _ x (by omega))) (fun x => h _ _ x (by omega))) (fun x => h _ _ x (by omega))) (fun x => h _ _ x (by omega))) (fun x => h _ _ x (by omega))) (fun x => h _ _ x (by omega))) (fun x => h _ _ x (by omega))) (fun x => h _ _ x (by omega))
theorem ml_ff {P : Nat → Nat → Prop} {A : mm_T} {w s : Int} {c : Nat} (h : ∀ b j, P b j → ¬ (b = 67 ∨ b = 73 ∨ (75 ≤ b ∧ b ≤ 78) ∨ (b = 60 ∧ j = 5))) : ff_F P A (ml_y A w s c) := by
  unfold ml_y
  exact ff_s (ff_s (ff_s (ff_s (ff_s (ff_s (ff_s (ff_0 P A) (fun x => h _ _ x (by omega))) (fun x => h _ _ x (by omega))) (fun x => h _ _ x (by omega))) (fun x => h _ _ x (by omega))) (fun x => h _ _ x (by omega))) (fun x => h _ _ x (by omega))) (fun x => h _ _ x (by omega))
theorem xg_ff {P : Nat → Nat → Prop} {A : mm_T} {w : Nat} {m l : Int} (hm : m < 30) (h : ∀ b j, P b j → (b < 200 ∨ 230 ≤ b) ∧ ¬ (b = 300 + w ∧ (j = 8 ∨ j = 3))) : ff_F P A (xg_v A w m l) := fun b j x => by
  have q := h b j x
  by_cases y : b = 300 + w
  · subst y; exact xg_w A (by omega) (by omega) hm
  · rw [xg_o A w m l q.1 y hm]
theorem mg_ff {P : Nat → Nat → Prop} {A : mm_T} {w m l : Int} (h : ∀ b j, P b j → ¬ (b = 64 ∨ b = 65 ∨ b = 70 ∨ b = 74)) : ff_F P A (mg_v A w m l) := fun b j x => by
  have q := h b j x
  rw [mg_o A w m l (by omega) (by omega) (by omega) (by omega)]
theorem xw_ff {P : Nat → Nat → Prop} {A : mm_T} {w : Nat} {k t : Int} (h : ∀ b j, P b j → b ≠ 300 + w) : ff_F P A (xw_0 A w k t) := fun b j x => by
  rw [xw_o A w k t (h b j x)]
