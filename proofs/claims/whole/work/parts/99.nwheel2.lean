/-! ===== a new wheel: what both have then ===== -/
theorem xl_rows {A : mm_T} {w c : Nat} {s t : Int} : mm_I (xl_y A w s t c) 13 = upp (mm_I A 13) c w ∧ mm_I (xl_y A w s t c) 14 = upp (mm_I A 14) c s ∧ mm_I (xl_y A w s t c) 15 = upp (mm_I A 15) c t ∧ mm_I (xl_y A w s t c) 16 = upp (mm_I A 16) c (-1) ∧ mm_I (xl_y A w s t c) 4 = upp (mm_I A 4) s.toNat (mm_I A 4 s.toNat + 1) ∧ mm_I (xl_y A w s t c) 12 4 = (c + 1 : Nat) ∧ mm_I (xl_y A w s t c) (300 + w) 4 = s ∧ mm_I (xl_y A w s t c) (300 + w) 5 = c := by
  unfold xl_y
  refine ⟨?_, ?_, ?_, ?_, ?_, ?_, ?_, ?_⟩
  · simp (disch := omega) only [mi_row, mi_up]
  · simp (disch := omega) only [mi_row, mi_up]
  · simp (disch := omega) only [mi_row, mi_up]
  · simp (disch := omega) only [mi_row, mi_up]
  · simp (disch := omega) only [mi_row, mi_up]
  · simp (disch := omega) only [mi_row, mi_s]; omega
  · rw [mi_n (by omega), mi_n (by omega), mi_n (by omega), mi_n (by omega), mi_n (by omega), mi_n (by omega), mi_n (by omega), mi_s]
  · rw [mi_n (by omega), mi_s]
theorem ml_rows {A : mm_T} {w c : Nat} {s : Int} : mm_I (ml_y A (w : Int) s c) 75 = upp (mm_I A 75) c w ∧ mm_I (ml_y A (w : Int) s c) 76 = upp (mm_I A 76) c s ∧ mm_I (ml_y A (w : Int) s c) 77 = upp (mm_I A 77) c (mm_I A 60 0) ∧ mm_I (ml_y A (w : Int) s c) 78 = upp (mm_I A 78) c (-1) ∧ mm_I (ml_y A (w : Int) s c) 67 = upp (mm_I A 67) w s ∧ mm_I (ml_y A (w : Int) s c) 73 = upp (mm_I A 73) w c ∧ mm_I (ml_y A (w : Int) s c) 60 5 = (c + 1 : Nat) := by
  have hw' : ((w : Nat) : Int).toNat = w := by omega
  unfold ml_y
  rw [hw']
  refine ⟨?_, ?_, ?_, ?_, ?_, ?_, ?_⟩
  · simp (disch := omega) only [mi_row, mi_up]
  · simp (disch := omega) only [mi_row, mi_up]
  · simp (disch := omega) only [mi_row, mi_up]
  · simp (disch := omega) only [mi_row, mi_up]
  · simp (disch := omega) only [mi_row, mi_up]
  · simp (disch := omega) only [mi_row, mi_up]
  · rw [mi_s]; omega
theorem mg_70n {B : mm_T} {w k : Nat} {m l : Int} (h : k ≠ w) : mm_I (mg_v B (w : Int) m l) 70 k = mm_I B 70 k := by
  rw [mg_70, if_neg (by omega)]; omega
theorem mg_74n {B : mm_T} {w k i : Nat} {m l : Int} (h : k ≠ w) (hk : k < 40) (hw : w < 40) (hm : m = -1 ∨ 0 ≤ m) : mm_I (mg_v B (w : Int) m l) 74 (40 * i + k) = mm_I B 74 (40 * i + k) := by
  rw [mg_74, if_neg (by omega)]
/-- the class's new wheel -/
theorem gw_K {G G1 : mm_T} {wc c : Nat} {kd s t m1 l1 m2 l2 m3 l3 : Int} (hwc : wc < 40) (k1 : m1 < 30) (k2 : m2 < 30) (k3 : m3 < 30) (e1 : G1 = ms_I (ms_I (ms_R (xl_y (xg_v (xg_v (xg_v (xw_0 (xu_v G m1 l1 m2 l2 m3 l3) wc kd t) wc m1 l1) wc m2 l2) wc m3 l3) wc s t c) 6 wc (some (300 + wc))) 0 14 (wc + 1)) 24 11 1) : (∀ b j : Nat, ¬ (b = 40 ∨ b = 41 ∨ b = 300 + wc ∨ (200 ≤ b ∧ b < 230) ∨ b = 4 ∨ (13 ≤ b ∧ b ≤ 16) ∨ (b = 12 ∧ j = 4) ∨ (b = 0 ∧ j = 14) ∨ (b = 24 ∧ j = 11)) → mm_I G1 b j = mm_I G b j) ∧
    (mm_I G1 13 = upp (mm_I G 13) c wc ∧ mm_I G1 14 = upp (mm_I G 14) c s ∧ mm_I G1 15 = upp (mm_I G 15) c t ∧ mm_I G1 16 = upp (mm_I G 16) c (-1) ∧ mm_I G1 4 = upp (mm_I G 4) s.toNat (mm_I G 4 s.toNat + 1) ∧ mm_I G1 12 4 = (c + 1 : Nat)) ∧
    (mm_I G1 (300 + wc) 0 = wc ∧ mm_I G1 (300 + wc) 1 = kd ∧ mm_I G1 (300 + wc) 2 = t ∧ mm_I G1 (300 + wc) 4 = s ∧ mm_I G1 (300 + wc) 5 = c ∧ mm_I G1 (300 + wc) 6 = 0 ∧ mm_I G1 (300 + wc) 7 = 0 ∧ mm_I G1 (300 + wc) 9 = 0) ∧
    (mm_I G1 0 14 = (wc + 1 : Nat) ∧ mm_I G1 24 11 = 1) ∧
    (∀ a k, a ≠ 300 + wc → ¬ (a = 6 ∧ k = wc) → mm_R G1 a k = mm_R G a k) ∧ mm_R G1 6 wc = some (300 + wc) ∧ (∀ a, a ≠ 300 + wc → mm_A G1 a = mm_A G a) ∧
    ff_F (fun b j => (200 ≤ b ∧ b < 230) ∨ (b = 300 + wc ∧ (j = 3 ∨ j = 8))) (xg_v (xg_v (xg_v (xw_0 (xu_v G m1 l1 m2 l2 m3 l3) wc kd t) wc m1 l1) wc m2 l2) wc m3 l3) G1 := by
  have fU : ∀ b j : Nat, ¬ (b = 40 ∨ b = 41) → mm_I (xu_v G m1 l1 m2 l2 m3 l3) b j = mm_I G b j := by
    unfold xu_v; exact ff_s (P := fun b j => ¬ (b = 40 ∨ b = 41)) (ff_s (ff_s (ff_s (ff_s (ff_s (ff_0 _ G) (by omega)) (by omega)) (by omega)) (by omega)) (by omega)) (by omega)
  have RU : mm_R (xu_v G m1 l1 m2 l2 m3 l3) = mm_R G := rfl
  have AU : mm_A (xu_v G m1 l1 m2 l2 m3 l3) = mm_A G := rfl
  generalize xu_v G m1 l1 m2 l2 m3 l3 = U at *
  have f0 : ∀ b j : Nat, b ≠ 300 + wc → mm_I (xw_0 U wc kd t) b j = mm_I U b j := xw_ff (fun b j x => x)
  have w0 := xw_w U wc kd t
  have R0 : ∀ a : Nat, a ≠ 300 + wc → mm_R (xw_0 U wc kd t) a = mm_R U a := fun a ha => xw_R U wc kd t ha
  have A0 : ∀ a : Nat, a ≠ 300 + wc → mm_A (xw_0 U wc kd t) a = mm_A U a := fun a ha => an_n ha
  generalize xw_0 U wc kd t = W at *
  have fg : ∀ b j : Nat, (b < 200 ∨ 230 ≤ b) ∧ ¬ (b = 300 + wc ∧ (j = 8 ∨ j = 3)) → mm_I (xg_v (xg_v (xg_v W wc m1 l1) wc m2 l2) wc m3 l3) b j = mm_I W b j := ff_t (ff_t (xg_ff k1 (fun b j x => x)) (xg_ff k2 (fun b j x => x))) (xg_ff k3 (fun b j x => x))
  have Rg : mm_R (xg_v (xg_v (xg_v W wc m1 l1) wc m2 l2) wc m3 l3) = mm_R W := by rw [xg_R, xg_R, xg_R]
  have Ag : mm_A (xg_v (xg_v (xg_v W wc m1 l1) wc m2 l2) wc m3 l3) = mm_A W := by rw [xg_A, xg_A, xg_A]
  generalize xg_v (xg_v (xg_v W wc m1 l1) wc m2 l2) wc m3 l3 = V at *
  have fl : ∀ b j : Nat, ¬ (b = 4 ∨ (13 ≤ b ∧ b ≤ 16) ∨ (b = 300 + wc ∧ (j = 4 ∨ j = 5)) ∨ (b = 12 ∧ j = 4)) → mm_I (xl_y V wc s t c) b j = mm_I V b j := xl_ff (fun b j x => x)
  have Rl : mm_R (xl_y V wc s t c) = mm_R V := rfl
  have Al : mm_A (xl_y V wc s t c) = mm_A V := rfl
  obtain ⟨q1, q2, q3, q4, q5, q6, q7, q8⟩ := xl_rows (A := V) (w := wc) (s := s) (t := t) (c := c)
  generalize xl_y V wc s t c = Y at *
  have fe : ∀ b j : Nat, ¬ ((b = 0 ∧ j = 14) ∨ (b = 24 ∧ j = 11)) → mm_I G1 b j = mm_I Y b j := by
    rw [e1]; exact ff_s (P := fun b j => ¬ ((b = 0 ∧ j = 14) ∨ (b = 24 ∧ j = 11))) (ff_s (ff_r (ff_0 _ Y)) (by omega)) (by omega)
  have base : ∀ b, b ≠ 300 + wc → (b < 200 ∨ 230 ≤ b) → ¬ (b = 40 ∨ b = 41) → mm_I V b = mm_I G b := fun b h1 h2 h3 => funext fun j => by
    rw [fg b j ⟨h2, fun x => h1 x.1⟩, f0 b j h1, fU b j h3]
  have rowe : ∀ b, b ≠ 0 → b ≠ 24 → mm_I G1 b = mm_I Y b := fun b h1 h2 => funext fun j => fe b j (by omega)
  have gw : ∀ j, j ≠ 3 → j ≠ 4 → j ≠ 5 → j ≠ 8 → mm_I G1 (300 + wc) j = mm_I W (300 + wc) j := fun j h3 h4 h5 h8 => by
    rw [fe _ _ (by omega), fl _ _ (by omega), fg _ _ ⟨by omega, by omega⟩]
  refine ⟨fun b j x => ?_, ⟨?_, ?_, ?_, ?_, ?_, ?_⟩, ⟨?_, ?_, ?_, ?_, ?_, ?_, ?_, ?_⟩, ⟨?_, ?_⟩, fun a k x1 x2 => ?_, ?_, fun a x1 => ?_, fun b j x => ?_⟩
  · rw [fe b j (by omega), fl b j (by omega), base b (by omega) (by omega) (by omega)]
  · rw [rowe 13 (by omega) (by omega), q1, base 13 (by omega) (by omega) (by omega)]
  · rw [rowe 14 (by omega) (by omega), q2, base 14 (by omega) (by omega) (by omega)]
  · rw [rowe 15 (by omega) (by omega), q3, base 15 (by omega) (by omega) (by omega)]
  · rw [rowe 16 (by omega) (by omega), q4, base 16 (by omega) (by omega) (by omega)]
  · rw [rowe 4 (by omega) (by omega), q5, base 4 (by omega) (by omega) (by omega)]
  · rw [rowe 12 (by omega) (by omega), q6]
  · rw [gw 0 (by omega) (by omega) (by omega) (by omega), w0]; rfl
  · rw [gw 1 (by omega) (by omega) (by omega) (by omega), w0]; rfl
  · rw [gw 2 (by omega) (by omega) (by omega) (by omega), w0]; rfl
  · rw [rowe _ (by omega) (by omega), q7]
  · rw [rowe _ (by omega) (by omega), q8]
  · rw [gw 6 (by omega) (by omega) (by omega) (by omega), w0]; rfl
  · rw [gw 7 (by omega) (by omega) (by omega) (by omega), w0]; rfl
  · rw [gw 9 (by omega) (by omega) (by omega) (by omega), w0]; rfl
  · rw [e1, mi_n (by omega), mi_s]; omega
  · rw [e1, mi_s]
  · rw [e1]; show mm_R (ms_R Y 6 wc _) a k = _
    rw [rr_n x2, Rl, Rg, R0 a x1, RU]
  · rw [e1]; exact rr_s _ _ _ _
  · rw [e1]; show mm_A Y a = _
    rw [Al, Ag, A0 a x1, AU]
  · rw [fe b j (by omega), fl b j (by omega)]
/-- the reference's -/
theorem gw_M {G1 G2 : mm_T} {wc c : Nat} {kd s m1 l1 m2 l2 m3 l3 : Int} (hwc : wc < 40) (k1 : m1 = -1 ∨ 0 ≤ m1) (k2 : m2 = -1 ∨ 0 ≤ m2) (k3 : m3 = -1 ∨ 0 ≤ m3) (e2 : G2 = ms_I (ml_y (mg_v (mg_v (mg_v (ms_I (ms_I (ms_I G1 66 wc kd) 71 wc (mm_I G1 60 0)) 60 4 (wc + 1)) wc m1 l1) wc m2 l2) wc m3 l3) wc s c) 60 53 0) : (∀ b j : Nat, ¬ (b = 64 ∨ b = 65 ∨ b = 66 ∨ b = 67 ∨ b = 70 ∨ b = 71 ∨ (73 ≤ b ∧ b ≤ 78) ∨ (b = 60 ∧ (j = 4 ∨ j = 5 ∨ j = 53))) → mm_I G2 b j = mm_I G1 b j) ∧
    (mm_I G2 75 = upp (mm_I G1 75) c wc ∧ mm_I G2 76 = upp (mm_I G1 76) c s ∧ mm_I G2 77 = upp (mm_I G1 77) c (mm_I G1 60 0) ∧ mm_I G2 78 = upp (mm_I G1 78) c (-1)) ∧
    (mm_I G2 66 = upp (mm_I G1 66) wc kd ∧ mm_I G2 71 = upp (mm_I G1 71) wc (mm_I G1 60 0) ∧ mm_I G2 67 = upp (mm_I G1 67) wc s ∧ mm_I G2 73 = upp (mm_I G1 73) wc c) ∧
    (mm_I G2 60 4 = (wc + 1 : Nat) ∧ mm_I G2 60 5 = (c + 1 : Nat) ∧ mm_I G2 60 53 = 0) ∧
    (∀ k, k ≠ wc → mm_I G2 70 k = mm_I G1 70 k) ∧ (∀ i k, k ≠ wc → k < 40 → mm_I G2 74 (40 * i + k) = mm_I G1 74 (40 * i + k)) ∧ mm_R G2 = mm_R G1 ∧ mm_A G2 = mm_A G1 ∧
    ff_F (fun b j => (63 ≤ b ∧ b ≤ 65) ∨ b = 74 ∨ (b = 70 ∧ j = wc)) (mg_v (mg_v (mg_v (ms_I (ms_I (ms_I G1 66 wc kd) 71 wc (mm_I G1 60 0)) 60 4 (wc + 1)) wc m1 l1) wc m2 l2) wc m3 l3) G2 := by
  have f0 : ∀ b j : Nat, ¬ (b = 66 ∨ b = 71 ∨ (b = 60 ∧ j = 4)) → mm_I (ms_I (ms_I (ms_I G1 66 wc kd) 71 wc (mm_I G1 60 0)) 60 4 (wc + 1)) b j = mm_I G1 b j := ff_s (P := fun b j => ¬ (b = 66 ∨ b = 71 ∨ (b = 60 ∧ j = 4))) (ff_s (ff_s (ff_0 _ G1) (by omega)) (by omega)) (by omega)
  have R0 : mm_R (ms_I (ms_I (ms_I G1 66 wc kd) 71 wc (mm_I G1 60 0)) 60 4 (wc + 1)) = mm_R G1 := rfl
  have A0 : mm_A (ms_I (ms_I (ms_I G1 66 wc kd) 71 wc (mm_I G1 60 0)) 60 4 (wc + 1)) = mm_A G1 := rfl
  have w66 : mm_I (ms_I (ms_I (ms_I G1 66 wc kd) 71 wc (mm_I G1 60 0)) 60 4 (wc + 1)) 66 = upp (mm_I G1 66) wc kd := mi_up G1 66 _ _
  have w71 : mm_I (ms_I (ms_I (ms_I G1 66 wc kd) 71 wc (mm_I G1 60 0)) 60 4 (wc + 1)) 71 = upp (mm_I G1 71) wc (mm_I G1 60 0) := mi_up G1 71 _ _
  have w60 : mm_I (ms_I (ms_I (ms_I G1 66 wc kd) 71 wc (mm_I G1 60 0)) 60 4 (wc + 1)) 60 4 = (wc + 1 : Nat) := by rw [mi_s]; omega
  generalize ms_I (ms_I (ms_I G1 66 wc kd) 71 wc (mm_I G1 60 0)) 60 4 (wc + 1) = W at *
  have fg : ∀ b j : Nat, ¬ (b = 64 ∨ b = 65 ∨ b = 70 ∨ b = 74) → mm_I (mg_v (mg_v (mg_v W wc m1 l1) wc m2 l2) wc m3 l3) b j = mm_I W b j := ff_t (ff_t (mg_ff (fun b j x => x)) (mg_ff (fun b j x => x))) (mg_ff (fun b j x => x))
  have Rg : mm_R (mg_v (mg_v (mg_v W wc m1 l1) wc m2 l2) wc m3 l3) = mm_R W := by rw [mg_R, mg_R, mg_R]
  have Ag : mm_A (mg_v (mg_v (mg_v W wc m1 l1) wc m2 l2) wc m3 l3) = mm_A W := by rw [mg_A, mg_A, mg_A]
  have g70 : ∀ k, k ≠ wc → mm_I (mg_v (mg_v (mg_v W wc m1 l1) wc m2 l2) wc m3 l3) 70 k = mm_I W 70 k := fun k hk => by rw [mg_70n hk, mg_70n hk, mg_70n hk]
  have g74 : ∀ i k, k ≠ wc → k < 40 → mm_I (mg_v (mg_v (mg_v W wc m1 l1) wc m2 l2) wc m3 l3) 74 (40 * i + k) = mm_I W 74 (40 * i + k) := fun i k hk hk2 => by rw [mg_74n hk hk2 hwc k3, mg_74n hk hk2 hwc k2, mg_74n hk hk2 hwc k1]
  generalize mg_v (mg_v (mg_v W wc m1 l1) wc m2 l2) wc m3 l3 = V at *
  have fl : ∀ b j : Nat, ¬ (b = 67 ∨ b = 73 ∨ (75 ≤ b ∧ b ≤ 78) ∨ (b = 60 ∧ j = 5)) → mm_I (ml_y V wc s c) b j = mm_I V b j := ml_ff (fun b j x => x)
  have Rl : mm_R (ml_y V wc s c) = mm_R V := rfl
  have Al : mm_A (ml_y V wc s c) = mm_A V := rfl
  obtain ⟨q1, q2, q3, q4, q5, q6, q7⟩ := ml_rows (A := V) (w := wc) (s := s) (c := c)
  generalize ml_y V wc s c = Y at *
  have fe : ∀ b j : Nat, ¬ (b = 60 ∧ j = 53) → mm_I G2 b j = mm_I Y b j := by
    rw [e2]; exact ff_s (P := fun b j => ¬ (b = 60 ∧ j = 53)) (ff_0 _ Y) (by omega)
  have base : ∀ b, ¬ (b = 64 ∨ b = 65 ∨ b = 70 ∨ b = 74) → ¬ (b = 66 ∨ b = 71 ∨ b = 60) → mm_I V b = mm_I G1 b := fun b h1 h2 => funext fun j => by rw [fg b j h1, f0 b j (by omega)]
  have rowe : ∀ b, b ≠ 60 → mm_I G2 b = mm_I Y b := fun b h1 => funext fun j => fe b j (by omega)
  refine ⟨fun b j x => ?_, ⟨?_, ?_, ?_, ?_⟩, ⟨?_, ?_, ?_, ?_⟩, ⟨?_, ?_, ?_⟩, fun k hk => ?_, fun i k hk hk2 => ?_, ?_, ?_, fun b j x => ?_⟩
  · rw [fe b j (by omega), fl b j (by omega), fg b j (by omega), f0 b j (by omega)]
  · rw [rowe 75 (by omega), q1, base 75 (by omega) (by omega)]
  · rw [rowe 76 (by omega), q2, base 76 (by omega) (by omega)]
  · rw [rowe 77 (by omega), q3, base 77 (by omega) (by omega), fg 60 0 (by omega), f0 60 0 (by omega)]
  · rw [rowe 78 (by omega), q4, base 78 (by omega) (by omega)]
  · rw [rowe 66 (by omega), ← w66]; exact funext fun j => by rw [fl 66 j (by omega), fg 66 j (by omega)]
  · rw [rowe 71 (by omega), ← w71]; exact funext fun j => by rw [fl 71 j (by omega), fg 71 j (by omega)]
  · rw [rowe 67 (by omega), q5, base 67 (by omega) (by omega)]
  · rw [rowe 73 (by omega), q6, base 73 (by omega) (by omega)]
  · rw [fe 60 4 (by omega), fl 60 4 (by omega), fg 60 4 (by omega), w60]
  · rw [fe 60 5 (by omega), q7]
  · rw [e2, mi_s]
  · rw [rowe 70 (by omega), fl 70 k (by omega), g70 k hk, f0 70 k (by omega)]
  · rw [rowe 74 (by omega), fl 74 _ (by omega), g74 i k hk hk2, f0 74 _ (by omega)]
  · rw [e2]; show mm_R Y = _
    rw [Rl, Rg, R0]
  · rw [e2]; show mm_A Y = _
    rw [Al, Ag, A0]
  · rw [fe b j (by omega), fl b j (by omega)]
