/-! ===== a wheel taken to another shelf, on both sides ===== -/
/-- wheels and stays of both: the class's side in A, the reference's in B -/
def gv_E (A B : mm_T) (k : Nat) : Prop := mm_I A (300 + k) 0 = k ∧ mm_I A (300 + k) 1 = mm_I B 66 k ∧ mm_I A (300 + k) 2 = mm_I B 71 k ∧ mm_I A (300 + k) 4 = mm_I B 67 k ∧ mm_I A (300 + k) 5 = mm_I B 73 k ∧ mm_I A (300 + k) 6 = mm_I B 68 k ∧ mm_I A (300 + k) 7 = mm_I B 69 k ∧ mm_I A (300 + k) 8 = mm_I B 70 k ∧ mm_I A (300 + k) 9 = mm_I B 72 k
def gv_S (A B : mm_T) (wc c : Nat) (T : Int) : Prop := mm_I A 13 = mm_I B 75 ∧ mm_I A 14 = mm_I B 76 ∧ mm_I A 15 = mm_I B 77 ∧ mm_I A 16 = mm_I B 78 ∧ ∀ k, k < c → (0 ≤ mm_I A 13 k ∧ mm_I A 13 k < wc) ∧ -1 ≤ mm_I A 16 k ∧ mm_I A 16 k ≤ T
def gv_V (A B : mm_T) (wc c : Nat) (T : Int) : Prop := (mm_I A 0 14 = wc ∧ mm_I B 60 4 = wc ∧ mm_I A 12 4 = c ∧ mm_I B 60 5 = c) ∧ (mm_I A 0 15 = T ∧ mm_I B 60 0 = T) ∧ (∀ k, k < wc → gv_E A B k) ∧ gi_N B wc c T ∧ (∀ t : Nat, t < 24 → mm_I A 4 t = ct_n (mm_I B 67) t wc) ∧ gv_S A B wc c T
theorem gv_of {G : mm_T} {wc c : Nat} {T : Int} (hD : gi_D G T) (hC : gi_C G wc c) (hE : gi_E G wc) (hN : gi_N G wc c T) (hL : gi_L G wc) (hS : gi_S G wc c T) : gv_V G G wc c T :=
  ⟨⟨hC.1, hC.2.1, hC.2.2.2.1, hC.2.2.2.2.1⟩, ⟨hD.1, hD.2.1⟩, hE, hN, fun t ht => (hL t ht).1, hS⟩
abbrev fo_ka (b j : Nat) : Prop := (b = 0 ∧ (j = 14 ∨ j = 15)) ∨ (b = 12 ∧ j = 4) ∨ b = 4 ∨ (13 ≤ b ∧ b ≤ 16) ∨ 300 ≤ b
abbrev fo_mb (b j : Nat) : Prop := (b = 60 ∧ (j = 0 ∨ j = 4 ∨ j = 5)) ∨ (66 ≤ b ∧ b ≤ 78)
theorem gv_f {A A' B B' : mm_T} {wc c : Nat} {T : Int} (h : gv_V A B wc c T) (e : ff_F fo_ka A A') (e' : ff_F fo_mb B B') : gv_V A' B' wc c T := by
  obtain ⟨h1, h2, h3, h4, h5, h6⟩ := h
  refine ⟨?_, ?_, fun k hk => ?_, gi_N_f h4 (fun b j x => e' b j (by omega)), fun t ht => ?_, ?_⟩
  · rw [e 0 14 (by omega), e' 60 4 (by omega), e 12 4 (by omega), e' 60 5 (by omega)]; exact h1
  · rw [e 0 15 (by omega), e' 60 0 (by omega)]; exact h2
  · have h := h3 k hk
    unfold gv_E at h ⊢
    rw [e (300 + k) 0 (by omega), e (300 + k) 1 (by omega), e (300 + k) 2 (by omega), e (300 + k) 4 (by omega), e (300 + k) 5 (by omega), e (300 + k) 6 (by omega), e (300 + k) 7 (by omega), e (300 + k) 8 (by omega), e (300 + k) 9 (by omega), e' 66 k (by omega), e' 67 k (by omega), e' 68 k (by omega), e' 69 k (by omega), e' 70 k (by omega), e' 71 k (by omega), e' 72 k (by omega), e' 73 k (by omega)]; exact h
  · rw [e 4 t (by omega), ff_w e' 67 (fun j => by omega)]; exact h5 t ht
  · unfold gv_S
    rw [ff_w e 13 (fun j => by omega), ff_w e 14 (fun j => by omega), ff_w e 15 (fun j => by omega), ff_w e 16 (fun j => by omega), ff_w e' 75 (fun j => by omega), ff_w e' 76 (fun j => by omega), ff_w e' 77 (fun j => by omega), ff_w e' 78 (fun j => by omega)]; exact h6
theorem xt_ff {P : Nat → Nat → Prop} {A : mm_T} {w : Nat} {s : Int} (h : ∀ b j, P b j → ¬ (b = 4 ∨ (13 ≤ b ∧ b ≤ 16) ∨ (b = 300 + w ∧ (j = 4 ∨ j = 5)) ∨ (b = 12 ∧ j = 4))) : ff_F P A (xt_v A w s) := by
  unfold xt_v xt_1
  exact ff_s (ff_s (ff_s (ff_s (ff_s (ff_s (ff_s (ff_s (ff_s (ff_s (ff_0 P A) (fun x => h _ _ x (by omega))) (fun x => h _ _ x (by omega))) (fun x => h _ _ x (by omega))) (fun x => h _ _ x (by omega))) (fun x => h _ _ x (by omega))) (fun x => h _ _ x (by omega))) (fun x => h _ _ x (by omega))) (fun x => h _ _ x (by omega))) (fun x => h _ _ x (by omega))) (fun x => h _ _ x (by omega))
theorem mgo_ff {P : Nat → Nat → Prop} {A : mm_T} {w s : Int} (h : ∀ b j, P b j → ¬ (b = 67 ∨ b = 73 ∨ (75 ≤ b ∧ b ≤ 78) ∨ (b = 60 ∧ j = 5))) : ff_F P A (mgo_v A w s) := by
  unfold mgo_v
  exact ff_s (ff_s (ff_s (ff_s (ff_s (ff_s (ff_s (ff_s (ff_0 P A) (fun x => h _ _ x (by omega))) (fun x => h _ _ x (by omega))) (fun x => h _ _ x (by omega))) (fun x => h _ _ x (by omega))) (fun x => h _ _ x (by omega))) (fun x => h _ _ x (by omega))) (fun x => h _ _ x (by omega))) (fun x => h _ _ x (by omega))
theorem xt_rows {A : mm_T} {w c : Nat} {s : Int} (hc : mm_I A 12 4 = c) : mm_I (xt_v A w s) 13 = upp (mm_I A 13) c w ∧ mm_I (xt_v A w s) 14 = upp (mm_I A 14) c s ∧ mm_I (xt_v A w s) 15 = upp (mm_I A 15) c (mm_I A 0 15) ∧ mm_I (xt_v A w s) 16 = upp (upp (mm_I A 16) (mm_I A (300 + w) 5).toNat (mm_I A 0 15)) c (-1) ∧ mm_I (xt_v A w s) 4 = upp (upp (mm_I A 4) (mm_I A (300 + w) 4).toNat (mm_I A 4 (mm_I A (300 + w) 4).toNat - 1)) s.toNat (upp (mm_I A 4) (mm_I A (300 + w) 4).toNat (mm_I A 4 (mm_I A (300 + w) 4).toNat - 1) s.toNat + 1) ∧ mm_I (xt_v A w s) 12 4 = (c + 1 : Nat) ∧ mm_I (xt_v A w s) (300 + w) 4 = s ∧ mm_I (xt_v A w s) (300 + w) 5 = c := by
  have hc' : (mm_I A 12 4).toNat = c := by omega
  unfold xt_v xt_1
  rw [hc']
  refine ⟨?_, ?_, ?_, ?_, ?_, ?_, ?_, ?_⟩
  · simp (disch := omega) only [mi_row, mi_up]
  · simp (disch := omega) only [mi_row, mi_up]
  · simp (disch := omega) only [mi_row, mi_up]
  · simp (disch := omega) only [mi_row, mi_up]
  · simp (disch := omega) only [mi_row, mi_up]
  · simp (disch := omega) only [mi_row, mi_s]; omega
  · rw [mi_n (by omega), mi_n (by omega), mi_n (by omega), mi_n (by omega), mi_n (by omega), mi_n (by omega), mi_n (by omega), mi_s]
  · rw [mi_n (by omega), mi_s]
theorem mgo_rows {A : mm_T} {w c : Nat} {s : Int} (hc : mm_I A 60 5 = c) : mm_I (mgo_v A (w : Int) s) 75 = upp (mm_I A 75) c w ∧ mm_I (mgo_v A (w : Int) s) 76 = upp (mm_I A 76) c s ∧ mm_I (mgo_v A (w : Int) s) 77 = upp (mm_I A 77) c (mm_I A 60 0) ∧ mm_I (mgo_v A (w : Int) s) 78 = upp (upp (mm_I A 78) (mm_I A 73 w).toNat (mm_I A 60 0)) c (-1) ∧ mm_I (mgo_v A (w : Int) s) 67 = upp (mm_I A 67) w s ∧ mm_I (mgo_v A (w : Int) s) 73 = upp (mm_I A 73) w c ∧ mm_I (mgo_v A (w : Int) s) 60 5 = (c + 1 : Nat) := by
  have hc' : (mm_I A 60 5).toNat = c := by omega
  have hw' : ((w : Nat) : Int).toNat = w := by omega
  unfold mgo_v
  rw [hc', hw']
  refine ⟨?_, ?_, ?_, ?_, ?_, ?_, ?_⟩
  · simp (disch := omega) only [mi_row, mi_up]
  · simp (disch := omega) only [mi_row, mi_up]
  · simp (disch := omega) only [mi_row, mi_up]
  · simp (disch := omega) only [mi_row, mi_up]
  · simp (disch := omega) only [mi_row, mi_up]
  · simp (disch := omega) only [mi_row, mi_up]
  · rw [mi_s]; omega
theorem ct_upp (f : Nat → Int) (w : Nat) (s u : Int) (n : Nat) : ct_n (upp f w s) u n = ct_n f u n + (if w < n then (if s = u then 1 else 0) - (if f w = u then 1 else 0) else 0) := ct_up (fun _ => rfl) u n
theorem gv_mv {A B : mm_T} {wc c w : Nat} {T s : Int} (h : gv_V A B wc c T) (hw : w < wc) (hwc : wc ≤ 40) (hl : mm_I B 67 w ≠ -1) (hs : 0 ≤ s ∧ s ≤ 23) (hc : c < 200) (hT : 0 ≤ T) : gv_V (xt_v A w s) (mgo_v B (w : Int) s) wc (c + 1) T := by
  obtain ⟨⟨c1, c2, c3, c4⟩, ⟨t1, t2⟩, hE, hN, hL, s1, s2, s3, s4, s5⟩ := h
  obtain ⟨a13, a14, a15, a16, a4, a12, aw4, aw5⟩ := xt_rows (w := w) (s := s) c3
  obtain ⟨b75, b76, b77, b78, b67, b73, b60⟩ := mgo_rows (w := w) (s := s) c4
  have fa : ∀ b j, ¬ (b = 4 ∨ (13 ≤ b ∧ b ≤ 16) ∨ (b = 300 + w ∧ (j = 4 ∨ j = 5)) ∨ (b = 12 ∧ j = 4)) → mm_I (xt_v A w s) b j = mm_I A b j := xt_ff (fun b j x => x)
  have fb : ∀ b j, ¬ (b = 67 ∨ b = 73 ∨ (75 ≤ b ∧ b ≤ 78) ∨ (b = 60 ∧ j = 5)) → mm_I (mgo_v B (w : Int) s) b j = mm_I B b j := mgo_ff (fun b j x => x)
  generalize hA' : xt_v A w s = A' at *
  generalize hB' : mgo_v B (w : Int) s = B' at *
  have ew := hE w hw
  have nw := hN.1 w (by omega)
  have e5 : mm_I A (300 + w) 5 = mm_I B 73 w := ew.2.2.2.2.1
  have e4 : mm_I A (300 + w) 4 = mm_I B 67 w := ew.2.2.2.1
  rw [e5] at a16
  rw [e4] at a4
  have n73 := hN.2.1 w hw
  refine ⟨⟨by rw [fa 0 14 (by omega), c1], by rw [fb 60 4 (by omega), c2], a12, b60⟩, ⟨by rw [fa 0 15 (by omega), t1], by rw [fb 60 0 (by omega), t2]⟩, fun k hk => ?_, ⟨fun k hk => ?_, fun k hk => ?_, fun k hk hk2 => ?_⟩, fun t ht => ?_, ?_⟩
  · have ek := hE k hk
    unfold gv_E at ek ⊢
    by_cases y : k = w
    · subst y
      rw [fa (300 + k) 0 (by omega), fa (300 + k) 1 (by omega), fa (300 + k) 2 (by omega), fa (300 + k) 6 (by omega), fa (300 + k) 7 (by omega), fa (300 + k) 8 (by omega), fa (300 + k) 9 (by omega), fb 66 k (by omega), fb 68 k (by omega), fb 69 k (by omega), fb 70 k (by omega), fb 71 k (by omega), fb 72 k (by omega), b67, b73, aw4, aw5, upp_s, upp_s]
      exact ⟨ek.1, ek.2.1, ek.2.2.1, rfl, rfl, ek.2.2.2.2.2⟩
    · rw [fa (300 + k) 0 (by omega), fa (300 + k) 1 (by omega), fa (300 + k) 2 (by omega), fa (300 + k) 4 (by omega), fa (300 + k) 5 (by omega), fa (300 + k) 6 (by omega), fa (300 + k) 7 (by omega), fa (300 + k) 8 (by omega), fa (300 + k) 9 (by omega), fb 66 k (by omega), fb 68 k (by omega), fb 69 k (by omega), fb 70 k (by omega), fb 71 k (by omega), fb 72 k (by omega), b67, b73, upp_n _ y, upp_n _ y]
      exact ek
  · have nk := hN.1 k hk
    unfold gi_n at nk ⊢
    rw [fb 66 k (by omega), fb 68 k (by omega), fb 69 k (by omega), fb 70 k (by omega), fb 71 k (by omega), fb 72 k (by omega), b67, b73]
    by_cases y : k = w
    · subst y
      rw [upp_s, upp_s]
      exact ⟨nk.1, ⟨by omega, hs.2⟩, nk.2.2.1, ⟨by omega, by omega⟩, nk.2.2.2.2⟩
    · rw [upp_n _ y, upp_n _ y]; exact nk
  · have := hN.2.1 k hk
    rw [b73]
    by_cases y : k = w
    · subst y; rw [upp_s]; omega
    · rw [upp_n _ y]; omega
  · rw [fb 70 k (by omega), fb 68 k (by omega), fb 69 k (by omega), fb 72 k (by omega)]; exact hN.2.2 k hk hk2
  · rw [a4, b67, ct_upp, if_pos hw]
    have q := hL t ht
    have q2 := hL (mm_I B 67 w).toNat (by have := nw.2.1; omega)
    have n67 := nw.2.1
    by_cases y : t = s.toNat
    · subst y
      rw [upp_s, if_pos (by omega)]
      by_cases x : s.toNat = (mm_I B 67 w).toNat
      · rw [x, upp_s, if_pos (by omega), ← x, ← q]; omega
      · rw [upp_n _ x, if_neg (by omega), ← q]; omega
    · rw [upp_n _ y, if_neg (by omega)]
      by_cases x : t = (mm_I B 67 w).toNat
      · subst x
        rw [upp_s, if_pos (by omega), ← q]; omega
      · rw [upp_n _ x, if_neg (by omega), ← q]; omega
  · refine ⟨by rw [a13, b75, s1], by rw [a14, b76, s2], by rw [a15, b77, s3, t1, t2], by rw [a16, b78, s4, t1, t2], fun k hk => ?_⟩
    rw [a13, a16, t1]
    by_cases y : k = c
    · subst y; rw [upp_s, upp_s]; omega
    · have s5 := s5 k (by omega)
      rw [upp_n _ y, upp_n _ y]
      by_cases x : k = (mm_I B 73 w).toNat
      · subst x; rw [upp_s]; exact ⟨s5.1, by omega, by omega⟩
      · rw [upp_n _ x]; exact s5
