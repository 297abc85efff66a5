/-! ===== what the tables give at the law's entry ===== -/
theorem sr_arr {s : State} {args : Array Value} {ty : FieldType} (h : (Cond.arrayClass ty).before args s = true) : ∃ cA : ClassId, ArrOfT s cA ty ∧ s.vm.findClass ("[" ++ ty.toString) = some cA := by
  obtain ⟨cA, kA, comp, h1, h2, h3⟩ := Cond.arrayClass_spec h
  exact ⟨cA, fun n z => ⟨fun k h => (by cases h), kA, h2, comp, h3⟩, h1⟩
theorem sr_obj {s : State} {args : Array Value} {C : String} (h : (Cond.arrayOver (.object C)).before args s = true) : ∃ cA : ClassId, ArrOfT s cA (.object C) ∧ va_RA s cA (.object C) := by
  obtain ⟨comp, cA, kA, h1, h2, h3, h4, h5⟩ := Cond.arrayOver_spec h
  exact ⟨cA, fun n z => ⟨fun k h => (by cases h), kA, h3, comp, h4⟩, kA, comp, h3, h4, h1, h5⟩
theorem sr_el : ∀ j : Fin 144, Cond.eq (.elem (.field (.string "CheeseCellar$Tokens" 69) "java/lang/String" "value" "[B") (.int (Int32.ofNat j.val))) (.int (tx_bytes.getD j.val 0)) ∈ flatC (Jvm.Cond.and given_1 narrow_1) := by decide +kernel
theorem sr_cl {s : State} {args : Array Value} (hg : ∀ w ∈ gw_all, w.before args s = true) : ∀ k : Nat, ∃ q : ClassId × (Nat → Nat), ∀ r : vw_C, cl_all[k]? = some r → u_Kn s r.1 r.2.1 r.2.2 q.1 q.2 := by
  intro k
  match k with
  | 0 =>
    obtain ⟨c, i, h⟩ := u_known (C := "CheeseCellar$Bands") (T := ct_0) (N := 4) (n := 4) hg cw_0 (hg _ in_Ba)
    exact ⟨(c, i), fun r hr => by cases hr; exact h⟩
  | 1 =>
    obtain ⟨c, i, h⟩ := u_known (C := "CheeseCellar$Marks") (T := ct_1) (N := 7) (n := 7) hg cw_1 (hg _ in_Ma)
    exact ⟨(c, i), fun r hr => by cases hr; exact h⟩
  | 2 =>
    obtain ⟨c, i, h⟩ := u_known (C := "CheeseCellar$Milk") (T := ct_2) (N := 3) (n := 3) hg cw_2 (hg _ in_Mi)
    exact ⟨(c, i), fun r hr => by cases hr; exact h⟩
  | 3 =>
    obtain ⟨c, i, h⟩ := u_known (C := "CheeseCellar$Orders") (T := ct_3) (N := 8) (n := 8) hg cw_3 (hg _ in_Or)
    exact ⟨(c, i), fun r hr => by cases hr; exact h⟩
  | 4 =>
    obtain ⟨c, i, h⟩ := u_known (C := "CheeseCellar$Planner") (T := ct_4) (N := 12) (n := 12) hg cw_4 (hg _ in_Pl)
    exact ⟨(c, i), fun r hr => by cases hr; exact h⟩
  | 5 =>
    obtain ⟨c, i, h⟩ := u_known (C := "CheeseCellar$Reader") (T := ct_5) (N := 8) (n := 8) hg cw_5 (hg _ in_Re)
    exact ⟨(c, i), fun r hr => by cases hr; exact h⟩
  | 6 =>
    obtain ⟨c, i, h⟩ := u_known (C := "CheeseCellar$Shelves") (T := ct_6) (N := 3) (n := 3) hg cw_6 (hg _ in_Sh)
    exact ⟨(c, i), fun r hr => by cases hr; exact h⟩
  | 7 =>
    obtain ⟨c, i, h⟩ := u_known (C := "CheeseCellar$Stays") (T := ct_7) (N := 5) (n := 5) hg cw_7 (hg _ in_St)
    exact ⟨(c, i), fun r hr => by cases hr; exact h⟩
  | 8 =>
    obtain ⟨c, i, h⟩ := u_known (C := "CheeseCellar$Tape") (T := ct_8) (N := 2) (n := 2) hg cw_8 (hg _ in_Ta)
    exact ⟨(c, i), fun r hr => by cases hr; exact h⟩
  | 9 =>
    obtain ⟨c, i, h⟩ := u_known (C := "CheeseCellar$Tokens") (T := ct_9) (N := 4) (n := 4) hg cw_9 (hg _ in_To)
    exact ⟨(c, i), fun r hr => by cases hr; exact h⟩
  | 10 =>
    obtain ⟨c, i, h⟩ := u_known (C := "CheeseCellar$Wheel") (T := ct_10) (N := 10) (n := 10) hg cw_10 (hg _ in_Wh)
    exact ⟨(c, i), fun r hr => by cases hr; exact h⟩
  | 11 =>
    obtain ⟨c, i, h⟩ := u_known (C := "CheeseCellar") (T := ct_11) (N := 16) (n := 16) hg cw_11 (hg _ in_K)
    exact ⟨(c, i), fun r hr => by cases hr; exact h⟩
  | 12 =>
    obtain ⟨c, i, h⟩ := u_known (C := "CheeseCellarModel") (T := ct_12) (N := 69) (n := 69) hg cw_12 (hg _ in_Mo)
    exact ⟨(c, i), fun r hr => by cases hr; exact h⟩
  | k + 13 => exact ⟨(0, fun _ => 0), fun r hr => by rw [List.getElem?_eq_none (by show 13 ≤ k + 13; omega)] at hr; cases hr⟩
theorem sr_nw {s : State} {args : Array Value} (hts : ∀ w ∈ lw_tbl, w.before args s = true) : ∀ w ∈ nw_all, va_Nw w s := by
  intro w hw
  refine va_Nw.of (nw_ok w hw).1 (hts w ?_)
  simp only [nw_all, List.mem_cons, List.not_mem_nil, or_false] at hw
  rcases hw with rfl | rfl | rfl | rfl | rfl | rfl | rfl | rfl | rfl | rfl | rfl | rfl | rfl
  · exact List.mem_append_right _ (List.mem_of_getElem? (i := 30) (by decide +kernel))
  · exact List.mem_append_right _ (List.mem_of_getElem? (i := 53) (by decide +kernel))
  · exact List.mem_append_right _ (List.mem_of_getElem? (i := 72) (by decide +kernel))
  · exact List.mem_append_right _ (List.mem_of_getElem? (i := 95) (by decide +kernel))
  · exact List.mem_append_right _ (List.mem_of_getElem? (i := 124) (by decide +kernel))
  · exact List.mem_append_right _ (List.mem_of_getElem? (i := 169) (by decide +kernel))
  · exact List.mem_append_right _ (List.mem_of_getElem? (i := 184) (by decide +kernel))
  · exact List.mem_append_right _ (List.mem_of_getElem? (i := 190) (by decide +kernel))
  · exact List.mem_append_right _ (List.mem_of_getElem? (i := 240) (by decide +kernel))
  · exact List.mem_append_right _ (List.mem_of_getElem? (i := 367) (by decide +kernel))
  · exact List.mem_append_right _ (List.mem_of_getElem? (i := 711) (by decide +kernel))
  · exact List.mem_append_right _ (List.mem_of_getElem? (i := 767) (by decide +kernel))
  · exact List.mem_append_right _ (List.mem_of_getElem? (i := 865) (by decide +kernel))
theorem sr_K (l : Launch) {s : State} {b L : Nat} {xs : Nat → Int32} (hts : ∀ w ∈ lw_tbl, w.before #[Value.ref b] s = true) (hg : ∀ w ∈ gw_all, w.before #[Value.ref b] s = true) (hX : va_X b L xs s s.heap) (hgv : (Jvm.Cond.and given_1 narrow_1).before #[Value.ref b] s = true) : ∃ (D : va_G) (dA : Nat → ClassId) (k v : Nat), mk_K (L, xs) (l, D, dA, s.heap, b, k, v) s := by
  have hs := flat_of_before _ hgv
  have hA : ∀ a : Nat, a < s.heap.size → ¬ (fun q : Nat => s.heap.size ≤ q) a := fun a h => Nat.not_le.mpr h
  obtain ⟨ad, had⟩ := Classical.axiomOfChoice (sr_cl hg)
  obtain ⟨cI, i1, i2⟩ := sr_arr (hg _ ac_int)
  obtain ⟨cJ, j1, j2⟩ := sr_arr (hg _ ac_long)
  obtain ⟨cZ, z1, z2⟩ := sr_arr (hg _ ac_boolean)
  have hmo : (Cond.arrayOver (.object "CheeseCellar$Milk")).before #[Value.ref b] s = true := (hts _ (List.mem_append_right _ (List.mem_of_getElem? (i := 48) (by decide +kernel))))
  have hwo : (Cond.arrayOver (.object "CheeseCellar$Wheel")).before #[Value.ref b] s = true := (hts _ (List.mem_append_right _ (List.mem_of_getElem? (i := 50) (by decide +kernel))))
  obtain ⟨cM, m1, m2⟩ := sr_obj (C := "CheeseCellar$Milk") hmo
  obtain ⟨cW, w1, w2⟩ := sr_obj (C := "CheeseCellar$Wheel") hwo
  have i0 : ∀ i : Nat, i < 1 → i = 0 := fun i h => by omega
  obtain ⟨adK, adV, vS, vT⟩ := vk_Sof (args := #[Value.ref b]) (s := s) (N := 1) (tm := fun _ => Term.string "CheeseCellar$Tokens" 69) (len := [144]) (byt := [tx_bytes]) (A := fun q => s.heap.size ≤ q) (fun i hi => by rw [i0 i hi]; decide) (fun i hi => hs _ (by decide +kernel)) (fun i hi => hs _ (by decide +kernel)) (fun i hi => hs _ (by decide +kernel)) (fun i hi => by rw [i0 i hi]; exact hs _ (by decide +kernel)) (fun i hi j hj => by
      cases i0 i hi
      exact hs _ (sr_el ⟨j, hj⟩)) (fun i j hi hj hij => by omega) hA
  have z1' := va_Zof (C := "java/lang/String") (n := "COMPACT_STRINGS") (d := "Z") (v := .int 1) (A := fun q => s.heap.size ≤ q) (hts _ (List.mem_append_right _ (List.mem_of_getElem? (i := 534) (by decide +kernel)))) (hts _ (List.mem_append_right _ (List.mem_of_getElem? (i := 14) (by decide +kernel)))) (va_eqt (hs _ (by decide +kernel))) hA
  have z2' := va_Zqof (C := "jdk/internal/util/Preconditions") (n := "SIOOBE_FORMATTER") (d := "Ljava/util/function/BiFunction;") (A := fun q => s.heap.size ≤ q) (hts _ (List.mem_append_right _ (List.mem_of_getElem? (i := 542) (by decide +kernel)))) (hts _ (List.mem_append_right _ (List.mem_of_getElem? (i := 16) (by decide +kernel)))) (hs _ (by decide +kernel)) hA
  refine ⟨(fun k => (ad k).1, fun k => (ad k).2), fun t => if t = 100 then cI else if t = 101 then cJ else if t = 102 then cZ else if t = 103 then cM else cW, adK 0, adV 0, ⟨fun k r hr => had k r hr, fun k q hq => ?_⟩, sr_nw hts, va_AO.of hmo, va_AO.of hwo, hX, vk_R.of (hts _ (List.mem_append_right _ (List.mem_of_getElem? (i := 524) (by decide +kernel)))) (vT 0 (by omega)), ⟨fun i hi => ?_, fun i j hi hj _ => by omega⟩, z1', ?_⟩
  · match k, hq with
    | 0, hq => cases hq; exact ⟨i1, i2⟩
    | 1, hq => cases hq; exact ⟨j1, j2⟩
    | 2, hq => cases hq; exact ⟨z1, z2⟩
    | 3, hq => cases hq; exact ⟨m1, m2⟩
    | 4, hq => cases hq; exact ⟨w1, w2⟩
    | k + 5, hq => rw [tys_all, List.getElem?_eq_none (by show 5 ≤ k + 5; omega)] at hq; cases hq
  · cases i0 i hi
    exact vS.1 0 hi
  · rcases z2' with h | ⟨t, h⟩
    · exact ⟨.null, h, Or.inl rfl⟩
    · exact ⟨.ref t, h, Or.inr ⟨t, rfl⟩⟩
/-- the cells at the start: the script and the text alone -/
def am_0 (b k : Nat) : am_T := fun a => if a = 998 then some b else if a = 997 then some k else none
theorem am_0n {b k a : Nat} (h : a < 900) : am_0 b k a = none := by
  unfold am_0; rw [if_neg (by omega), if_neg (by omega)]
theorem mr_0 (g : gp_T) : mr_R g (am_0 (gp_b g) (gp_k g)) zm_G (gp_H g) := by
  refine ⟨fun a q ha h => ?_, fun a c q ha _ h _ => ?_, fun a ha _ => am_0n ha, fun a k c h => (by cases h), fun a k => ⟨by show (-2147483648 : Int) ≤ 0; omega, by show (0 : Int) ≤ 2147483647; omega⟩, fun a k => ⟨by show (-9223372036854775808 : Int) ≤ 0; omega, by show (0 : Int) ≤ 9223372036854775807; omega⟩, ⟨rfl, rfl⟩, Nat.le_refl _, fun q _ => rfl⟩
  · rw [am_0n ha] at h; cases h
  · rw [am_0n ha] at h; cases h
