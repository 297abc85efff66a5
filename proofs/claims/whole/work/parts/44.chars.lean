/-! ===== chars of the text of words (printed by wip/gen/w44.py) ===== -/
def js_Pc : mt_T := (⟨"jdk/internal/util/Preconditions", "checkIndex", "(IILjava/util/function/BiFunction;)I"⟩, prog_20_method_11_code, 3, (some .int))
theorem jq_Pc : (parseMethodDescriptor js_Pc.1.desc).map (fun d => d.parameters.length) = some 3 := by decide +kernel
theorem jp_Pc : plainFor js_Pc.1 = true := by decide +kernel
theorem d_js_Pc_0 : decode js_Pc.2.1 0 = .ok (.iload_n 0, 1) := by decide +kernel
theorem d_js_Pc_1 : decode js_Pc.2.1 1 = .ok (.ifCond .lt 8, 3) := by decide +kernel
theorem d_js_Pc_4 : decode js_Pc.2.1 4 = .ok (.iload_n 0, 1) := by decide +kernel
theorem d_js_Pc_5 : decode js_Pc.2.1 5 = .ok (.iload_n 1, 1) := by decide +kernel
theorem d_js_Pc_6 : decode js_Pc.2.1 6 = .ok (.if_icmp .lt 10, 3) := by decide +kernel
theorem d_js_Pc_16 : decode js_Pc.2.1 16 = .ok (.iload_n 0, 1) := by decide +kernel
theorem d_js_Pc_17 : decode js_Pc.2.1 17 = .ok (.ireturn, 1) := by decide +kernel
theorem jc_Pc : Cond.code js_Pc.1 js_Pc.2.1 js_Pc.2.2.1 js_Pc.2.2.2 ∈ gw_all := gw_t (i := 545) (by decide +kernel) (by decide +kernel)
def js_Sk : mt_T := (⟨"java/lang/String", "checkIndex", "(II)V"⟩, prog_16_method_155_code, 2, none)
theorem jq_Sk : (parseMethodDescriptor js_Sk.1.desc).map (fun d => d.parameters.length) = some 2 := by decide +kernel
theorem jp_Sk : plainFor js_Sk.1 = true := by decide +kernel
theorem d_js_Sk_0 : decode js_Sk.2.1 0 = .ok (.iload_n 0, 1) := by decide +kernel
theorem d_js_Sk_1 : decode js_Sk.2.1 1 = .ok (.iload_n 1, 1) := by decide +kernel
theorem d_js_Sk_2 : decode js_Sk.2.1 2 = .ok (.getstatic 1053, 3) := by decide +kernel
theorem d_js_Sk_5 : decode js_Sk.2.1 5 = .ok (.invokestatic 1059, 3) := by decide +kernel
theorem d_js_Sk_8 : decode js_Sk.2.1 8 = .ok (.pop, 1) := by decide +kernel
theorem d_js_Sk_9 : decode js_Sk.2.1 9 = .ok (.return_, 1) := by decide +kernel
theorem jc_Sk : Cond.code js_Sk.1 js_Sk.2.1 js_Sk.2.2.1 js_Sk.2.2.2 ∈ gw_all := gw_t (i := 540) (by decide +kernel) (by decide +kernel)
def js_Lc : mt_T := (⟨"java/lang/StringLatin1", "charAt", "([BI)C"⟩, prog_17_method_2_code, 2, (some .char))
theorem jq_Lc : (parseMethodDescriptor js_Lc.1.desc).map (fun d => d.parameters.length) = some 2 := by decide +kernel
theorem jp_Lc : plainFor js_Lc.1 = true := by decide +kernel
theorem d_js_Lc_0 : decode js_Lc.2.1 0 = .ok (.iload_n 1, 1) := by decide +kernel
theorem d_js_Lc_1 : decode js_Lc.2.1 1 = .ok (.aload_n 0, 1) := by decide +kernel
theorem d_js_Lc_2 : decode js_Lc.2.1 2 = .ok (.arraylength, 1) := by decide +kernel
theorem d_js_Lc_3 : decode js_Lc.2.1 3 = .ok (.invokestatic 9, 3) := by decide +kernel
theorem d_js_Lc_6 : decode js_Lc.2.1 6 = .ok (.aload_n 0, 1) := by decide +kernel
theorem d_js_Lc_7 : decode js_Lc.2.1 7 = .ok (.iload_n 1, 1) := by decide +kernel
theorem d_js_Lc_8 : decode js_Lc.2.1 8 = .ok (.baload, 1) := by decide +kernel
theorem d_js_Lc_9 : decode js_Lc.2.1 9 = .ok (.sipush 255, 3) := by decide +kernel
theorem d_js_Lc_12 : decode js_Lc.2.1 12 = .ok (.iand, 1) := by decide +kernel
theorem d_js_Lc_13 : decode js_Lc.2.1 13 = .ok (.i2c, 1) := by decide +kernel
theorem d_js_Lc_14 : decode js_Lc.2.1 14 = .ok (.ireturn, 1) := by decide +kernel
theorem jc_Lc : Cond.code js_Lc.1 js_Lc.2.1 js_Lc.2.2.1 js_Lc.2.2.2 ∈ gw_all := gw_t (i := 537) (by decide +kernel) (by decide +kernel)
def js_Il : mt_T := (⟨"java/lang/String", "isLatin1", "()Z"⟩, prog_16_method_154_code, 1, (some .boolean))
theorem jq_Il : (parseMethodDescriptor js_Il.1.desc).map (fun d => d.parameters.length) = some 0 := by decide +kernel
theorem jp_Il : plainFor js_Il.1 = true := by decide +kernel
theorem d_js_Il_0 : decode js_Il.2.1 0 = .ok (.getstatic 38, 3) := by decide +kernel
theorem d_js_Il_3 : decode js_Il.2.1 3 = .ok (.ifCond .eq 14, 3) := by decide +kernel
theorem d_js_Il_6 : decode js_Il.2.1 6 = .ok (.aload_n 0, 1) := by decide +kernel
theorem d_js_Il_7 : decode js_Il.2.1 7 = .ok (.getfield 15, 3) := by decide +kernel
theorem d_js_Il_10 : decode js_Il.2.1 10 = .ok (.ifCond .ne 7, 3) := by decide +kernel
theorem d_js_Il_13 : decode js_Il.2.1 13 = .ok (.iconst 1, 1) := by decide +kernel
theorem d_js_Il_14 : decode js_Il.2.1 14 = .ok (.goto 4, 3) := by decide +kernel
theorem d_js_Il_17 : decode js_Il.2.1 17 = .ok (.iconst 0, 1) := by decide +kernel
theorem d_js_Il_18 : decode js_Il.2.1 18 = .ok (.ireturn, 1) := by decide +kernel
theorem jc_Il : Cond.code js_Il.1 js_Il.2.1 js_Il.2.2.1 js_Il.2.2.2 ∈ gw_all := gw_t (i := 532) (by decide +kernel) (by decide +kernel)
def js_Ca : mt_T := (⟨"java/lang/String", "charAt", "(I)C"⟩, prog_16_method_56_code, 2, (some .char))
theorem jq_Ca : (parseMethodDescriptor js_Ca.1.desc).map (fun d => d.parameters.length) = some 1 := by decide +kernel
theorem jp_Ca : plainFor js_Ca.1 = true := by decide +kernel
theorem d_js_Ca_0 : decode js_Ca.2.1 0 = .ok (.aload_n 0, 1) := by decide +kernel
theorem d_js_Ca_1 : decode js_Ca.2.1 1 = .ok (.invokevirtual 492, 3) := by decide +kernel
theorem d_js_Ca_4 : decode js_Ca.2.1 4 = .ok (.ifCond .eq 12, 3) := by decide +kernel
theorem d_js_Ca_7 : decode js_Ca.2.1 7 = .ok (.aload_n 0, 1) := by decide +kernel
theorem d_js_Ca_8 : decode js_Ca.2.1 8 = .ok (.getfield 9, 3) := by decide +kernel
theorem d_js_Ca_11 : decode js_Ca.2.1 11 = .ok (.iload_n 1, 1) := by decide +kernel
theorem d_js_Ca_12 : decode js_Ca.2.1 12 = .ok (.invokestatic 495, 3) := by decide +kernel
theorem d_js_Ca_15 : decode js_Ca.2.1 15 = .ok (.ireturn, 1) := by decide +kernel
theorem jc_Ca : Cond.code js_Ca.1 js_Ca.2.1 js_Ca.2.2.1 js_Ca.2.2.2 ∈ gw_all := gw_t (i := 528) (by decide +kernel) (by decide +kernel)
theorem jl_Ca_492 : Cond.methodLink "java/lang/String" 492 js_Il.1 ∈ gw_all := gw_t (i := 529) (by decide +kernel) (by decide +kernel)
theorem jl_Ca_495 : Cond.methodLink "java/lang/String" 495 js_Lc.1 ∈ gw_all := gw_t (i := 535) (by decide +kernel) (by decide +kernel)
theorem jl_Lc_9 : Cond.methodLink "java/lang/StringLatin1" 9 js_Sk.1 ∈ gw_all := gw_t (i := 538) (by decide +kernel) (by decide +kernel)
theorem jl_Sk_1059 : Cond.methodLink "java/lang/String" 1059 js_Pc.1 ∈ gw_all := gw_t (i := 543) (by decide +kernel) (by decide +kernel)
theorem jl_To_74 : Cond.methodLink "CheeseCellar$Tokens" 71 js_Ca.1 ∈ gw_all := gw_t (i := 525) (by decide +kernel) (by decide +kernel)
theorem jt_Pc : Cond.static js_Pc.1 ∈ gw_all := gw_t (i := 544) (by decide +kernel) (by decide +kernel)
theorem jt_Sk : Cond.static js_Sk.1 ∈ gw_all := gw_t (i := 539) (by decide +kernel) (by decide +kernel)
theorem jt_Lc : Cond.static js_Lc.1 ∈ gw_all := gw_t (i := 536) (by decide +kernel) (by decide +kernel)
theorem ji_Il : Cond.instanceMethod js_Il.1 ∈ gw_all := gw_t (i := 530) (by decide +kernel) (by decide +kernel)
theorem je_Il : Cond.selects "java/lang/String" js_Il.1 js_Il.1 ∈ gw_all := gw_t (i := 531) (by decide +kernel) (by decide +kernel)
theorem ji_Ca : Cond.instanceMethod js_Ca.1 ∈ gw_all := gw_t (i := 526) (by decide +kernel) (by decide +kernel)
theorem je_Ca : Cond.selects "java/lang/String" js_Ca.1 js_Ca.1 ∈ gw_all := gw_t (i := 527) (by decide +kernel) (by decide +kernel)
theorem jf_1053 : Cond.fieldLink "java/lang/String" 1053 "jdk/internal/util/Preconditions" "SIOOBE_FORMATTER" "Ljava/util/function/BiFunction;" ∈ gw_all := gw_t (i := 541) (by decide +kernel) (by decide +kernel)
theorem jf_38 : Cond.fieldLink "java/lang/String" 38 "java/lang/String" "COMPACT_STRINGS" "Z" ∈ gw_all := gw_t (i := 533) (by decide +kernel) (by decide +kernel)
theorem jf_15 : Cond.fieldLink "java/lang/String" 15 "java/lang/String" "coder" "B" ∈ gw_all := gw_t (i := 1388) (by decide +kernel) (by decide +kernel)
theorem jf_9 : Cond.fieldLink "java/lang/String" 9 "java/lang/String" "value" "[B" ∈ gw_all := gw_t (i := 1389) (by decide +kernel) (by decide +kernel)
theorem jn_P : Cond.initialized "jdk/internal/util/Preconditions" ∈ gw_all := gw_t (i := 16) (by decide +kernel) (by decide +kernel)
def sk_M (X : gx_T) (g : gp_T) (d : Nat) (N : mt_T) (as : List Value) (H0 : Heap) (v : Option Value) : Prop := Met (gp_l g) N.1 (Cond.code N.1 N.2.1 N.2.2.1 N.2.2.2 :: gw_all) { frames := d, cells := 0, slots := 0, locals := 40 * d } (va_Pc as (fun U => mk_K X g U ∧ U.heap = H0)) (fun _ _ o t => o = .returned v ∧ t.heap = H0) 0 0 (fun q => (gp_H g).size ≤ q)
def sk_D (N : mt_T) (pc : Nat) : Option Value → Prop
  | none => decode N.2.1 pc = .ok (.return_, 1) ∧ N.2.2.2 = none
  | some (.int x) => decode N.2.1 pc = .ok (.ireturn, 1) ∧ ∃ ty, N.2.2.2 = some ty ∧ narrow ty (.int x) = .int x
  | some _ => False
def sk_H (g : gp_T) (H : Heap) : Prop := (gp_H g).size ≤ H.size ∧ ∀ q, q < (gp_H g).size → H[q]? = (gp_H g)[q]?
theorem sk_enter {X : gx_T} {g : gp_T} {d : Nat} {N : mt_T} {as : List Value} {H0 : Heap} {v : Option Value} (hy : plainFor N.1 = true) (hn : (lg_sl as).length ≤ N.2.2.1)
    (kk : ∀ (p : Program) (e : Env) (R : Room) (s : State) (m : MethodId) (args : Array Value) (below : List Frame) (meth : Method) (c : Code) (ls : Array Slot) (QQ : State → Prop), aw_C X N d g p R s m args meth c → s.heap = H0 → lv_has ls N.2.2.1 (lv_args 0 as) → (∀ pc ls' locs, (∀ q ∈ locs, (gp_H g).size ≤ q.base) → sk_D N pc v → W p (gp_l g) e R s m args below meth c H0 locs 0 0 QQ (F0 m pc ls' v.toList)) → W p (gp_l g) e R s m args below meth c H0 [] 0 0 QQ (F0 m 0 ls [])) : sk_M X g d N as H0 v := by
  refine va_MetF (cc := N.2.1) (maxL := N.2.2.1) (ret := N.2.2.2) hy rfl ?_
  intro p e s m args below meth c s₁ B hml hv
  obtain ⟨rfl, hK, rfl⟩ := hv
  have hts := atoms_spec (ws := Cond.code N.1 N.2.1 N.2.2.1 N.2.2.2 :: gw_all) B.pre
  have hl := lv_entry as (n := N.2.2.1) hn
  rw [lg_entry_eq]
  have hlocks := B.notSynchronized
  refine kk p e _ s m _ below meth c _ _ ⟨B.exec, B.bytes, hml, findClass_of_methodNamed B.named, fun w h => hts w (List.mem_cons_of_mem _ h), B.returns, hlocks, (name_of_methodNamed B.named B.method).1, Nat.le_refl _, Nat.le_refl _, hK⟩ rfl hl ?_
  intro pc ls' locs hl2 hD
  cases v with
  | none => exact W.vret B.exec B.bytes (B.returns.trans hD.2) (fun t ht _ => ⟨rfl, ht⟩) hl2 hD.1
  | some w =>
    cases w with
    | int x =>
      obtain ⟨h1, ty, h2, h3⟩ := hD
      exact W.zret (v := x) B.exec B.bytes (B.returns.trans h2) h3 (fun t ht _ => ⟨rfl, ht⟩) hl2 h1
    | _ => exact hD.elim
theorem sk_go {p : Program} {l : Launch} {e : Env} {R : Room} {s : State} {m : MethodId} {args : Array Value} {below : List Frame} {meth : Method} {c : Code} {H : Heap} {locs : List Loc} {cells slots z pc : Nat} {ls : Array Slot} {st0 rest : List Value} {v : Option Value} {QQ : State → Prop}
    (hr : va_Run p l e R s m args below meth c H locs cells slots 0 0 (F0 m pc ls st0) rest (fun _ o t => o = .returned v ∧ t.heap = H) (fun q => z ≤ q)) (hl : ∀ q ∈ locs, z ≤ q.base)
    (kk : ∀ locs1, (∀ q ∈ locs1, z ≤ q.base) → W p l e R s m args below meth c H locs1 cells slots QQ (F0 m (pc + 3) ls (v.toList ++ rest))) : W p l e R s m args below meth c H locs cells slots QQ (F0 m pc ls st0) := by
  intro T hT X0
  obtain ⟨w, st₀, t, T', L0, e0, X', hL0, e1, e2, ⟨hv, hh⟩, goes⟩ := hr T hT X0
  cases hv
  obtain ⟨t2, a1, b1⟩ := kk (locs ++ L0) (fun q hq2 => by
    rcases List.mem_append.mp hq2 with h | h
    · exact hl q h
    · exact hL0 q h) T' (e1.trans hh) X'
  exact ⟨t2, goes t2 a1, b1⟩
theorem sk_blind {X : gx_T} {g : gp_T} {as : List Value} {H0 : Heap} : FrameBlind (va_Pc as (fun U => mk_K X g U ∧ U.heap = H0)) :=
  fun a U g2 mk h => ⟨h.1, mk_K.same (s := U) (U := U.calling g2 mk a) rfl h.2.1, h.2.2⟩
theorem sk_stat {X : gx_T} {M N : mt_T} {d idx pc : Nat} {g : gp_T} {p : Program} {e : Env} {R : Room} {s : State} {m : MethodId} {args : Array Value} {below : List Frame} {meth : Method} {c : Code} {H : Heap} {locs : List Loc} {cells slots : Nat} {ls : Array Slot} {as rest : List Value} {v : Option Value} {QQ : State → Prop}
    (hC : aw_C X M (d + 1) g p R s m args meth c) (hsz : ls.size = M.2.2.1) (hl : ∀ q ∈ locs, (gp_H g).size ≤ q.base) (h1 : cells ≤ R.cells) (h2 : slots ≤ R.slots) (hM : sk_M X g d N as H v) (hl0 : Cond.methodLink M.1.cls idx N.1 ∈ gw_all) (hst : Cond.static N.1 ∈ gw_all) (hco : Cond.code N.1 N.2.1 N.2.2.1 N.2.2.2 ∈ gw_all) (hin : Cond.initialized N.1.cls ∈ gw_all)
    (hy : N.1.cls ≠ "java/lang/invoke/MethodHandle" ∧ N.1.cls ≠ "java/lang/invoke/VarHandle" ∧ (parseMethodDescriptor N.1.desc).map (fun d => d.parameters.length) = some as.length) (hmx : N.2.2.1 ≤ 21) (hd : decode M.2.1 pc = .ok (.invokestatic idx, 3)) (hrm : (rest.map fun v => v.category).sum ≤ 8)
    (kk : ∀ locs1, (∀ q ∈ locs1, (gp_H g).size ≤ q.base) → W p (gp_l g) e R s m args below meth c H locs1 cells slots QQ (F0 m (pc + 3) ls (v.toList ++ rest))) : W p (gp_l g) e R s m args below meth c H locs cells slots QQ (F0 m pc ls (as.reverse ++ rest)) := by
  have hfr : d + 1 ≤ R.frames := hC.2.2.2.2.2.2.2.2.1
  have hlo : 40 * (d + 1) ≤ R.locals := hC.2.2.2.2.2.2.2.2.2.1
  refine sk_go ?_ hl kk
  exact va_runS (As := as) (nL := M.2.2.1) (Ts := gw_all) ⟨hC.1, hC.2.1, hC.2.2.1, hC.2.2.2.1, hC.2.2.2.2.1⟩ hM ⟨callB_of as.length hC.2.2.2.2.1 (gw_gi (gw_cons hco)) rfl rfl rfl (hC.2.2.2.2.1 _ hin) (hC.2.2.2.2.1 _ hl0) hy ⟨hfr, show 8 + (N.2.2.1 + 11) + 40 * d ≤ R.locals by omega⟩, hC.2.2.2.2.1 _ hst⟩ ⟨sk_blind, fun U hU hW => ⟨rfl, mk_K.warm hW hC.2.2.2.2.2.2.2.2.2.2, hU⟩⟩ rfl rfl hsz rfl (lv_room hrm) hd ⟨by omega, by omega⟩
theorem sk_virt {X : gx_T} {M N : mt_T} {d idx pc b : Nat} {g : gp_T} {p : Program} {e : Env} {R : Room} {s : State} {m : MethodId} {args : Array Value} {below : List Frame} {meth : Method} {c : Code} {H : Heap} {locs : List Loc} {cells slots : Nat} {ls : Array Slot} {as rest : List Value} {v : Option Value} {QQ : State → Prop}
    (hC : aw_C X M (d + 1) g p R s m args meth c) (hsz : ls.size = M.2.2.1) (hl : ∀ q ∈ locs, (gp_H g).size ≤ q.base) (h1 : cells ≤ R.cells) (h2 : slots ≤ R.slots) (hM : sk_M X g d N (.ref b :: as) H v) (hl0 : Cond.methodLink M.1.cls idx N.1 ∈ gw_all) (hst : Cond.instanceMethod N.1 ∈ gw_all) (hse : Cond.selects N.1.cls N.1 N.1 ∈ gw_all) (hco : Cond.code N.1 N.2.1 N.2.2.1 N.2.2.2 ∈ gw_all) (hin : Cond.initialized N.1.cls ∈ gw_all)
    (hy : N.1.cls ≠ "java/lang/invoke/MethodHandle" ∧ N.1.cls ≠ "java/lang/invoke/VarHandle" ∧ (parseMethodDescriptor N.1.desc).map (fun d => d.parameters.length) = some as.length) (hmx : N.2.2.1 ≤ 21) (hd : decode M.2.1 pc = .ok (.invokevirtual idx, 3)) (hrm : (rest.map fun v => v.category).sum ≤ 8)
    (hrecv : ∃ cell : Cell, H[b]? = some cell ∧ cell.vm.isStatics = false ∧ s.vm.findClass N.1.cls = some cell.cls)
    (kk : ∀ locs1, (∀ q ∈ locs1, (gp_H g).size ≤ q.base) → W p (gp_l g) e R s m args below meth c H locs1 cells slots QQ (F0 m (pc + 3) ls (v.toList ++ rest))) : W p (gp_l g) e R s m args below meth c H locs cells slots QQ (F0 m pc ls (as.reverse ++ .ref b :: rest)) := by
  have hfr : d + 1 ≤ R.frames := hC.2.2.2.2.2.2.2.2.1
  have hlo : 40 * (d + 1) ≤ R.locals := hC.2.2.2.2.2.2.2.2.2.1
  refine sk_go ?_ hl kk
  refine va_runV (C := N.1.cls) (As := as) (b := b) (nL := M.2.2.1) (Ts := gw_all) ⟨hC.1, hC.2.1, hC.2.2.1, hC.2.2.2.1, hC.2.2.2.2.1⟩ hM (cwV as.length hC.2.2.2.2.1 (gw_gi ?_) rfl rfl rfl ⟨rfl, hy⟩ ⟨hfr, show 8 + (N.2.2.1 + 11) + 40 * d ≤ R.locals by omega⟩) ⟨sk_blind, hrecv, fun U hU hW => ⟨rfl, mk_K.warm hW hC.2.2.2.2.2.2.2.2.2.2, hU⟩⟩ rfl rfl hsz rfl (lv_room hrm) hd ⟨by omega, by omega⟩
  intro w hw
  unfold wsV at hw
  rcases List.mem_append.mp hw with h | h
  · simp only [List.mem_cons, List.not_mem_nil, or_false] at h
    rcases h with rfl | rfl | rfl | rfl
    · exact hl0
    · exact hst
    · exact hse
    · exact hin
  · exact gw_cons hco w h
theorem sk_Pc (X : gx_T) (g : gp_T) (d : Nat) {k n : Int} {f : Value} {H0 : Heap} (hf : f = .null ∨ ∃ q, f = .ref q) (hk : 0 ≤ k ∧ k < n) (hn : n ≤ 1000) : sk_M X g (d + 1) js_Pc [.int (Int32.ofInt k), .int (Int32.ofInt n), f] H0 (some (.int (Int32.ofInt k))) := by
  have hkr : i3_in k := ⟨by omega, by omega⟩
  have hnr : i3_in n := ⟨by omega, by omega⟩
  refine sk_enter jp_Pc (by rcases hf with rfl | ⟨q, rfl⟩ <;> exact Nat.le_refl 3) ?_
  intro p e R s m args below meth c ls QQ hC hs hl hQ
  refine lv_iload_n hC.1 hC.2.1 d_js_Pc_0 rfl (lv_at hl 0 rfl) ?_
  refine lv_if_lt hC.1 hC.2.1 d_js_Pc_1 rfl (fun h => by exfalso; have := (i3_lt hkr i3_0).mp h; omega) (fun _ => ?_)
  refine lv_iload_n hC.1 hC.2.1 d_js_Pc_4 rfl (lv_at hl 0 rfl) ?_
  refine lv_iload_n hC.1 hC.2.1 d_js_Pc_5 rfl (lv_at hl 1 rfl) ?_
  refine lv_icmp_lt hC.1 hC.2.1 d_js_Pc_6 rfl (fun _ => ?_) (fun h => by exfalso; have := mt (i3_lt hkr hnr).mpr h; omega)
  refine lv_iload_n hC.1 hC.2.1 d_js_Pc_16 rfl (lv_at hl 0 rfl) ?_
  exact hQ 17 ls [] (fun q h => by cases h) ⟨d_js_Pc_17, .int, rfl, rfl⟩
theorem sk_Z {X : gx_T} {g : gp_T} {s : State} {H : Heap} (hK : mk_K X g s) (hH : sk_H g H) : ∃ f : Value, va_Z "jdk/internal/util/Preconditions" "SIOOBE_FORMATTER" "Ljava/util/function/BiFunction;" f (fun q => (gp_H g).size ≤ q) s H ∧ (f = .null ∨ ∃ q, f = .ref q) := by
  obtain ⟨-, -, -, -, -, -, -, -, f, h9, hf⟩ := hK
  exact ⟨f, h9.kept (fun a ha _ => hH.2 a ha), hf⟩
theorem sk_Sk (X : gx_T) (g : gp_T) (d : Nat) {k n : Int} {H0 : Heap} (hH : sk_H g H0) (hk : 0 ≤ k ∧ k < n) (hn : n ≤ 1000) : sk_M X g (d + 2) js_Sk [.int (Int32.ofInt k), .int (Int32.ofInt n)] H0 none := by
  refine sk_enter jp_Sk (Nat.le_refl 2) ?_
  intro p e R s m args below meth c ls QQ hC hs hl hQ
  obtain ⟨f, hZ, hf⟩ := sk_Z hC.2.2.2.2.2.2.2.2.2.2 hH
  refine lv_iload_n hC.1 hC.2.1 d_js_Sk_0 rfl (lv_at hl 0 rfl) ?_
  refine lv_iload_n hC.1 hC.2.1 d_js_Sk_1 rfl (lv_at hl 1 rfl) ?_
  subst hs
  refine va_gets hC.1 hC.2.1 hZ ⟨Nat.le_refl _, fun _ _ _ => rfl, fun q h => by cases h⟩ hC.2.2.2.1 (hC.2.2.2.2.1 _ jf_1053) (fun x h => h) d_js_Sk_2 ?_
  refine sk_stat (N := js_Pc) (as := [.int (Int32.ofInt k), .int (Int32.ofInt n), f]) (rest := []) hC hl.1 (fun q h => by cases h) (Nat.zero_le _) (Nat.zero_le _) (sk_Pc X g d hf hk hn) jl_Sk_1059 jt_Pc jc_Pc jn_P ⟨by decide +kernel, by decide +kernel, jq_Pc⟩ (by decide) d_js_Sk_5 (Nat.zero_le _) (fun locs1 hl1 => ?_)
  refine lv_pop hC.1 hC.2.1 d_js_Sk_8 rfl ?_
  exact hQ 9 ls locs1 hl1 ⟨d_js_Sk_9, rfl⟩
theorem sk_bytes : ∀ k : Fin 144, ((tx_bytes.getD k.val 0 &&& 255).toUInt32 % 65536).toInt32 = tx_bytes.getD k.val 0 ∧ narrow .char (.int (tx_bytes.getD k.val 0)) = .int (tx_bytes.getD k.val 0) := by decide +kernel
theorem sk_255 : (Int16.ofInt 255).toInt32 = 255 := by decide
theorem sk_Lc (X : gx_T) (g : gp_T) (d : Nat) {k : Nat} {H0 : Heap} (hH : sk_H g H0) (hk : k < 144) : sk_M X g (d + 3) js_Lc [.ref (gp_v g), .int (Int32.ofInt (k : Int))] H0 (some (.int (tx_bytes.getD k 0))) := by
  refine sk_enter jp_Lc (Nat.le_refl 2) ?_
  intro p e R s m args below meth c ls QQ hC hs hl hQ
  subst hs
  have hT := ((hC.2.2.2.2.2.2.2.2.2.2.2.2.2.2.2.2.1).1 0 (by omega)).2.2.2.kept (fun a ha _ => hH.2 a ha)
  have hS : ∀ locs : List Loc, (∀ q ∈ locs, (gp_H g).size ≤ q.base) → va_S (fun q => (gp_H g).size ≤ q) s.heap s.heap locs := fun locs h => ⟨Nat.le_refl _, fun _ _ _ => rfl, h⟩
  have hcl : (Int32.ofInt (k : Int)).toNatClampNeg = k := by rw [i3_clamp ⟨by omega, by omega⟩]; omega
  refine lv_iload_n hC.1 hC.2.1 d_js_Lc_0 rfl (lv_at hl 1 rfl) ?_
  refine lv_aload_n hC.1 hC.2.1 d_js_Lc_1 rfl (lv_at hl 0 rfl) ?_
  refine va_tlen hC.1 hC.2.1 hT (hS _ (fun q h => by cases h)) (v := Int32.ofInt 144) rfl d_js_Lc_2 ?_
  refine sk_stat (N := js_Sk) (as := [.int (Int32.ofInt (k : Int)), .int (Int32.ofInt 144)]) (rest := []) hC hl.1 (fun q h => by cases h) (Nat.zero_le _) (Nat.zero_le _) (sk_Sk X g d hH ⟨by omega, by omega⟩ (by omega)) jl_Lc_9 jt_Sk jc_Sk it_JS ⟨by decide +kernel, by decide +kernel, jq_Sk⟩ (by decide) d_js_Lc_3 (Nat.zero_le _) (fun locs1 hl1 => ?_)
  refine lv_aload_n hC.1 hC.2.1 d_js_Lc_6 rfl (lv_at hl 0 rfl) ?_
  refine lv_iload_n hC.1 hC.2.1 d_js_Lc_7 rfl (lv_at hl 1 rfl) ?_
  refine va_tb hC.1 hC.2.1 hT (hS _ hl1) (i3_vin (by omega) (show (k : Int) < ((144 : Nat) : Int) by omega) (by omega)) (v := .int (tx_bytes.getD k 0)) (by rw [hcl]; rfl) d_js_Lc_8 ?_
  refine lv_sipush hC.1 hC.2.1 d_js_Lc_9 sk_255 ?_
  refine lv_iand hC.1 hC.2.1 d_js_Lc_12 ?_
  refine lv_i2c hC.1 hC.2.1 d_js_Lc_13 (sk_bytes ⟨k, hk⟩).1 ?_
  exact hQ 14 ls locs1 hl1 ⟨d_js_Lc_14, .char, rfl, (sk_bytes ⟨k, hk⟩).2⟩
theorem sk_Il (X : gx_T) (g : gp_T) (d : Nat) {H0 : Heap} (hH : sk_H g H0) : sk_M X g (d + 1) js_Il [.ref (gp_k g)] H0 (some (.int 1)) := by
  refine sk_enter jp_Il (Nat.le_refl 1) ?_
  intro p e R s m args below meth c ls QQ hC hs hl hQ
  subst hs
  have hZ := (hC.2.2.2.2.2.2.2.2.2.2.2.2.2.2.2.2.2.1).kept (fun a ha _ => hH.2 a ha)
  have hF := ((hC.2.2.2.2.2.2.2.2.2.2.2.2.2.2.2.2.1).1 0 (by omega)).2.1.kept (fun a ha _ => hH.2 a ha)
  have hS : va_S (fun q => (gp_H g).size ≤ q) s.heap s.heap [] := ⟨Nat.le_refl _, fun _ _ _ => rfl, fun q h => by cases h⟩
  refine va_gets hC.1 hC.2.1 hZ hS hC.2.2.2.1 (hC.2.2.2.2.1 _ jf_38) (fun x h => h) d_js_Il_0 ?_
  refine lv_if_eq hC.1 hC.2.1 d_js_Il_3 rfl (fun h => by exact absurd h (by decide)) (fun _ => ?_)
  refine lv_aload_n hC.1 hC.2.1 d_js_Il_6 rfl (lv_at hl 0 rfl) ?_
  refine vk_getf hC.1 hC.2.1 hF hS hC.2.2.2.1 (hC.2.2.2.2.1 _ jf_15) (fun x h => h) d_js_Il_7 ?_
  refine lv_if_ne hC.1 hC.2.1 d_js_Il_10 rfl (fun h => by exact absurd rfl h) (fun _ => ?_)
  refine lv_iconst hC.1 hC.2.1 d_js_Il_13 rfl ?_
  refine lv_goto hC.1 hC.2.1 d_js_Il_14 rfl ?_
  exact hQ 18 ls [] (fun q h => by cases h) ⟨d_js_Il_18, .boolean, rfl, rfl⟩
theorem sk_Ca (X : gx_T) (g : gp_T) (d : Nat) {k : Nat} {H0 : Heap} (hH : sk_H g H0) (hk : k < 144) : sk_M X g (d + 4) js_Ca [.ref (gp_k g), .int (Int32.ofInt (k : Int))] H0 (some (.int (tx_bytes.getD k 0))) := by
  refine sk_enter jp_Ca (Nat.le_refl 2) ?_
  intro p e R s m args below meth c ls QQ hC hs hl hQ
  subst hs
  have hK := (hC.2.2.2.2.2.2.2.2.2.2.2.2.2.2.2.2.1).kept (fun a ha _ => hH.2 a ha)
  have hF := (hK.1 0 (by omega)).2.2.1
  have hS : ∀ locs : List Loc, (∀ q ∈ locs, (gp_H g).size ≤ q.base) → va_S (fun q => (gp_H g).size ≤ q) s.heap s.heap locs := fun locs h => ⟨Nat.le_refl _, fun _ _ _ => rfl, h⟩
  refine lv_aload_n hC.1 hC.2.1 d_js_Ca_0 rfl (lv_at hl 0 rfl) ?_
  refine sk_virt (N := js_Il) (as := []) (rest := []) (b := gp_k g) hC hl.1 (fun q h => by cases h) (Nat.zero_le _) (Nat.zero_le _) (sk_Il X g (d + 2) hH) jl_Ca_492 ji_Il je_Il jc_Il it_JS ⟨by decide +kernel, by decide +kernel, jq_Il⟩ (by decide) d_js_Ca_1 (Nat.zero_le _) (vk_recv (i := 0) hK (by omega) (hS [] (fun q h => by cases h))) (fun locs1 hl1 => ?_)
  refine lv_if_eq hC.1 hC.2.1 d_js_Ca_4 rfl (fun h => by exact absurd h (by decide)) (fun _ => ?_)
  refine lv_aload_n hC.1 hC.2.1 d_js_Ca_7 rfl (lv_at hl 0 rfl) ?_
  refine vk_getf hC.1 hC.2.1 hF (hS _ hl1) hC.2.2.2.1 (hC.2.2.2.2.1 _ jf_9) (fun x h => h) d_js_Ca_8 ?_
  refine lv_iload_n hC.1 hC.2.1 d_js_Ca_11 rfl (lv_at hl 1 rfl) ?_
  refine sk_stat (N := js_Lc) (as := [.ref (gp_v g), .int (Int32.ofInt (k : Int))]) (rest := []) hC hl.1 hl1 (Nat.zero_le _) (Nat.zero_le _) (sk_Lc X g d hH hk) jl_Ca_495 jt_Lc jc_Lc it_JL ⟨by decide +kernel, by decide +kernel, jq_Lc⟩ (by decide) d_js_Ca_12 (Nat.zero_le _) (fun locs2 hl2 => ?_)
  exact hQ 15 ls locs2 hl2 ⟨d_js_Ca_15, .char, rfl, (sk_bytes ⟨k, hk⟩).2⟩
/-- the words' text, by its places -/
def tx_v (k : Nat) : Int := (tx_bytes.getD k 0).toInt
theorem ar_ldcT {X : gx_T} {d pc : Nat} {L : List (Nat × Option av_T)} {st : List av_T} {G : mm_T} {k n : Nat} {Q : Option av_T → mm_T → Prop} {M : mt_T} (hM : M.1.cls = "CheeseCellar$Tokens") (hd : decode M.2.1 pc = .ok (.ldc 69, 2)) (kk : aw_W X M d (pc + 2) L (av_r (some 997) :: st) G k n Q) : aw_W X M d pc L st G k n Q := by
  intro g p e R s m args below meth c H locs cells slots am am0 ls mc ms QQ hC hR hx hL hs hl h1 h2 h3 h4 hQ
  have hok : av_ok am (av_r (some 997)) := ⟨_, hR.2.2.2.2.2.2.1.2⟩
  have h9 := kk g p e R s m args below meth c H locs cells slots am am0 ls mc ms QQ hC hR hx hL (ok_c hok hs) hl h1 h2 h3 h4 hQ
  have e9 : av_t am (av_r (some 997)) = .ref (gp_k g) := av_t_r hR.2.2.2.2.2.2.1.2
  rw [List.map_cons, e9] at h9
  exact va_ldcS hC.1 hC.2.1 (by have := hC.2.2.2.1; rw [hM] at this; exact this) (hC.2.2.2.2.2.2.2.2.2.2.2.2.2.2.2.1) hd h9
theorem ac_chr {X : gx_T} {d pc : Nat} {L : List (Nat × Option av_T)} {st : List av_T} {G : mm_T} {k n : Nat} {Q : Option av_T → mm_T → Prop} {M : mt_T} (hM : M.1.cls = "CheeseCellar$Tokens") (hd : decode M.2.1 pc = .ok (.invokevirtual 71, 3)) {x : Int} (j : Nat) (hj : x = (j : Int)) (hj2 : j < 144) (hst : (st.map av_c).sum ≤ 8) (kk : i3_in (tx_v j) → aw_W X M (d + 5) (pc + 3) L (av_i (tx_v j) :: st) G k n Q) : aw_W X M (d + 5) pc L (av_i x :: av_r (some 997) :: st) G k n Q := by
  intro g p e R s m args below meth c H locs cells slots am am0 ls mc ms QQ hC hR hx hL hs hl h1 h2 h3 h4 hQ
  have e9 : av_t am (av_r (some 997)) = .ref (gp_k g) := av_t_r hR.2.2.2.2.2.2.1.2
  rw [List.map_cons, List.map_cons, e9]
  subst hj
  have hH : sk_H g H := hR.2.2.2.2.2.2.2
  have hK := (hC.2.2.2.2.2.2.2.2.2.2.2.2.2.2.2.2.1).kept (fun a ha _ => hH.2 a ha)
  obtain ⟨cell, c1, c2, c3, -⟩ := (hK.1 0 (by omega)).1
  refine sk_virt (N := js_Ca) (as := [.int (Int32.ofInt (j : Int))]) (rest := st.map (av_t am)) (b := gp_k g) hC hL.1 hl (by omega) (by omega) (sk_Ca X g d hH hj2) (by rw [hM]; exact jl_To_74) ji_Ca je_Ca jc_Ca it_JS ⟨by decide +kernel, by decide +kernel, jq_Ca⟩ (by decide) hd (by rw [av_sum]; exact hst) ⟨cell, c1, c2, c3⟩ (fun locs1 hl1 => ?_)
  have h9 := kk ⟨(tx_bytes.getD j 0).le_toInt, by have := (tx_bytes.getD j 0).toInt_lt; unfold tx_v; omega⟩ g p e R s m args below meth c H locs1 cells slots am am0 ls mc ms QQ hC hR hx hL (ok_i (ok_t (ok_t hs))) hl1 h1 h2 h3 h4 hQ
  rw [List.map_cons, av_t_i, tx_v, Int32.ofInt_toInt] at h9
  exact h9
