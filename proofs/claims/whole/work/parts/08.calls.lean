/-! ===== calls, new cells, entry (printed by wip/gen/calls.py) ===== -/
def mv_ok (N : mt_T) (np : Nat) : Prop := Cond.instanceMethod N.1 ∈ gw_all ∧ Cond.selects N.1.cls N.1 N.1 ∈ gw_all ∧ Cond.code N.1 N.2.1 N.2.2.1 N.2.2.2 ∈ gw_all ∧ Cond.initialized N.1.cls ∈ gw_all ∧
  (N.1.cls ≠ "java/lang/invoke/MethodHandle" ∧ N.1.cls ≠ "java/lang/invoke/VarHandle" ∧ (parseMethodDescriptor N.1.desc).map (fun d => d.parameters.length) = some np) ∧ N.2.2.1 ≤ 21
def sv_ok (N : mt_T) (np : Nat) : Prop := Cond.static N.1 ∈ gw_all ∧ Cond.code N.1 N.2.1 N.2.2.1 N.2.2.2 ∈ gw_all ∧ Cond.initialized N.1.cls ∈ gw_all ∧
  (N.1.cls ≠ "java/lang/invoke/MethodHandle" ∧ N.1.cls ≠ "java/lang/invoke/VarHandle" ∧ (parseMethodDescriptor N.1.desc).map (fun d => d.parameters.length) = some np) ∧ N.2.2.1 ≤ 21
def iv_ok (N : mt_T) (np : Nat) : Prop := Cond.instanceMethod N.1 ∈ gw_all ∧ N.1.name = "<init>" ∧ N.2.2.2 = none ∧ Cond.code N.1 N.2.1 N.2.2.1 N.2.2.2 ∈ gw_all ∧ Cond.initialized N.1.cls ∈ gw_all ∧
  (N.1.cls ≠ "java/lang/invoke/MethodHandle" ∧ N.1.cls ≠ "java/lang/invoke/VarHandle" ∧ (parseMethodDescriptor N.1.desc).map (fun d => d.parameters.length) = some np) ∧ N.2.2.1 ≤ 21
theorem gw_gi {ws : List Cond} (h : ∀ w ∈ ws, w ∈ gw_all) : GoodIn gw_all ws := fun w hw => ⟨h w hw, gw_good (h w hw)⟩
theorem gw_cons {c : Cond} (hc : c ∈ gw_all) : ∀ w ∈ c :: gw_all, w ∈ gw_all := fun w hw => by
  rcases List.mem_cons.mp hw with rfl | h
  · exact hc
  · exact h
/-- the start of a contract doesn't see frames -/
theorem pc_blind {X : gx_T} {g : gp_T} {am : am_T} {G : mm_T} {as : List av_T} : FrameBlind (va_Pc (as.map (av_t am)) (aq_P X g am G as)) :=
  fun a U g2 mk h => ⟨h.1, mk_K.same (s := U) (U := U.calling g2 mk a) rfl h.2.1, h.2.2⟩
theorem av_sum (am : am_T) (st : List av_T) : ((st.map (av_t am)).map fun v => v.category).sum = (st.map av_c).sum := by
  rw [List.map_map]
  congr 1
  apply List.map_congr_left
  intro v _
  exact av_cat am v
theorem lg_len (am : am_T) (as : List av_T) : (lg_sl (as.map (av_t am))).length = (as.map av_c).sum := by
  induction as with
  | nil => rfl
  | cons v t ih =>
    have hc := av_cat am v
    simp only [lg_sl, List.map_cons, List.flatMap_cons, List.length_append, List.sum_cons] at ih ⊢
    rw [ih, hc]
    rcases v with x | x | r <;> simp [av_c]
def rt_c : Option av_T → List av_T → List av_T
  | none, st => st
  | some v, st => v :: st
theorem rt_c_eq (r : Option av_T) (st : List av_T) : rt_c r st = r.toList ++ st := by cases r <;> rfl
/-- behind a call -/
theorem ac_go {X : gx_T} {M : mt_T} {d pc : Nat} {L : List (Nat × Option av_T)} {st : List av_T} {G : mm_T} {k n : Nat} {Q : Option av_T → mm_T → Prop} {st0 : List av_T} {Q1 : Option av_T → mm_T → Prop} {k1 n1 k2 n2 : Nat} (kk : ∀ r G', Q1 r G' → aw_W X M d (pc + 3) L (rt_c r st) G' k2 n2 Q) (hk : k1 + k2 ≤ k) (hn : n1 + n2 ≤ n)
    {g : gp_T} {p : Program} {e : Env} {R : Room} {s : State} {m : MethodId} {args : Array Value} {below : List Frame} {meth : Method} {c : Code} {H : Heap} {locs : List Loc} {cells slots : Nat} {am am0 : am_T} {ls : Array Slot} {mc ms : Nat} {QQ : State → Prop} {arr : Array Value}
    (hC : aw_C X M d g p R s m args meth c) (hx : ae_x am0 am) (hL : aw_L am ls M.2.2.1 L) (hs : ∀ v ∈ st, av_ok am v) (hl : ∀ q ∈ locs, (gp_H g).size ≤ q.base) (h1 : cells + k ≤ mc) (h2 : slots + n ≤ ms) (h3 : mc ≤ R.cells) (h4 : ms ≤ R.slots) (hQ : aw_R g M p e R s m args below meth c am0 mc ms Q QQ)
    (hr : va_Run p (gp_l g) e R s m args below meth c H locs cells slots k1 n1 (F0 m pc ls (st0.map (av_t am))) (st.map (av_t am)) (aq_Q g am Q1 arr) (fun q => (gp_H g).size ≤ q)) :
    W p (gp_l g) e R s m args below meth c H locs cells slots QQ (F0 m pc ls (st0.map (av_t am))) := by
  intro T hT X0
  obtain ⟨v, st₀, t, T', L0, e0, X', hL0, e1, e2, ⟨r, G', am', hv, hq, hxx, hR', hok⟩, goes⟩ := hr T hT X0
  cases hv
  have hs' : ∀ w ∈ r.toList ++ st, av_ok am' w := fun w hw => by
    rcases List.mem_append.mp hw with h | h
    · exact hok w h
    · exact av_ok_x hxx (hs w h)
  have kk := kk r G' hq
  rw [rt_c_eq] at kk
  have key := kk g p e R s m args below meth c T'.heap (locs ++ L0) (cells + k1) (slots + n1) am' am0 ls mc ms QQ hC (by rw [e1]; exact hR') (ae_tr hx hxx) (hL.ext hxx) hs' (fun q hq2 => by
    rcases List.mem_append.mp hq2 with h | h
    · exact hl q h
    · exact hL0 q h) (by omega) (by omega) h3 h4 hQ
  have est : (r.map (av_t am')).toList ++ st.map (av_t am) = (r.toList ++ st).map (av_t am') := by
    rw [List.map_append, av_ts_x hxx hs]
    cases r <;> rfl
  obtain ⟨t2, a1, b1⟩ := key T' rfl X'
  rw [← est] at a1
  exact ⟨t2, goes t2 a1, b1⟩
theorem ac_virt0 {X : gx_T} {M : mt_T} {d pc : Nat} {L : List (Nat × Option av_T)} {st : List av_T} {G : mm_T} {k n : Nat} {Q : Option av_T → mm_T → Prop} {N : mt_T} {as : List av_T} {a idx c0 N0 k1 n1 : Nat} {T : u_T} {Q1 : Option av_T → mm_T → Prop} (k2 n2 : Nat) (mv : mv_ok N as.length) (hl0 : Cond.methodLink M.1.cls idx N.1 ∈ gw_all) (ck : ck_ok c0 N0 N.1.cls T) (hs0 : sh_t a = (c0, N0)) (hd : decode M.2.1 pc = .ok (.invokevirtual idx, 3)) (hst : (st.map av_c).sum ≤ 8)
    (hM : aw_M X d N (av_r (some a) :: as) G k1 n1 Q1) (hk : k1 + k2 ≤ k) (hn : n1 + n2 ≤ n) (kk : ∀ r G', Q1 r G' → aw_W X M (d + 1) (pc + 3) L (rt_c r st) G' k2 n2 Q) : aw_W X M (d + 1) pc L (as.reverse ++ av_r (some a) :: st) G k n Q := by
  intro g p e R s m args below meth c H locs cells slots am am0 ls mc ms QQ hC hR hx hL hs hl h1 h2 h3 h4 hQ
  have hsa : ∀ v ∈ as, av_ok am v := fun v hv => hs v (List.mem_append_left _ (List.mem_reverse.mpr hv))
  have hsr : av_ok am (av_r (some a)) := hs _ (List.mem_append_right _ List.mem_cons_self)
  have hst' : ∀ v ∈ st, av_ok am v := fun v hv => hs v (List.mem_append_right _ (List.mem_cons_of_mem _ hv))
  obtain ⟨q, hq, e9⟩ := av_ref hsr
  have ha9 : a < 900 := (sh_small hs0).2 (by have := ck.2.2.1; omega)
  have hrecv := va_recv hC.2.2.2.2.2.2.2.2.2.2.1 (mr_P hR ha9 hq (ce_obj ck hs0)) ck.1 (q0 := 0) rfl
  have hfr : d + 1 ≤ R.frames := hC.2.2.2.2.2.2.2.2.1
  have hlo : 40 * (d + 1) ≤ R.locals := hC.2.2.2.2.2.2.2.2.2.1
  have hmx := mv.2.2.2.2.2
  refine ac_go (G := G) (arr := (Value.ref q :: as.map (av_t am)).toArray) kk hk hn hC hx hL hst' hl h1 h2 h3 h4 hQ ?_
  refine va_runV (C := N.1.cls) (As := as.map (av_t am)) (b := q) (nL := M.2.2.1) (Ts := gw_all) ⟨hC.1, hC.2.1, hC.2.2.1, hC.2.2.2.1, hC.2.2.2.2.1⟩ (hM g am) (cwV as.length hC.2.2.2.2.1 (gw_gi ?_) rfl rfl rfl ⟨rfl, mv.2.2.2.2.1⟩ ⟨hfr, show 8 + (N.2.2.1 + 11) + 40 * d ≤ R.locals by omega⟩) ⟨pc_blind, hrecv, fun U hU hW => ?_⟩ rfl (by simp) hL.1 ?_ ?_ hd ⟨by omega, by omega⟩
  · intro w hw
    unfold wsV at hw
    rcases List.mem_append.mp hw with h | h
    · simp only [List.mem_cons, List.not_mem_nil, or_false] at h
      rcases h with rfl | rfl | rfl | rfl
      · exact hl0
      · exact mv.1
      · exact mv.2.1
      · exact mv.2.2.2.1
    · exact gw_cons mv.2.2.1 w h
  · refine ⟨?_, mk_K.warm hW hC.2.2.2.2.2.2.2.2.2.2, by rw [hU]; exact hR, fun v hv => ?_⟩
    · rw [List.map_cons, e9]
    · rcases List.mem_cons.mp hv with rfl | hv
      · exact hsr
      · exact hsa v hv
  · show (as.reverse ++ av_r (some a) :: st).map (av_t am) = _
    rw [List.map_append, List.map_reverse, List.map_cons, e9]
  · refine lv_room ?_
    rw [av_sum]; exact hst
theorem ac_stat0 {X : gx_T} {M : mt_T} {d pc : Nat} {L : List (Nat × Option av_T)} {st : List av_T} {G : mm_T} {k n : Nat} {Q : Option av_T → mm_T → Prop} {N : mt_T} {as : List av_T} {idx k1 n1 : Nat} {Q1 : Option av_T → mm_T → Prop} (k2 n2 : Nat) (mv : sv_ok N as.length) (hl0 : Cond.methodLink M.1.cls idx N.1 ∈ gw_all) (hd : decode M.2.1 pc = .ok (.invokestatic idx, 3)) (hst : (st.map av_c).sum ≤ 8)
    (hM : aw_M X d N as G k1 n1 Q1) (hk : k1 + k2 ≤ k) (hn : n1 + n2 ≤ n) (kk : ∀ r G', Q1 r G' → aw_W X M (d + 1) (pc + 3) L (rt_c r st) G' k2 n2 Q) : aw_W X M (d + 1) pc L (as.reverse ++ st) G k n Q := by
  intro g p e R s m args below meth c H locs cells slots am am0 ls mc ms QQ hC hR hx hL hs hl h1 h2 h3 h4 hQ
  have hsa : ∀ v ∈ as, av_ok am v := fun v hv => hs v (List.mem_append_left _ (List.mem_reverse.mpr hv))
  have hst' : ∀ v ∈ st, av_ok am v := fun v hv => hs v (List.mem_append_right _ hv)
  have hfr : d + 1 ≤ R.frames := hC.2.2.2.2.2.2.2.2.1
  have hlo : 40 * (d + 1) ≤ R.locals := hC.2.2.2.2.2.2.2.2.2.1
  have hmx := mv.2.2.2.2
  refine ac_go (G := G) (arr := (as.map (av_t am)).toArray) kk hk hn hC hx hL hst' hl h1 h2 h3 h4 hQ ?_
  refine va_runS (As := as.map (av_t am)) (nL := M.2.2.1) (Ts := gw_all) ⟨hC.1, hC.2.1, hC.2.2.1, hC.2.2.2.1, hC.2.2.2.2.1⟩ (hM g am) ⟨callB_of as.length hC.2.2.2.2.1 (gw_gi (gw_cons mv.2.1)) rfl rfl rfl (hC.2.2.2.2.1 _ mv.2.2.1) (hC.2.2.2.2.1 _ hl0) mv.2.2.2.1 ⟨hfr, show 8 + (N.2.2.1 + 11) + 40 * d ≤ R.locals by omega⟩, hC.2.2.2.2.1 _ mv.1⟩ ⟨pc_blind, fun U hU hW => ⟨rfl, mk_K.warm hW hC.2.2.2.2.2.2.2.2.2.2, by rw [hU]; exact hR, hsa⟩⟩ rfl (by simp) hL.1 ?_ ?_ hd ⟨by omega, by omega⟩
  · show (as.reverse ++ st).map (av_t am) = _
    rw [List.map_append, List.map_reverse]
  · refine lv_room ?_
    rw [av_sum]; exact hst
theorem ac_statN0 {X : gx_T} {M : mt_T} {d pc : Nat} {L : List (Nat × Option av_T)} {st : List av_T} {G : mm_T} {k n : Nat} {Q : Option av_T → mm_T → Prop} {N : mt_T} {host : String} {as : List av_T} {idx k1 n1 : Nat} {Q1 : Option av_T → mm_T → Prop} (k2 n2 : Nat) (mv : sv_ok N as.length) (hl0 : Cond.methodLinkNest M.1.cls idx N.1 host ∈ nw_all) (hd : decode M.2.1 pc = .ok (.invokestatic idx, 3)) (hst : (st.map av_c).sum ≤ 8)
    (hM : aw_M X d N as G k1 n1 Q1) (hk : k1 + k2 ≤ k) (hn : n1 + n2 ≤ n) (kk : ∀ r G', Q1 r G' → aw_W X M (d + 1) (pc + 3) L (rt_c r st) G' k2 n2 Q) : aw_W X M (d + 1) pc L (as.reverse ++ st) G k n Q := by
  intro g p e R s m args below meth c H locs cells slots am am0 ls mc ms QQ hC hR hx hL hs hl h1 h2 h3 h4 hQ
  have hsa : ∀ v ∈ as, av_ok am v := fun v hv => hs v (List.mem_append_left _ (List.mem_reverse.mpr hv))
  have hst' : ∀ v ∈ st, av_ok am v := fun v hv => hs v (List.mem_append_right _ hv)
  have hfr : d + 1 ≤ R.frames := hC.2.2.2.2.2.2.2.2.1
  have hlo : 40 * (d + 1) ≤ R.locals := hC.2.2.2.2.2.2.2.2.2.1
  have hmx := mv.2.2.2.2
  refine ac_go (G := G) (arr := (as.map (av_t am)).toArray) kk hk hn hC hx hL hst' hl h1 h2 h3 h4 hQ ?_
  refine va_runSN (As := as.map (av_t am)) (nL := M.2.2.1) (Ts := gw_all) ⟨hC.1, hC.2.1, hC.2.2.1, hC.2.2.2.1, hC.2.2.2.2.1⟩ (hM g am) ⟨va_cnB as.length hC.2.2.2.2.1 (gw_gi (gw_cons mv.2.1)) rfl rfl rfl (hC.2.2.2.2.2.2.2.2.2.2.2.1 _ hl0) (hC.2.2.2.2.1 _ mv.2.2.1) mv.2.2.2.1 ⟨hfr, show 8 + (N.2.2.1 + 11) + 40 * d ≤ R.locals by omega⟩, hC.2.2.2.2.1 _ mv.1, trivial⟩ ⟨pc_blind, fun U hU hW => ⟨rfl, mk_K.warm hW hC.2.2.2.2.2.2.2.2.2.2, by rw [hU]; exact hR, hsa⟩⟩ rfl (by simp) hL.1 ?_ ?_ hd ⟨by omega, by omega⟩
  · show (as.reverse ++ st).map (av_t am) = _
    rw [List.map_append, List.map_reverse]
  · refine lv_room ?_
    rw [av_sum]; exact hst
theorem ac_init0 {X : gx_T} {M : mt_T} {d pc : Nat} {L : List (Nat × Option av_T)} {st : List av_T} {G : mm_T} {k n : Nat} {Q : Option av_T → mm_T → Prop} {N : mt_T} {as : List av_T} {a idx k1 n1 : Nat} {Q1 : Option av_T → mm_T → Prop} (k2 n2 : Nat) (mv : iv_ok N as.length) (hl0 : Cond.methodLink M.1.cls idx N.1 ∈ gw_all) (hd : decode M.2.1 pc = .ok (.invokespecial idx, 3)) (hst : (st.map av_c).sum ≤ 8)
    (hM : aw_M X d N (av_r (some a) :: as) G k1 n1 Q1) (hk : k1 + k2 ≤ k) (hn : n1 + n2 ≤ n) (kk : ∀ r G', Q1 r G' → aw_W X M (d + 1) (pc + 3) L (rt_c r st) G' k2 n2 Q) : aw_W X M (d + 1) pc L (as.reverse ++ av_r (some a) :: st) G k n Q := by
  intro g p e R s m args below meth c H locs cells slots am am0 ls mc ms QQ hC hR hx hL hs hl h1 h2 h3 h4 hQ
  have hsa : ∀ v ∈ as, av_ok am v := fun v hv => hs v (List.mem_append_left _ (List.mem_reverse.mpr hv))
  have hsr : av_ok am (av_r (some a)) := hs _ (List.mem_append_right _ List.mem_cons_self)
  have hst' : ∀ v ∈ st, av_ok am v := fun v hv => hs v (List.mem_append_right _ (List.mem_cons_of_mem _ hv))
  obtain ⟨q, hq, e9⟩ := av_ref hsr
  have hfr : d + 1 ≤ R.frames := hC.2.2.2.2.2.2.2.2.1
  have hlo : 40 * (d + 1) ≤ R.locals := hC.2.2.2.2.2.2.2.2.2.1
  have hmx := mv.2.2.2.2.2.2
  refine ac_go (G := G) (arr := (Value.ref q :: as.map (av_t am)).toArray) kk hk hn hC hx hL hst' hl h1 h2 h3 h4 hQ ?_
  refine va_runI (As := as.map (av_t am)) (b := q) (nL := M.2.2.1) (Ts := gw_all) ⟨hC.1, hC.2.1, hC.2.2.1, hC.2.2.2.1, hC.2.2.2.2.1⟩ (hM g am) (cwI as.length hC.2.2.2.2.1 (gw_gi (gw_cons mv.2.2.2.1)) (by rw [mv.2.2.1]) rfl rfl (hC.2.2.2.2.1 _ mv.2.2.2.2.1) (hC.2.2.2.2.1 _ hl0) (hC.2.2.2.2.1 _ mv.1) mv.2.1 mv.2.2.2.2.2.1 ⟨hfr, show 8 + (N.2.2.1 + 11) + 40 * d ≤ R.locals by omega⟩) ⟨pc_blind, fun U hU hW => ?_⟩ rfl (by simp) hL.1 ?_ ?_ hd ⟨by omega, by omega⟩
  · refine ⟨?_, mk_K.warm hW hC.2.2.2.2.2.2.2.2.2.2, by rw [hU]; exact hR, fun v hv => ?_⟩
    · rw [List.map_cons, e9]
    · rcases List.mem_cons.mp hv with rfl | hv
      · exact hsr
      · exact hsa v hv
  · show (as.reverse ++ av_r (some a) :: st).map (av_t am) = _
    rw [List.map_append, List.map_reverse, List.map_cons, e9]
  · refine lv_room ?_
    rw [av_sum]; exact hst
theorem ac_initN0 {X : gx_T} {M : mt_T} {d pc : Nat} {L : List (Nat × Option av_T)} {st : List av_T} {G : mm_T} {k n : Nat} {Q : Option av_T → mm_T → Prop} {N : mt_T} {host : String} {as : List av_T} {a idx k1 n1 : Nat} {Q1 : Option av_T → mm_T → Prop} (k2 n2 : Nat) (mv : iv_ok N as.length) (hl0 : Cond.methodLinkNest M.1.cls idx N.1 host ∈ nw_all) (hd : decode M.2.1 pc = .ok (.invokespecial idx, 3)) (hst : (st.map av_c).sum ≤ 8)
    (hM : aw_M X d N (av_r (some a) :: as) G k1 n1 Q1) (hk : k1 + k2 ≤ k) (hn : n1 + n2 ≤ n) (kk : ∀ r G', Q1 r G' → aw_W X M (d + 1) (pc + 3) L (rt_c r st) G' k2 n2 Q) : aw_W X M (d + 1) pc L (as.reverse ++ av_r (some a) :: st) G k n Q := by
  intro g p e R s m args below meth c H locs cells slots am am0 ls mc ms QQ hC hR hx hL hs hl h1 h2 h3 h4 hQ
  have hsa : ∀ v ∈ as, av_ok am v := fun v hv => hs v (List.mem_append_left _ (List.mem_reverse.mpr hv))
  have hsr : av_ok am (av_r (some a)) := hs _ (List.mem_append_right _ List.mem_cons_self)
  have hst' : ∀ v ∈ st, av_ok am v := fun v hv => hs v (List.mem_append_right _ (List.mem_cons_of_mem _ hv))
  obtain ⟨q, hq, e9⟩ := av_ref hsr
  have hfr : d + 1 ≤ R.frames := hC.2.2.2.2.2.2.2.2.1
  have hlo : 40 * (d + 1) ≤ R.locals := hC.2.2.2.2.2.2.2.2.2.1
  have hmx := mv.2.2.2.2.2.2
  refine ac_go (G := G) (arr := (Value.ref q :: as.map (av_t am)).toArray) kk hk hn hC hx hL hst' hl h1 h2 h3 h4 hQ ?_
  refine va_runIN (As := as.map (av_t am)) (b := q) (nL := M.2.2.1) (Ts := gw_all) ⟨hC.1, hC.2.1, hC.2.2.1, hC.2.2.2.1, hC.2.2.2.2.1⟩ (hM g am) ⟨va_cnB as.length hC.2.2.2.2.1 (gw_gi (gw_cons mv.2.2.2.1)) (by rw [mv.2.2.1]) rfl rfl (hC.2.2.2.2.2.2.2.2.2.2.2.1 _ hl0) (hC.2.2.2.2.1 _ mv.2.2.2.2.1) mv.2.2.2.2.2.1 ⟨hfr, show 8 + (N.2.2.1 + 11) + 40 * d ≤ R.locals by omega⟩, mv.2.1, hC.2.2.2.2.1 _ mv.1⟩ ⟨pc_blind, fun U hU hW => ?_⟩ rfl (by simp) hL.1 ?_ ?_ hd ⟨by omega, by omega⟩
  · refine ⟨?_, mk_K.warm hW hC.2.2.2.2.2.2.2.2.2.2, by rw [hU]; exact hR, fun v hv => ?_⟩
    · rw [List.map_cons, e9]
    · rcases List.mem_cons.mp hv with rfl | hv
      · exact hsr
      · exact hsa v hv
  · show (as.reverse ++ av_r (some a) :: st).map (av_t am) = _
    rw [List.map_append, List.map_reverse, List.map_cons, e9]
  · refine lv_room ?_
    rw [av_sum]; exact hst
/-! the same, with the stack told behind -/
theorem ac_virt {X : gx_T} {M : mt_T} {d pc : Nat} {L : List (Nat × Option av_T)} {st : List av_T} {G : mm_T} {k n : Nat} {Q : Option av_T → mm_T → Prop} {N : mt_T} {stk as : List av_T} {a idx c0 N0 k1 n1 : Nat} {T : u_T} {Q1 : Option av_T → mm_T → Prop} {np : Nat} (k2 n2 : Nat) (mv : mv_ok N np) (hl0 : Cond.methodLink M.1.cls idx N.1 ∈ gw_all) (ck : ck_ok c0 N0 N.1.cls T) (hd : decode M.2.1 pc = .ok (.invokevirtual idx, 3))
    (hM : aw_M X d N (av_r (some a) :: as) G k1 n1 Q1) (hs0 : sh_t a = (c0, N0)) (hnp : as.length = np) (hstk : stk = as.reverse ++ av_r (some a) :: st) (hst : (st.map av_c).sum ≤ 8) (hk : k1 + k2 ≤ k) (hn : n1 + n2 ≤ n) (kk : ∀ r G', Q1 r G' → aw_W X M (d + 1) (pc + 3) L (rt_c r st) G' k2 n2 Q) : aw_W X M (d + 1) pc L stk G k n Q := by
  subst hstk; subst hnp; exact ac_virt0 k2 n2 mv hl0 ck hs0 hd hst hM hk hn kk
theorem ac_stat {X : gx_T} {M : mt_T} {d pc : Nat} {L : List (Nat × Option av_T)} {st : List av_T} {G : mm_T} {k n : Nat} {Q : Option av_T → mm_T → Prop} {N : mt_T} {stk as : List av_T} {idx k1 n1 : Nat} {Q1 : Option av_T → mm_T → Prop} {np : Nat} (k2 n2 : Nat) (mv : sv_ok N np) (hl0 : Cond.methodLink M.1.cls idx N.1 ∈ gw_all) (hd : decode M.2.1 pc = .ok (.invokestatic idx, 3))
    (hM : aw_M X d N as G k1 n1 Q1) (hnp : as.length = np) (hstk : stk = as.reverse ++ st) (hst : (st.map av_c).sum ≤ 8) (hk : k1 + k2 ≤ k) (hn : n1 + n2 ≤ n) (kk : ∀ r G', Q1 r G' → aw_W X M (d + 1) (pc + 3) L (rt_c r st) G' k2 n2 Q) : aw_W X M (d + 1) pc L stk G k n Q := by
  subst hstk; subst hnp; exact ac_stat0 k2 n2 mv hl0 hd hst hM hk hn kk
theorem ac_statN {X : gx_T} {M : mt_T} {d pc : Nat} {L : List (Nat × Option av_T)} {st : List av_T} {G : mm_T} {k n : Nat} {Q : Option av_T → mm_T → Prop} {N : mt_T} {host : String} {stk as : List av_T} {idx k1 n1 : Nat} {Q1 : Option av_T → mm_T → Prop} {np : Nat} (k2 n2 : Nat) (mv : sv_ok N np) (hl0 : Cond.methodLinkNest M.1.cls idx N.1 host ∈ nw_all) (hd : decode M.2.1 pc = .ok (.invokestatic idx, 3))
    (hM : aw_M X d N as G k1 n1 Q1) (hnp : as.length = np) (hstk : stk = as.reverse ++ st) (hst : (st.map av_c).sum ≤ 8) (hk : k1 + k2 ≤ k) (hn : n1 + n2 ≤ n) (kk : ∀ r G', Q1 r G' → aw_W X M (d + 1) (pc + 3) L (rt_c r st) G' k2 n2 Q) : aw_W X M (d + 1) pc L stk G k n Q := by
  subst hstk; subst hnp; exact ac_statN0 k2 n2 mv hl0 hd hst hM hk hn kk
theorem ac_init {X : gx_T} {M : mt_T} {d pc : Nat} {L : List (Nat × Option av_T)} {st : List av_T} {G : mm_T} {k n : Nat} {Q : Option av_T → mm_T → Prop} {N : mt_T} {stk as : List av_T} {a idx k1 n1 : Nat} {Q1 : Option av_T → mm_T → Prop} {np : Nat} (k2 n2 : Nat) (mv : iv_ok N np) (hl0 : Cond.methodLink M.1.cls idx N.1 ∈ gw_all) (hd : decode M.2.1 pc = .ok (.invokespecial idx, 3))
    (hM : aw_M X d N (av_r (some a) :: as) G k1 n1 Q1) (hnp : as.length = np) (hstk : stk = as.reverse ++ av_r (some a) :: st) (hst : (st.map av_c).sum ≤ 8) (hk : k1 + k2 ≤ k) (hn : n1 + n2 ≤ n) (kk : ∀ r G', Q1 r G' → aw_W X M (d + 1) (pc + 3) L (rt_c r st) G' k2 n2 Q) : aw_W X M (d + 1) pc L stk G k n Q := by
  subst hstk; subst hnp; exact ac_init0 k2 n2 mv hl0 hd hst hM hk hn kk
theorem ac_initN {X : gx_T} {M : mt_T} {d pc : Nat} {L : List (Nat × Option av_T)} {st : List av_T} {G : mm_T} {k n : Nat} {Q : Option av_T → mm_T → Prop} {N : mt_T} {host : String} {stk as : List av_T} {a idx k1 n1 : Nat} {Q1 : Option av_T → mm_T → Prop} {np : Nat} (k2 n2 : Nat) (mv : iv_ok N np) (hl0 : Cond.methodLinkNest M.1.cls idx N.1 host ∈ nw_all) (hd : decode M.2.1 pc = .ok (.invokespecial idx, 3))
    (hM : aw_M X d N (av_r (some a) :: as) G k1 n1 Q1) (hnp : as.length = np) (hstk : stk = as.reverse ++ av_r (some a) :: st) (hst : (st.map av_c).sum ≤ 8) (hk : k1 + k2 ≤ k) (hn : n1 + n2 ≤ n) (kk : ∀ r G', Q1 r G' → aw_W X M (d + 1) (pc + 3) L (rt_c r st) G' k2 n2 Q) : aw_W X M (d + 1) pc L stk G k n Q := by
  subst hstk; subst hnp; exact ac_initN0 k2 n2 mv hl0 hd hst hM hk hn kk
/-- Object's own constructor -/
theorem ac_obj {X : gx_T} {M : mt_T} {d pc : Nat} {L : List (Nat × Option av_T)} {st : List av_T} {G : mm_T} {k n : Nat} {Q : Option av_T → mm_T → Prop} {a idx : Nat} (hl0 : Cond.methodLink M.1.cls idx Lib.objectInit ∈ gw_all) (hd : decode M.2.1 pc = .ok (.invokespecial idx, 3)) (hst : (st.map av_c).sum ≤ 8) (kk : aw_W X M (d + 1) (pc + 3) L st G k n Q) : aw_W X M (d + 1) pc L (av_r (some a) :: st) G k n Q := by
  intro g p e R s m args below meth c H locs cells slots am am0 ls mc ms QQ hC hR hx hL hs hl h1 h2 h3 h4 hQ
  obtain ⟨q, hq, e9⟩ := av_ref (ok_h hs)
  rw [List.map_cons, e9]
  have hfr : d + 1 ≤ R.frames := hC.2.2.2.2.2.2.2.2.1
  have hlo : 40 * (d + 1) ≤ R.locals := hC.2.2.2.2.2.2.2.2.2.1
  refine W.objInit hC.1 hC.2.1 hC.2.2.2.1 (hC.2.2.2.2.1 _ hl0) (hC.2.2.2.2.1 _ im_JO_init) (hC.2.2.2.2.1 _ co_JO_init) rfl (hL.1.trans hC.2.2.1.symm) rfl hd (by omega) ?_ ?_
  · show 2 * 0 + ((st.map (av_t am)).map fun v => v.category).sum + 12 ≤ _
    rw [av_sum]; omega
  · exact kk g p e R s m args below meth c H locs cells slots am am0 ls mc ms QQ hC hR hx hL (ok_t hs) hl h1 h2 h3 h4 hQ
/-! new cells -/
theorem ce_ext {dA : Nat → ClassId} {am am' : am_T} {G : mm_T} {c : Nat} (hx : ae_x am am') (hr : ∀ k z, mm_R G c k = some z → ∃ q, am z = some q) : ce_of dA am' G c = ce_of dA am G c := by
  have hb : ∀ k, (mm_R G c k).bind am' = (mm_R G c k).bind am := fun k => by
    cases h : mm_R G c k with
    | none => rfl
    | some z =>
      obtain ⟨q, hq⟩ := hr k z h
      rw [Option.bind_some, Option.bind_some, hq]
      exact hx z q hq
  have hv : ∀ (d : String) (k : Nat), ce_v am' G c d k = ce_v am G c d k := fun d k => by unfold ce_v; rw [hb]
  unfold ce_of ce_q ce_o
  simp only [hb, hv]
def am_new (am : am_T) (b q : Nat) : am_T := fun a => if a = b then some q else am a
theorem mr_new {g : gp_T} {am : am_T} {G : mm_T} {H H' : Heap} {b : Nat} (hR : mr_R g am G H) (hb : b < 900) (hA : mm_A G b = false) (hz : H'.size = H.size + 1) (oq : ∀ z, z < H.size → H'[z]? = H[z]?)
    (hc : va_at (gp_D g) cl_all (H.size, ce_of (gp_A g) (am_new am b H.size) (ms_N G b) b) H') : mr_R g (am_new am b H.size) (ms_N G b) H' ∧ ae_x am (am_new am b H.size) := by
  obtain ⟨r1, r2, r3, r4, r5, r6, r7, r8, r9⟩ := hR
  have hnb := r3 b hb hA
  have hx : ae_x am (am_new am b H.size) := fun a q h => by
    unfold am_new
    rw [if_neg (fun e => by rw [e, hnb] at h; cases h)]
    exact h
  have hlt : ∀ a q, a < 900 → am a = some q → q < H.size := fun a q ha hq => (r1 a q ha hq).1.lt
  refine ⟨⟨fun a q ha hq => ?_, fun a c q ha hc9 hqa hqc => ?_, fun a ha h => ?_, fun a k z h => ?_, fun a k => ?_, fun a k => ?_, ⟨hx _ _ r7.1, hx _ _ r7.2⟩, by omega, fun z hz2 => by rw [oq z (by omega)]; exact r9 z hz2⟩, hx⟩
  · by_cases hab : a = b
    · subst hab
      have : q = H.size := by unfold am_new at hq; rw [if_pos rfl] at hq; exact (Option.some.inj hq).symm
      subst this
      exact ⟨hc, r8⟩
    · have hq' : am a = some q := by unfold am_new at hq; rw [if_neg hab] at hq; exact hq
      refine ⟨?_, (r1 a q ha hq').2⟩
      have e1 : ce_of (gp_A g) (am_new am b H.size) (ms_N G b) a = ce_of (gp_A g) am G a := by
        rw [← ce_ext (c := a) hx (fun k z h => (r4 a k z h).2)]
        refine ce_same ?_ ?_ ?_ <;> (funext j; show (if a = b then _ else _) = _; rw [if_neg hab]; rfl)
      rw [e1]
      exact (r1 a q ha hq').1.kept (oq q (hlt a q ha hq'))
  · unfold am_new at hqa hqc
    by_cases hab : a = b
    · by_cases hcb : c = b
      · rw [hab, hcb]
      · rw [if_pos hab] at hqa; rw [if_neg hcb] at hqc
        have := hlt c q hc9 hqc
        have := Option.some.inj hqa
        omega
    · by_cases hcb : c = b
      · rw [if_neg hab] at hqa; rw [if_pos hcb] at hqc
        have := hlt a q ha hqa
        have := Option.some.inj hqc
        omega
      · rw [if_neg hab] at hqa; rw [if_neg hcb] at hqc
        exact r2 a c q ha hc9 hqa hqc
  · have h : (if a = b then true else mm_A G a) = false := h
    by_cases hab : a = b
    · rw [if_pos hab] at h; cases h
    · rw [if_neg hab] at h
      unfold am_new; rw [if_neg hab]; exact r3 a ha h
  · have h : (if a = b then none else mm_R G a k) = some z := h
    by_cases hab : a = b
    · rw [if_pos hab] at h; cases h
    · rw [if_neg hab] at h
      obtain ⟨h5, q, h6⟩ := r4 a k z h
      exact ⟨h5, q, hx z q h6⟩
  · show i3_in (if a = b then 0 else mm_I G a k)
    split
    · exact i3_0
    · exact r5 a k
  · show j6_in (if a = b then 0 else mm_J G a k)
    split
    · constructor <;> omega
    · exact r6 a k
theorem ms_N_I (G : mm_T) (b k : Nat) : mm_I (ms_N G b) b k = 0 := by show (if b = b then _ else _) = _; rw [if_pos rfl]
theorem ms_N_J (G : mm_T) (b k : Nat) : mm_J (ms_N G b) b k = 0 := by show (if b = b then _ else _) = _; rw [if_pos rfl]
theorem ms_N_R (G : mm_T) (b k : Nat) : mm_R (ms_N G b) b k = none := by show (if b = b then _ else _) = _; rw [if_pos rfl]
theorem am_new_s (am : am_T) (b q : Nat) : am_new am b q b = some q := by unfold am_new; rw [if_pos rfl]
theorem ac_new {X : gx_T} {M : mt_T} {d pc : Nat} {L : List (Nat × Option av_T)} {st : List av_T} {G : mm_T} {k n : Nat} {Q : Option av_T → mm_T → Prop} {idx c0 N0 : Nat} {C : String} {T : u_T} (b : Nat) (ck : ck_ok c0 N0 C T) (hkl : Cond.classLink M.1.cls idx C ∈ gw_all) (hin : Cond.instantiable C N0 ∈ gw_all) (hit : Cond.initialized C ∈ gw_all) (hd : decode M.2.1 pc = .ok (.new idx, 3)) (hs0 : sh_t b = (c0, N0)) (hA : mm_A G b = false)
    (kk : aw_W X M d (pc + 3) L (av_r (some b) :: st) (ms_N G b) k n Q) : aw_W X M d pc L st G (k + 1) (n + N0) Q := by
  intro g p e R s m args below meth c H locs cells slots am am0 ls mc ms QQ hC hR hx hL hs hl h1 h2 h3 h4 hQ
  have hb9 : b < 900 := (sh_small hs0).2 (by have := ck.2.2.1; omega)
  obtain ⟨ty, hdt⟩ := ck.2.2.2
  have hK := hC.2.2.2.2.2.2.2.2.2.2.1
  have hKn := hK.1 c0 _ ck.1
  refine W.newcK hC.1 hC.2.1 hC.2.2.2.1 (hC.2.2.2.2.1 _ hkl) (hC.2.2.2.2.1 _ hin) (hC.2.2.2.2.1 _ hit) rfl hd (by omega) (by omega) hKn.2.1 rfl fun H1 kC hkC e1 z1 o1 => ?_
  have hcell : va_at (gp_D g) cl_all (H.size, ce_of (gp_A g) (am_new am b H.size) (ms_N G b) b) H1 := by
    rw [ce_obj ck hs0]
    refine ⟨_, ck.1, (u_born ty hC.2.2.2.2.1 ck.2.1 hKn hkC e1 hdt.1).to (fun j hj => ?_)⟩
    have hj : j < N0 := hj
    unfold vp_V
    rw [List.getD_eq_getElem?_getD, List.getElem?_map, List.getElem?_range hj, Option.map_some, Option.getD_some, hdt.2.2 j hj]
    rcases fk_4 (T j).2.2.1 with h | h | h | h
    · rw [ce_v_I (Or.inl h), h, ms_N_I]; rfl
    · rw [ce_v_I (Or.inr h), h, ms_N_I]; rfl
    · rw [ce_v_J h, h, ms_N_J]; rfl
    · rw [ce_v_R h, h, ms_N_R]; rfl
  obtain ⟨hR1, hxx⟩ := mr_new hR hb9 hA z1 o1 hcell
  have h9 := kk g p e R s m args below meth c H1 locs (cells + 1) (slots + N0) (am_new am b H.size) am0 ls mc ms QQ hC hR1 (ae_tr hx hxx) (hL.ext hxx) (ok_c ⟨_, am_new_s _ _ _⟩ (fun v hv => av_ok_x hxx (hs v hv))) hl (by omega) (by omega) h3 h4 hQ
  rw [List.map_cons, av_t_r (am_new_s am b H.size), av_ts_x hxx hs] at h9
  exact h9
theorem an_100 {X : gx_T} {M : mt_T} {d pc : Nat} {L : List (Nat × Option av_T)} {st : List av_T} {G : mm_T} {k n : Nat} {Q : Option av_T → mm_T → Prop} {x : Int} {N0 : Nat} (b : Nat) (hd : decode M.2.1 pc = .ok (.newarray .int, 2)) (hs0 : sh_t b = (100, N0)) (hj : x = (N0 : Int)) (hA : mm_A G b = false)
    (kk : aw_W X M d (pc + 2) L (av_r (some b) :: st) (ms_N G b) k n Q) : aw_W X M d pc L (av_i x :: st) G (k + 1) (n + N0) Q := by
  intro g p e R s m args below meth c H locs cells slots am am0 ls mc ms QQ hC hR hx hL hs hl h1 h2 h3 h4 hQ
  have hsm := sh_small hs0
  have hb9 : b < 900 := hsm.2 (by omega)
  have hxr : i3_in x := ⟨by omega, by omega⟩
  have hcl : (Int32.ofInt x).toNatClampNeg = N0 := by rw [i3_clamp hxr]; omega
  have hK := hC.2.2.2.2.2.2.2.2.2.2.1
  have hc8 : componentBytes (newarray.typeOf .int) ≤ 8 := by decide
  have hby : N0 * componentBytes (newarray.typeOf .int) ≤ 536870912 := Nat.le_trans (Nat.mul_le_mul hsm.1 hc8) (by omega)
  refine va_newaK (atype := .int) hC.1 hC.2.1 (hC.2.2.2.2.1 _ ac_int) rfl hd rfl (fun z => by have := (i3_lt hxr i3_0).mp z; omega) hcl hby (by omega) (by omega) rfl fun H1 cA e1 z1 o1 hAr hNm => ?_
  have hcA : cA = gp_A g 100 := Option.some.inj (hNm.symm.trans (hK.2 0 _ rfl).2)
  subst hcA
  have hcell : va_at (gp_D g) cl_all (H.size, ce_of (gp_A g) (am_new am b H.size) (ms_N G b) b) H1 := by
    rw [ce_100 hs0]
    show H1[H.size]? = some (vp_cell _ _)
    rw [e1, vp_cell_i]
    congr 2
    funext j
    rw [ms_N_I]
    rfl
  obtain ⟨hR1, hxx⟩ := mr_new hR hb9 hA z1 o1 hcell
  have h9 := kk g p e R s m args below meth c H1 locs (cells + 1) (slots + N0) (am_new am b H.size) am0 ls mc ms QQ hC hR1 (ae_tr hx hxx) (hL.ext hxx) (ok_c ⟨_, am_new_s _ _ _⟩ (fun v hv => av_ok_x hxx (ok_t hs v hv))) hl (by omega) (by omega) h3 h4 hQ
  rw [List.map_cons, av_t_r (am_new_s am b H.size), av_ts_x hxx (ok_t hs)] at h9
  exact h9
theorem an_101 {X : gx_T} {M : mt_T} {d pc : Nat} {L : List (Nat × Option av_T)} {st : List av_T} {G : mm_T} {k n : Nat} {Q : Option av_T → mm_T → Prop} {x : Int} {N0 : Nat} (b : Nat) (hd : decode M.2.1 pc = .ok (.newarray .long, 2)) (hs0 : sh_t b = (101, N0)) (hj : x = (N0 : Int)) (hA : mm_A G b = false)
    (kk : aw_W X M d (pc + 2) L (av_r (some b) :: st) (ms_N G b) k n Q) : aw_W X M d pc L (av_i x :: st) G (k + 1) (n + N0) Q := by
  intro g p e R s m args below meth c H locs cells slots am am0 ls mc ms QQ hC hR hx hL hs hl h1 h2 h3 h4 hQ
  have hsm := sh_small hs0
  have hb9 : b < 900 := hsm.2 (by omega)
  have hxr : i3_in x := ⟨by omega, by omega⟩
  have hcl : (Int32.ofInt x).toNatClampNeg = N0 := by rw [i3_clamp hxr]; omega
  have hK := hC.2.2.2.2.2.2.2.2.2.2.1
  have hc8 : componentBytes (newarray.typeOf .long) ≤ 8 := by decide
  have hby : N0 * componentBytes (newarray.typeOf .long) ≤ 536870912 := Nat.le_trans (Nat.mul_le_mul hsm.1 hc8) (by omega)
  refine va_newaK (atype := .long) hC.1 hC.2.1 (hC.2.2.2.2.1 _ ac_long) rfl hd rfl (fun z => by have := (i3_lt hxr i3_0).mp z; omega) hcl hby (by omega) (by omega) rfl fun H1 cA e1 z1 o1 hAr hNm => ?_
  have hcA : cA = gp_A g 101 := Option.some.inj (hNm.symm.trans (hK.2 1 _ rfl).2)
  subst hcA
  have hcell : va_at (gp_D g) cl_all (H.size, ce_of (gp_A g) (am_new am b H.size) (ms_N G b) b) H1 := by
    rw [ce_101 hs0]
    show H1[H.size]? = some (vp_cell _ _)
    rw [e1, vp_cell_l]
    congr 2
    funext j
    rw [ms_N_J]
    rfl
  obtain ⟨hR1, hxx⟩ := mr_new hR hb9 hA z1 o1 hcell
  have h9 := kk g p e R s m args below meth c H1 locs (cells + 1) (slots + N0) (am_new am b H.size) am0 ls mc ms QQ hC hR1 (ae_tr hx hxx) (hL.ext hxx) (ok_c ⟨_, am_new_s _ _ _⟩ (fun v hv => av_ok_x hxx (ok_t hs v hv))) hl (by omega) (by omega) h3 h4 hQ
  rw [List.map_cons, av_t_r (am_new_s am b H.size), av_ts_x hxx (ok_t hs)] at h9
  exact h9
theorem an_102 {X : gx_T} {M : mt_T} {d pc : Nat} {L : List (Nat × Option av_T)} {st : List av_T} {G : mm_T} {k n : Nat} {Q : Option av_T → mm_T → Prop} {x : Int} {N0 : Nat} (b : Nat) (hd : decode M.2.1 pc = .ok (.newarray .boolean, 2)) (hs0 : sh_t b = (102, N0)) (hj : x = (N0 : Int)) (hA : mm_A G b = false)
    (kk : aw_W X M d (pc + 2) L (av_r (some b) :: st) (ms_N G b) k n Q) : aw_W X M d pc L (av_i x :: st) G (k + 1) (n + N0) Q := by
  intro g p e R s m args below meth c H locs cells slots am am0 ls mc ms QQ hC hR hx hL hs hl h1 h2 h3 h4 hQ
  have hsm := sh_small hs0
  have hb9 : b < 900 := hsm.2 (by omega)
  have hxr : i3_in x := ⟨by omega, by omega⟩
  have hcl : (Int32.ofInt x).toNatClampNeg = N0 := by rw [i3_clamp hxr]; omega
  have hK := hC.2.2.2.2.2.2.2.2.2.2.1
  have hc8 : componentBytes (newarray.typeOf .boolean) ≤ 8 := by decide
  have hby : N0 * componentBytes (newarray.typeOf .boolean) ≤ 536870912 := Nat.le_trans (Nat.mul_le_mul hsm.1 hc8) (by omega)
  refine va_newaK (atype := .boolean) hC.1 hC.2.1 (hC.2.2.2.2.1 _ ac_boolean) rfl hd rfl (fun z => by have := (i3_lt hxr i3_0).mp z; omega) hcl hby (by omega) (by omega) rfl fun H1 cA e1 z1 o1 hAr hNm => ?_
  have hcA : cA = gp_A g 102 := Option.some.inj (hNm.symm.trans (hK.2 2 _ rfl).2)
  subst hcA
  have hcell : va_at (gp_D g) cl_all (H.size, ce_of (gp_A g) (am_new am b H.size) (ms_N G b) b) H1 := by
    rw [ce_102 hs0]
    show H1[H.size]? = some (vp_cell _ _)
    rw [e1, vp_cell_i]
    congr 2
    funext j
    rw [ms_N_I]
    rfl
  obtain ⟨hR1, hxx⟩ := mr_new hR hb9 hA z1 o1 hcell
  have h9 := kk g p e R s m args below meth c H1 locs (cells + 1) (slots + N0) (am_new am b H.size) am0 ls mc ms QQ hC hR1 (ae_tr hx hxx) (hL.ext hxx) (ok_c ⟨_, am_new_s _ _ _⟩ (fun v hv => av_ok_x hxx (ok_t hs v hv))) hl (by omega) (by omega) h3 h4 hQ
  rw [List.map_cons, av_t_r (am_new_s am b H.size), av_ts_x hxx (ok_t hs)] at h9
  exact h9
theorem an_103 {X : gx_T} {M : mt_T} {d pc : Nat} {L : List (Nat × Option av_T)} {st : List av_T} {G : mm_T} {k n : Nat} {Q : Option av_T → mm_T → Prop} {x : Int} {N0 idx : Nat} (b : Nat) (hkl : Cond.classLink M.1.cls idx "CheeseCellar$Milk" ∈ gw_all) (hd : decode M.2.1 pc = .ok (.anewarray idx, 3)) (hs0 : sh_t b = (103, N0)) (hj : x = (N0 : Int)) (hA : mm_A G b = false)
    (kk : aw_W X M d (pc + 3) L (av_r (some b) :: st) (ms_N G b) k n Q) : aw_W X M d pc L (av_i x :: st) G (k + 1) (n + N0) Q := by
  intro g p e R s m args below meth c H locs cells slots am am0 ls mc ms QQ hC hR hx hL hs hl h1 h2 h3 h4 hQ
  have hsm := sh_small hs0
  have hb9 : b < 900 := hsm.2 (by omega)
  have hxr : i3_in x := ⟨by omega, by omega⟩
  have hcl : (Int32.ofInt x).toNatClampNeg = N0 := by rw [i3_clamp hxr]; omega
  have hK := hC.2.2.2.2.2.2.2.2.2.2.1
  refine W.anew hC.1 hC.2.1 hC.2.2.2.1 (hC.2.2.2.2.1 _ hkl) (va_AO.use hC.2.2.2.2.2.2.2.2.2.2.2.2.1) rfl hd rfl (fun z => by have := (i3_lt hxr i3_0).mp z; omega) (by omega) (by omega) (by omega) fun cA kA comp f1 f2 f3 f4 => ?_
  obtain ⟨kA', comp', g1, g2, g3, g4⟩ := (hK.2 3 _ rfl).2
  have hcA : cA = gp_A g 103 := Option.some.inj (f1.symm.trans g4)
  subst hcA
  rw [hcl]
  generalize hH1 : H.push ({ cls := gp_A g 103, slots := Array.replicate N0 .null, vm := .none } : Cell) = H1
  have z1 : H1.size = H.size + 1 := by rw [← hH1, Array.size_push]
  have e1 : H1[H.size]? = some (arrV (gp_A g 103) N0 (fun _ => .null)) := by rw [← hH1, Array.getElem?_push_size, ← arrV_new]
  have o1 : ∀ q : Nat, q < H.size → H1[q]? = H[q]? := fun q hq => by rw [← hH1, Array.getElem?_push, if_neg (Nat.ne_of_lt hq)]
  have hcell : va_at (gp_D g) cl_all (H.size, ce_of (gp_A g) (am_new am b H.size) (ms_N G b) b) H1 := by
    rw [ce_103 hs0]
    show H1[H.size]? = some (vp_cell _ _)
    rw [e1, vp_cell_q]
    congr 2
    funext j
    rw [ms_N_R]
    rfl
  obtain ⟨hR1, hxx⟩ := mr_new hR hb9 hA z1 o1 hcell
  have h9 := kk g p e R s m args below meth c H1 locs (cells + 1) (slots + N0) (am_new am b H.size) am0 ls mc ms QQ hC hR1 (ae_tr hx hxx) (hL.ext hxx) (ok_c ⟨_, am_new_s _ _ _⟩ (fun v hv => av_ok_x hxx (ok_t hs v hv))) hl (by omega) (by omega) h3 h4 hQ
  rw [List.map_cons, av_t_r (am_new_s am b H.size), av_ts_x hxx (ok_t hs)] at h9
  exact h9
theorem an_104 {X : gx_T} {M : mt_T} {d pc : Nat} {L : List (Nat × Option av_T)} {st : List av_T} {G : mm_T} {k n : Nat} {Q : Option av_T → mm_T → Prop} {x : Int} {N0 idx : Nat} (b : Nat) (hkl : Cond.classLink M.1.cls idx "CheeseCellar$Wheel" ∈ gw_all) (hd : decode M.2.1 pc = .ok (.anewarray idx, 3)) (hs0 : sh_t b = (104, N0)) (hj : x = (N0 : Int)) (hA : mm_A G b = false)
    (kk : aw_W X M d (pc + 3) L (av_r (some b) :: st) (ms_N G b) k n Q) : aw_W X M d pc L (av_i x :: st) G (k + 1) (n + N0) Q := by
  intro g p e R s m args below meth c H locs cells slots am am0 ls mc ms QQ hC hR hx hL hs hl h1 h2 h3 h4 hQ
  have hsm := sh_small hs0
  have hb9 : b < 900 := hsm.2 (by omega)
  have hxr : i3_in x := ⟨by omega, by omega⟩
  have hcl : (Int32.ofInt x).toNatClampNeg = N0 := by rw [i3_clamp hxr]; omega
  have hK := hC.2.2.2.2.2.2.2.2.2.2.1
  refine W.anew hC.1 hC.2.1 hC.2.2.2.1 (hC.2.2.2.2.1 _ hkl) (va_AO.use hC.2.2.2.2.2.2.2.2.2.2.2.2.2.1) rfl hd rfl (fun z => by have := (i3_lt hxr i3_0).mp z; omega) (by omega) (by omega) (by omega) fun cA kA comp f1 f2 f3 f4 => ?_
  obtain ⟨kA', comp', g1, g2, g3, g4⟩ := (hK.2 4 _ rfl).2
  have hcA : cA = gp_A g 104 := Option.some.inj (f1.symm.trans g4)
  subst hcA
  rw [hcl]
  generalize hH1 : H.push ({ cls := gp_A g 104, slots := Array.replicate N0 .null, vm := .none } : Cell) = H1
  have z1 : H1.size = H.size + 1 := by rw [← hH1, Array.size_push]
  have e1 : H1[H.size]? = some (arrV (gp_A g 104) N0 (fun _ => .null)) := by rw [← hH1, Array.getElem?_push_size, ← arrV_new]
  have o1 : ∀ q : Nat, q < H.size → H1[q]? = H[q]? := fun q hq => by rw [← hH1, Array.getElem?_push, if_neg (Nat.ne_of_lt hq)]
  have hcell : va_at (gp_D g) cl_all (H.size, ce_of (gp_A g) (am_new am b H.size) (ms_N G b) b) H1 := by
    rw [ce_104 hs0]
    show H1[H.size]? = some (vp_cell _ _)
    rw [e1, vp_cell_q]
    congr 2
    funext j
    rw [ms_N_R]
    rfl
  obtain ⟨hR1, hxx⟩ := mr_new hR hb9 hA z1 o1 hcell
  have h9 := kk g p e R s m args below meth c H1 locs (cells + 1) (slots + N0) (am_new am b H.size) am0 ls mc ms QQ hC hR1 (ae_tr hx hxx) (hL.ext hxx) (ok_c ⟨_, am_new_s _ _ _⟩ (fun v hv => av_ok_x hxx (ok_t hs v hv))) hl (by omega) (by omega) h3 h4 hQ
  rw [List.map_cons, av_t_r (am_new_s am b H.size), av_ts_x hxx (ok_t hs)] at h9
  exact h9
/-- a contract out of a walk -/
theorem aw_enter {X : gx_T} {d : Nat} {M : mt_T} {as : List av_T} {G : mm_T} {k n : Nat} {Q : Option av_T → mm_T → Prop} (hy : plainFor M.1 = true) (hn : (as.map av_c).sum ≤ M.2.2.1) (kk : aw_W X M d 0 (ll_a 0 as) [] G k n Q) : aw_M X d M as G k n Q := by
  intro g am
  refine va_MetF (cc := M.2.1) (maxL := M.2.2.1) (ret := M.2.2.2) hy rfl ?_
  intro p e s m args below meth c s₁ B hml hv
  obtain ⟨rfl, hK, hR, hok⟩ := hv
  have hts := atoms_spec (ws := Cond.code M.1 M.2.1 M.2.2.1 M.2.2.2 :: gw_all) B.pre
  have hl := lv_entry (as.map (av_t am)) (n := M.2.2.1) (by rw [lg_len]; exact hn)
  rw [lg_entry_eq]
  have hlocks := B.notSynchronized
  refine kk g p e _ s m _ below meth c s.heap [] 0 0 am am _ k n _ ⟨B.exec, B.bytes, hml, findClass_of_methodNamed B.named, fun w h => hts w (List.mem_cons_of_mem _ h), B.returns, hlocks, (name_of_methodNamed B.named B.method).1, Nat.le_refl _, Nat.le_refl _, hK⟩ hR (ae_rf am) ⟨hl.1, hl.2.1, fun i v hk => ?_⟩ (fun v h => by cases h) (fun q h => by cases h) (by omega) (by omega) (Nat.le_refl _) (Nat.le_refl _) ?_
  · obtain ⟨h1, h2⟩ := ll_a_in am as 0 i v hk
    exact ⟨hl.2.2 _ h1, hok v h2⟩
  · intro pc ls H locs am2 G2 r hD hQ hR2 hx2 hok2 hl2
    have hq : ∀ t : State, t.heap = H → s.WarmedH t.vm → aq_Q g am Q (as.map (av_t am)).toArray s (.returned (r.map (av_t am2))) t := fun t ht _ => ⟨r, G2, am2, rfl, hQ, hx2, by rw [ht]; exact hR2, hok2⟩
    cases r with
    | none => exact W.vret B.exec B.bytes (B.returns.trans hD.2) hq hl2 hD.1
    | some v =>
      rcases v with x | x | r
      · rcases hD.2 with h | ⟨h, hz⟩
        · exact W.iret (v := Int32.ofInt x) B.exec B.bytes (B.returns.trans h) hq hl2 hD.1
        · exact W.zret (v := Int32.ofInt x) B.exec B.bytes (B.returns.trans h) (by rcases hz with rfl | rfl <;> rfl) hq hl2 hD.1
      · exact W.lret (v := Int64.ofInt x) B.exec B.bytes (B.returns.trans hD.2) hq hl2 hD.1
      · obtain ⟨h1, nm, h2⟩ := hD
        have hvr : av_t am2 (.inr (.inr r)) = .null ∨ ∃ a, av_t am2 (.inr (.inr r)) = .ref a := by
          show va_rf (r.bind am2) = .null ∨ ∃ a, va_rf (r.bind am2) = .ref a
          cases r.bind am2 with
          | none => exact Or.inl rfl
          | some a => exact Or.inr ⟨a, rfl⟩
        exact W.aret B.exec B.bytes (B.returns.trans h2) (Or.inl ⟨nm, rfl⟩) hvr hq hl2 h1
