/-! ===== the abstract machine: ints are integers (modulo 2^32, 2^64), cells have fixed numbers ===== -/
abbrev av_T : Type := Int ⊕ Int ⊕ Option Nat
def av_i (x : Int) : av_T := .inl x
def av_l (x : Int) : av_T := .inr (.inl x)
def av_r (r : Option Nat) : av_T := .inr (.inr r)
abbrev am_T : Type := Nat → Option Nat
def av_t (am : am_T) : av_T → Value
  | .inl x => .int (Int32.ofInt x)
  | .inr (.inl x) => .long (Int64.ofInt x)
  | .inr (.inr r) => va_rf (r.bind am)
def av_ok (am : am_T) : av_T → Prop
  | .inr (.inr (some a)) => ∃ q, am a = some q
  | _ => True
/-- words on the operand stack -/
def av_c : av_T → Nat
  | .inr (.inl _) => 2
  | _ => 1
theorem av_t_i (am : am_T) (x : Int) : av_t am (av_i x) = .int (Int32.ofInt x) := rfl
theorem av_t_l (am : am_T) (x : Int) : av_t am (av_l x) = .long (Int64.ofInt x) := rfl
theorem av_t_n (am : am_T) : av_t am (av_r none) = .null := rfl
theorem av_t_r {am : am_T} {a q : Nat} (h : am a = some q) : av_t am (av_r (some a)) = .ref q := by
  show va_rf ((some a).bind am) = _
  rw [Option.bind_some, h]; rfl
theorem av_cat (am : am_T) (v : av_T) : (av_t am v).category = av_c v := by
  rcases v with x | x | r
  · rfl
  · rfl
  · show (va_rf (r.bind am)).category = 1
    cases r.bind am <;> rfl
def ae_x (am am' : am_T) : Prop := ∀ a q, am a = some q → am' a = some q
theorem ae_rf (am : am_T) : ae_x am am := fun _ _ h => h
theorem ae_tr {a b c : am_T} (h : ae_x a b) (h' : ae_x b c) : ae_x a c := fun x q hx => h' x q (h x q hx)
theorem av_ok_x {am am' : am_T} (h : ae_x am am') {v : av_T} (hv : av_ok am v) : av_ok am' v := by
  rcases v with x | x | r
  · trivial
  · trivial
  · cases r with
    | none => trivial
    | some a => obtain ⟨q, hq⟩ := hv; exact ⟨q, h a q hq⟩
theorem av_t_x {am am' : am_T} (h : ae_x am am') {v : av_T} (hv : av_ok am v) : av_t am' v = av_t am v := by
  rcases v with x | x | r
  · rfl
  · rfl
  · cases r with
    | none => rfl
    | some a => obtain ⟨q, hq⟩ := hv; exact (av_t_r (h a q hq)).trans (av_t_r hq).symm
theorem av_ts_x {am am' : am_T} (h : ae_x am am') {st : List av_T} (hv : ∀ v ∈ st, av_ok am v) : st.map (av_t am') = st.map (av_t am) := by
  apply List.map_congr_left
  intro v hm
  exact av_t_x h (hv v hm)
/-- the memory: which cells are made; ints (booleans too), longs, references -/
abbrev mm_T : Type := (Nat → Bool) × (Nat → Nat → Int) × (Nat → Nat → Int) × (Nat → Nat → Option Nat)
def mm_A (G : mm_T) : Nat → Bool := G.1
def mm_I (G : mm_T) : Nat → Nat → Int := G.2.1
def mm_J (G : mm_T) : Nat → Nat → Int := G.2.2.1
def mm_R (G : mm_T) : Nat → Nat → Option Nat := G.2.2.2
def up_2 {α : Type} (f : Nat → Nat → α) (a k : Nat) (v : α) : Nat → Nat → α := fun b j => if b = a ∧ j = k then v else f b j
def ms_I (G : mm_T) (a k : Nat) (v : Int) : mm_T := (G.1, up_2 G.2.1 a k v, G.2.2.1, G.2.2.2)
def ms_J (G : mm_T) (a k : Nat) (v : Int) : mm_T := (G.1, G.2.1, up_2 G.2.2.1 a k v, G.2.2.2)
def ms_R (G : mm_T) (a k : Nat) (v : Option Nat) : mm_T := (G.1, G.2.1, G.2.2.1, up_2 G.2.2.2 a k v)
/-- a new cell: nothing in it -/
def ms_N (G : mm_T) (a : Nat) : mm_T := (fun b => if b = a then true else G.1 b, fun b j => if b = a then 0 else G.2.1 b j, fun b j => if b = a then 0 else G.2.2.1 b j, fun b j => if b = a then none else G.2.2.2 b j)
theorem up_2_s {α : Type} (f : Nat → Nat → α) (a k : Nat) (v : α) : up_2 f a k v a k = v := by simp [up_2]
theorem up_2_n {α : Type} (f : Nat → Nat → α) {a k b j : Nat} (v : α) (h : ¬ (b = a ∧ j = k)) : up_2 f a k v b j = f b j := by simp only [up_2, if_neg h]
/-- a cell's kind (number of its class; 100 int[], 101 long[], 102 boolean[], 103 Milk[], 104 Wheel[]) and its fields or places -/
def sh_tab : List (Nat × Nat) := [(11, 16), (6, 3), (100, 24), (100, 4), (100, 24), (103, 30), (104, 40), (0, 4), (100, 3), (100, 12), (100, 12), (100, 12), (7, 5), (100, 200), (100, 200), (100, 200), (100, 200), (1, 7), (100, 100), (100, 100), (100, 100), (100, 100), (100, 100), (100, 5), (4, 12), (100, 10), (100, 10), (100, 10), (101, 240), (100, 24), (101, 24), (100, 24), (100, 40), (8, 2), (100, 500), (5, 8), (9, 4), (100, 501), (100, 501), (100, 501), (100, 3), (100, 3), (3, 8), (100, 500), (100, 8), (100, 8), (100, 18), (100, 80), (3, 8), (100, 500), (100, 8), (100, 8), (100, 18), (100, 80), (999, 0), (999, 0), (999, 0), (999, 0), (999, 0), (999, 0), (12, 69), (100, 24), (100, 4), (100, 30), (100, 30), (100, 30), (100, 40), (100, 40), (100, 40), (100, 40), (100, 40), (100, 40), (100, 40), (100, 40), (102, 1200), (100, 200), (100, 200), (100, 200), (100, 200), (100, 500), (100, 500), (100, 10), (100, 8), (100, 500), (100, 500), (100, 10), (100, 8), (100, 500), (100, 400), (100, 300), (100, 10), (100, 3), (100, 12), (100, 12), (100, 12), (100, 10), (100, 10), (100, 10), (100, 25600), (101, 25600), (101, 240), (100, 100), (100, 100), (100, 100), (100, 100), (100, 100), (100, 5)]
def sh_t (a : Nat) : Nat × Nat := if a < 200 then sh_tab.getD a (999, 0) else if a < 230 then (2, 3) else if a < 300 then (999, 0) else if a < 340 then (10, 10) else (999, 0)
theorem sh_milk {k : Nat} (h : k < 30) : sh_t (200 + k) = (2, 3) := by
  unfold sh_t; rw [if_neg (by omega), if_pos (by omega)]
theorem sh_wheel {k : Nat} (h : k < 40) : sh_t (300 + k) = (10, 10) := by
  unfold sh_t; rw [if_neg (by omega), if_neg (by omega), if_neg (by omega), if_pos (by omega)]
def ce_v (am : am_T) (G : mm_T) (a : Nat) (d : String) (k : Nat) : Value :=
  if d = "I" ∨ d = "Z" then .int (Int32.ofInt (mm_I G a k)) else if d = "J" then .long (Int64.ofInt (mm_J G a k)) else va_rf ((mm_R G a k).bind am)
def ce_o (am : am_T) (G : mm_T) (a t n : Nat) : va_E := match cl_all[t]? with
  | some r => .inr (t, (List.range n).map (fun k => ce_v am G a (r.2.1 k).2.2.1 k))
  | none => .inr (t, [])
def ce_q (dA : Nat → ClassId) (am : am_T) (G : mm_T) (a t n : Nat) : va_E :=
  if t = 100 ∨ t = 102 then .inl (dA t, n, .inl (fun k => Int32.ofInt (mm_I G a k)))
  else if t = 101 then .inl (dA t, n, .inr (.inl (fun k => Int64.ofInt (mm_J G a k))))
  else if t = 103 ∨ t = 104 then .inl (dA t, n, .inr (.inr (.inr (.inr (fun k => (mm_R G a k).bind am)))))
  else ce_o am G a t n
def ce_of (dA : Nat → ClassId) (am : am_T) (G : mm_T) (a : Nat) : va_E := ce_q dA am G a (sh_t a).1 (sh_t a).2
/-- what is given from outside: the launch, classes, the heap at the law's start, the script's cell, the String's -/
abbrev gp_T : Type := Launch × va_G × (Nat → ClassId) × Heap × Nat × Nat × Nat
abbrev gp_l (g : gp_T) : Launch := g.1
abbrev gp_D (g : gp_T) : va_G := g.2.1
abbrev gp_A (g : gp_T) : Nat → ClassId := g.2.2.1
abbrev gp_H (g : gp_T) : Heap := g.2.2.2.1
abbrev gp_b (g : gp_T) : Nat := g.2.2.2.2.1
abbrev gp_k (g : gp_T) : Nat := g.2.2.2.2.2.1
abbrev gp_v (g : gp_T) : Nat := g.2.2.2.2.2.2
/-- the script: how many, and its ints -/
abbrev gx_T : Type := Nat × (Nat → Int32)
def nw_all : List Cond := [Cond.methodLinkNest "CheeseCellar" 9 ⟨"CheeseCellar$Shelves", "<init>", "()V"⟩ "CheeseCellar", Cond.methodLinkNest "CheeseCellar" 30 ⟨"CheeseCellar$Bands", "<init>", "()V"⟩ "CheeseCellar", Cond.methodLinkNest "CheeseCellar" 37 ⟨"CheeseCellar$Stays", "<init>", "()V"⟩ "CheeseCellar", Cond.methodLinkNest "CheeseCellar" 44 ⟨"CheeseCellar$Marks", "<init>", "()V"⟩ "CheeseCellar", Cond.methodLinkNest "CheeseCellar" 51 ⟨"CheeseCellar$Planner", "<init>", "()V"⟩ "CheeseCellar", Cond.methodLinkNest "CheeseCellar" 58 ⟨"CheeseCellar$Tape", "<init>", "()V"⟩ "CheeseCellar", Cond.methodLinkNest "CheeseCellar" 65 ⟨"CheeseCellar$Reader", "<init>", "()V"⟩ "CheeseCellar", Cond.methodLinkNest "CheeseCellar$Reader" 11 ⟨"CheeseCellar$Tokens", "<init>", "()V"⟩ "CheeseCellar", Cond.methodLinkNest "CheeseCellar" 79 ⟨"CheeseCellar$Orders", "<init>", "()V"⟩ "CheeseCellar", Cond.methodLinkNest "CheeseCellar$Shelves" 21 ⟨"CheeseCellar", "isUpTo", "(II)Z"⟩ "CheeseCellar", Cond.methodLinkNest "CheeseCellar$Bands" 24 ⟨"CheeseCellar", "isUpTo", "(II)Z"⟩ "CheeseCellar", Cond.methodLinkNest "CheeseCellar$Planner" 59 ⟨"CheeseCellar", "isUpTo", "(II)Z"⟩ "CheeseCellar", Cond.methodLinkNest "CheeseCellar$Marks" 56 ⟨"CheeseCellar", "isUpTo", "(II)Z"⟩ "CheeseCellar"]
def tx_words : String := "when    do      turn    wash    brush   or      and     not     kind    age     ripe    mould   weight  air     damp    side    shelf   day     "
def tx_bytes : List Int32 := [119, 104, 101, 110, 32, 32, 32, 32, 100, 111, 32, 32, 32, 32, 32, 32, 116, 117, 114, 110, 32, 32, 32, 32, 119, 97, 115, 104, 32, 32, 32, 32, 98, 114, 117, 115, 104, 32, 32, 32, 111, 114, 32, 32, 32, 32, 32, 32, 97, 110, 100, 32, 32, 32, 32, 32, 110, 111, 116, 32, 32, 32, 32, 32, 107, 105, 110, 100, 32, 32, 32, 32, 97, 103, 101, 32, 32, 32, 32, 32, 114, 105, 112, 101, 32, 32, 32, 32, 109, 111, 117, 108, 100, 32, 32, 32, 119, 101, 105, 103, 104, 116, 32, 32, 97, 105, 114, 32, 32, 32, 32, 32, 100, 97, 109, 112, 32, 32, 32, 32, 115, 105, 100, 101, 32, 32, 32, 32, 115, 104, 101, 108, 102, 32, 32, 32, 100, 97, 121, 32, 32, 32, 32, 32]
def tys_all (dA : Nat → ClassId) : List (ClassId × FieldType) := [(dA 100, .int), (dA 101, .long), (dA 102, .boolean), (dA 103, .object "CheeseCellar$Milk"), (dA 104, .object "CheeseCellar$Wheel")]
/-- what a state's tables say -/
def mk_K (X : gx_T) (g : gp_T) (U : State) : Prop :=
  va_K (gp_D g) cl_all (tys_all (gp_A g)) U ∧ (∀ w ∈ nw_all, va_Nw w U) ∧ va_AO "CheeseCellar$Milk" U ∧ va_AO "CheeseCellar$Wheel" U ∧
  va_X (gp_b g) X.1 X.2 U (gp_H g) ∧ vk_R "CheeseCellar$Tokens" 69 tx_words (gp_k g) U ∧
  vk_S 1 [144] [tx_bytes] (fun _ => gp_k g) (fun _ => gp_v g) (fun q => (gp_H g).size ≤ q) U (gp_H g) ∧
  va_Z "java/lang/String" "COMPACT_STRINGS" "Z" (.int 1) (fun q => (gp_H g).size ≤ q) U (gp_H g) ∧
  ∃ v : Value, va_Z "jdk/internal/util/Preconditions" "SIOOBE_FORMATTER" "Ljava/util/function/BiFunction;" v (fun q => (gp_H g).size ≤ q) U (gp_H g) ∧ (v = .null ∨ ∃ q, v = .ref q)
theorem nw_ok : ∀ w ∈ nw_all, w.onTables = true ∧ ∃ a i x h, w = Cond.methodLinkNest a i x h := by
  intro w hw
  simp only [nw_all, List.mem_cons, List.not_mem_nil, or_false] at hw
  rcases hw with rfl | rfl | rfl | rfl | rfl | rfl | rfl | rfl | rfl | rfl | rfl | rfl | rfl <;> exact ⟨rfl, _, _, _, _, rfl⟩
theorem mk_K.warm {X : gx_T} {g : gp_T} {s U : State} (hW : s.WarmedH U.vm) (h : mk_K X g s) : mk_K X g U := by
  obtain ⟨h1, h2, h3, h4, h5, h6, h7, h8, v, h9, hv⟩ := h
  refine ⟨va_K.moved hW.alike h1, fun w hw => ?_, h3.moved hW.alike, h4.moved hW.alike, h5.moved hW.alike, h6.warm hW, h7.moved hW.alike, h8.moved hW.alike, v, h9.moved hW.alike, hv⟩
  obtain ⟨-, a, i, x, hh, rfl⟩ := nw_ok w hw
  exact (h2 _ hw).warmM hW
theorem mk_K.same {X : gx_T} {g : gp_T} {s U : State} (hvm : U.vm = s.vm) (h : mk_K X g s) : mk_K X g U := by
  obtain ⟨h1, h2, h3, h4, h5, h6, h7, h8, v, h9, hv⟩ := h
  have ha : s.vm.Alike U.vm := by rw [hvm]; exact Vm.Alike.refl _
  exact ⟨va_K.moved ha h1, fun w hw => (h2 w hw).same (nw_ok w hw).1 hvm.symm, h3.moved ha, h4.moved ha, h5.moved ha, h6.same hvm, h7.moved ha, h8.moved ha, v, h9.moved ha, hv⟩
/-- an int, a long within its range -/
abbrev i3_in (x : Int) : Prop := -2147483648 ≤ x ∧ x ≤ 2147483647
abbrev j6_in (x : Int) : Prop := -9223372036854775808 ≤ x ∧ x ≤ 9223372036854775807
/-- the heap holds the memory -/
def mr_R (g : gp_T) (am : am_T) (G : mm_T) (H : Heap) : Prop :=
  (∀ a q, a < 900 → am a = some q → va_at (gp_D g) cl_all (q, ce_of (gp_A g) am G a) H ∧ (gp_H g).size ≤ q) ∧
  (∀ a b q, a < 900 → b < 900 → am a = some q → am b = some q → a = b) ∧
  (∀ a, a < 900 → mm_A G a = false → am a = none) ∧
  (∀ a k b, mm_R G a k = some b → b < 900 ∧ ∃ q, am b = some q) ∧
  (∀ a k, i3_in (mm_I G a k)) ∧ (∀ a k, j6_in (mm_J G a k)) ∧
  (am 998 = some (gp_b g) ∧ am 997 = some (gp_k g)) ∧
  (gp_H g).size ≤ H.size ∧ ∀ q, q < (gp_H g).size → H[q]? = (gp_H g)[q]?
theorem nb_f {i j : Nat} (h : ¬ i = j) : Nat.beq i j = false := by
  cases hb : Nat.beq i j with
  | false => rfl
  | true => exact absurd (Nat.eq_of_beq_eq_true hb) h
/-- the locals: the first entry counts; 'none' says nothing -/
def ll_k : List (Nat × Option av_T) → Nat → Option av_T
  | [], _ => none
  | (j, v) :: t, i => cond (Nat.beq j i) v (ll_k t i)
/-- no long ends at this place -/
def ll_1 (L : List (Nat × Option av_T)) : Nat → Bool
  | 0 => true
  | j + 1 => match ll_k L j with
    | some (.inr (.inl _)) => false
    | _ => true
def aw_L (am : am_T) (ls : Array Slot) (nL : Nat) (L : List (Nat × Option av_T)) : Prop :=
  ls.size = nL ∧ lv_wf ls ∧ ∀ i v, ll_k L i = some v → ls[i]? = some (.val (av_t am v)) ∧ av_ok am v
def ll_v (am : am_T) (L : List (Nat × Option av_T)) : List (Nat × Value) := L.filterMap (fun q => (ll_k L q.1).map (fun v => (q.1, av_t am v)))
theorem ll_mem {L : List (Nat × Option av_T)} {i : Nat} {v : av_T} (h : ll_k L i = some v) : ∃ w, (i, w) ∈ L := by
  induction L with
  | nil => cases h
  | cons q t ih =>
    obtain ⟨j, w⟩ := q
    by_cases hj : j = i
    · subst hj; exact ⟨w, List.mem_cons_self⟩
    · have : Nat.beq j i = false := nb_f hj
      simp only [ll_k, this, cond_false] at h
      obtain ⟨w', hw⟩ := ih h
      exact ⟨w', List.mem_cons_of_mem _ hw⟩
theorem ll_vis {am : am_T} {L : List (Nat × Option av_T)} {i : Nat} {v : av_T} (h : ll_k L i = some v) : (i, av_t am v) ∈ ll_v am L := by
  obtain ⟨w, hw⟩ := ll_mem h
  exact List.mem_filterMap.mpr ⟨(i, w), hw, by simp [h]⟩
theorem aw_L.has {am : am_T} {ls : Array Slot} {nL : Nat} {L : List (Nat × Option av_T)} (h : aw_L am ls nL L) : lv_has ls nL (ll_v am L) := by
  refine ⟨h.1, h.2.1, fun q hq => ?_⟩
  obtain ⟨p, -, hp⟩ := List.mem_filterMap.mp hq
  cases hk : ll_k L p.1 with
  | none => rw [hk] at hp; cases hp
  | some v => rw [hk] at hp; cases hp; exact (h.2.2 _ _ hk).1
theorem aw_L.at {am : am_T} {ls : Array Slot} {nL : Nat} {L : List (Nat × Option av_T)} (h : aw_L am ls nL L) {i : Nat} {v : av_T} (hk : ll_k L i = some v) : ls[i]? = some (.val (av_t am v)) := (h.2.2 i v hk).1
theorem aw_L.ext {am am' : am_T} {ls : Array Slot} {nL : Nat} {L : List (Nat × Option av_T)} (h : aw_L am ls nL L) (hx : ae_x am am') : aw_L am' ls nL L :=
  ⟨h.1, h.2.1, fun i v hk => ⟨by rw [av_t_x hx (h.2.2 i v hk).2]; exact (h.2.2 i v hk).1, av_ok_x hx (h.2.2 i v hk).2⟩⟩
/-- storing one word -/
theorem aw_L.put1 {am : am_T} {ls ls' : Array Slot} {nL i : Nat} {L : List (Nat × Option av_T)} {v : av_T} (h : aw_L am ls nL L) (hv : av_ok am v) (h1 : ll_1 L i = true)
    (h' : lv_has ls' nL ((i, av_t am v) :: (ll_v am L).filter (fun q => !(q.1 == i) && !(q.1 + 1 == i && q.2.category == 2)))) : aw_L am ls' nL ((i, some v) :: L) := by
  refine ⟨h'.1, h'.2.1, fun j w hj => ?_⟩
  by_cases hji : i = j
  · subst hji
    have : Nat.beq i i = true := Nat.beq_refl _
    simp only [ll_k, this, cond_true] at hj
    cases hj
    exact ⟨h'.2.2 _ List.mem_cons_self, hv⟩
  · have : Nat.beq i j = false := nb_f hji
    simp only [ll_k, this, cond_false] at hj
    refine ⟨h'.2.2 (j, av_t am w) (List.mem_cons_of_mem _ (List.mem_filter.mpr ⟨ll_vis hj, ?_⟩)), (h.2.2 j w hj).2⟩
    have a1 : (j == i) = false := by simpa using fun z => hji z.symm
    have a2 : (j + 1 == i && (av_t am w).category == 2) = false := by
      by_cases hz : j + 1 = i
      · subst hz
        rw [ll_1, hj] at h1
        rw [av_cat]
        rcases w with x | x | r
        · simp [av_c]
        · simp at h1
        · simp [av_c]
      · simp [hz]
    simp [a1, a2]
/-- storing two words -/
theorem aw_L.put2 {am : am_T} {ls ls' : Array Slot} {nL i : Nat} {L : List (Nat × Option av_T)} {v : av_T} (h : aw_L am ls nL L) (hv : av_ok am v) (h1 : ll_1 L i = true)
    (h' : lv_has ls' nL ((i, av_t am v) :: (ll_v am L).filter (fun q => !(q.1 == i) && (!(q.1 == i + 1) && !(q.1 + 1 == i && q.2.category == 2))))) : aw_L am ls' nL ((i, some v) :: (i + 1, none) :: L) := by
  refine ⟨h'.1, h'.2.1, fun j w hj => ?_⟩
  by_cases hji : i = j
  · subst hji
    have : Nat.beq i i = true := Nat.beq_refl _
    simp only [ll_k, this, cond_true] at hj
    cases hj
    exact ⟨h'.2.2 _ List.mem_cons_self, hv⟩
  · have : Nat.beq i j = false := nb_f hji
    simp only [ll_k, this, cond_false] at hj
    by_cases hj2 : i + 1 = j
    · subst hj2
      have : Nat.beq (i + 1) (i + 1) = true := Nat.beq_refl _
      simp only [this, cond_true] at hj
      cases hj
    · have : Nat.beq (i + 1) j = false := nb_f hj2
      simp only [this, cond_false] at hj
      refine ⟨h'.2.2 (j, av_t am w) (List.mem_cons_of_mem _ (List.mem_filter.mpr ⟨ll_vis hj, ?_⟩)), (h.2.2 j w hj).2⟩
      have a1 : (j == i) = false := by simpa using fun z => hji z.symm
      have a3 : (j == i + 1) = false := by simpa using fun z => hj2 z.symm
      have a2 : (j + 1 == i && (av_t am w).category == 2) = false := by
        by_cases hz : j + 1 = i
        · subst hz
          rw [ll_1, hj] at h1
          rw [av_cat]
          rcases w with x | x | r
          · simp [av_c]
          · simp at h1
          · simp [av_c]
        · simp [hz]
      simp [a1, a2, a3]
/-- the locals with which a method begins -/
def ll_a : Nat → List av_T → List (Nat × Option av_T)
  | _, [] => []
  | i, .inr (.inl x) :: vs => (i, some (av_l x)) :: ll_a (i + 2) vs
  | i, v :: vs => (i, some v) :: ll_a (i + 1) vs
theorem ll_a_in (am : am_T) : ∀ (vs : List av_T) (i j : Nat) (v : av_T), ll_k (ll_a i vs) j = some v → (j, av_t am v) ∈ lv_args i (vs.map (av_t am)) ∧ v ∈ vs := by
  intro vs
  induction vs with
  | nil => intro i j v h; cases h
  | cons w vs ih =>
    intro i j v h
    have hc := av_cat am w
    rcases w with x | x | r
    · have hc2 : ¬ (av_t am (.inl x)).category = 2 := by rw [hc]; simp [av_c]
      simp only [List.map_cons, lv_args, if_neg hc2]
      by_cases hij : i = j
      · subst hij
        have : Nat.beq i i = true := Nat.beq_refl _
        simp only [ll_a, ll_k, this, cond_true] at h
        cases h
        exact ⟨List.mem_cons_self, List.mem_cons_self⟩
      · have : Nat.beq i j = false := nb_f hij
        simp only [ll_a, ll_k, this, cond_false] at h
        obtain ⟨h1, h2⟩ := ih _ _ _ h
        exact ⟨List.mem_cons_of_mem _ h1, List.mem_cons_of_mem _ h2⟩
    · have hc2 : (av_t am (.inr (.inl x))).category = 2 := by rw [hc]; simp [av_c]
      simp only [List.map_cons, lv_args, if_pos hc2]
      by_cases hij : i = j
      · subst hij
        have : Nat.beq i i = true := Nat.beq_refl _
        simp only [ll_a, ll_k, this, cond_true] at h
        cases h
        exact ⟨List.mem_cons_self, List.mem_cons_self⟩
      · have : Nat.beq i j = false := nb_f hij
        simp only [ll_a, ll_k, this, cond_false] at h
        obtain ⟨h1, h2⟩ := ih _ _ _ h
        exact ⟨List.mem_cons_of_mem _ h1, List.mem_cons_of_mem _ h2⟩
    · have hc2 : ¬ (av_t am (.inr (.inr r))).category = 2 := by rw [hc]; simp [av_c]
      simp only [List.map_cons, lv_args, if_neg hc2]
      by_cases hij : i = j
      · subst hij
        have : Nat.beq i i = true := Nat.beq_refl _
        simp only [ll_a, ll_k, this, cond_true] at h
        cases h
        exact ⟨List.mem_cons_self, List.mem_cons_self⟩
      · have : Nat.beq i j = false := nb_f hij
        simp only [ll_a, ll_k, this, cond_false] at h
        obtain ⟨h1, h2⟩ := ih _ _ _ h
        exact ⟨List.mem_cons_of_mem _ h1, List.mem_cons_of_mem _ h2⟩
/-- what holds in a method's body all along -/
def aw_C (X : gx_T) (M : mt_T) (d : Nat) (g : gp_T) (p : Program) (R : Room) (s : State) (m : MethodId) (args : Array Value) (meth : Method) (c : Code) : Prop :=
  p.tables.exec = Jvm.exec ∧ c.code = M.2.1 ∧ c.maxLocals = M.2.2.1 ∧ s.vm.findClass M.1.cls = some m.cls ∧ (∀ w ∈ gw_all, w.before args s = true) ∧
  meth.sig.returnType = M.2.2.2 ∧ meth.locks = false ∧ meth.name = M.1.name ∧ d ≤ R.frames ∧ 40 * d ≤ R.locals ∧ mk_K X g s
/-- the instruction by which an answer leaves -/
def aw_D (M : mt_T) (pc : Nat) : Option av_T → Prop
  | none => decode M.2.1 pc = .ok (.return_, 1) ∧ M.2.2.2 = none
  | some (.inl x) => decode M.2.1 pc = .ok (.ireturn, 1) ∧ (M.2.2.2 = some .int ∨ (M.2.2.2 = some .boolean ∧ (x = 0 ∨ x = 1)))
  | some (.inr (.inl _)) => decode M.2.1 pc = .ok (.lreturn, 1) ∧ M.2.2.2 = some .long
  | some (.inr (.inr _)) => decode M.2.1 pc = .ok (.areturn, 1) ∧ ∃ n, M.2.2.2 = some (.object n)
/-- how a body ends: from a return with an answer that Q takes, the machine comes where it should -/
def aw_R (g : gp_T) (M : mt_T) (p : Program) (e : Env) (R : Room) (s : State) (m : MethodId) (args : Array Value) (below : List Frame) (meth : Method) (c : Code) (am0 : am_T) (mc ms : Nat) (Q : Option av_T → mm_T → Prop) (QQ : State → Prop) : Prop :=
  ∀ (pc : Nat) (ls : Array Slot) (H : Heap) (locs : List Loc) (am : am_T) (G : mm_T) (r : Option av_T), aw_D M pc r → Q r G → mr_R g am G H → ae_x am0 am → (∀ v ∈ r.toList, av_ok am v) → (∀ q ∈ locs, (gp_H g).size ≤ q.base) →
    W p (gp_l g) e R s m args below meth c H locs mc ms QQ (F0 m pc ls (r.toList.map (av_t am)))
/-- from here (place, locals, stack, memory; cells and slots that may be made) the body comes to its end with Q -/
def aw_W (X : gx_T) (M : mt_T) (d pc : Nat) (L : List (Nat × Option av_T)) (st : List av_T) (G : mm_T) (k n : Nat) (Q : Option av_T → mm_T → Prop) : Prop :=
  ∀ (g : gp_T) (p : Program) (e : Env) (R : Room) (s : State) (m : MethodId) (args : Array Value) (below : List Frame) (meth : Method) (c : Code) (H : Heap) (locs : List Loc) (cells slots : Nat) (am am0 : am_T) (ls : Array Slot) (mc ms : Nat) (QQ : State → Prop),
    aw_C X M d g p R s m args meth c → mr_R g am G H → ae_x am0 am → aw_L am ls M.2.2.1 L → (∀ v ∈ st, av_ok am v) → (∀ q ∈ locs, (gp_H g).size ≤ q.base) → cells + k ≤ mc → slots + n ≤ ms → mc ≤ R.cells → ms ≤ R.slots →
    aw_R g M p e R s m args below meth c am0 mc ms Q QQ →
    W p (gp_l g) e R s m args below meth c H locs cells slots QQ (F0 m pc ls (st.map (av_t am)))
/-- a contract's end -/
def aq_Q (g : gp_T) (am : am_T) (Q : Option av_T → mm_T → Prop) : Array Value → State → Outcome → State → Prop := fun _ _ o t => ∃ (r : Option av_T) (G' : mm_T) (am' : am_T), o = .returned (r.map (av_t am')) ∧ Q r G' ∧ ae_x am am' ∧ mr_R g am' G' t.heap ∧ ∀ v ∈ r.toList, av_ok am' v
/-- a contract's start -/
def aq_P (X : gx_T) (g : gp_T) (am : am_T) (G : mm_T) (as : List av_T) : State → Prop := fun U => mk_K X g U ∧ mr_R g am G U.heap ∧ ∀ v ∈ as, av_ok am v
/-- a method's contract -/
def aw_M (X : gx_T) (d : Nat) (M : mt_T) (as : List av_T) (G : mm_T) (k n : Nat) (Q : Option av_T → mm_T → Prop) : Prop :=
  ∀ (g : gp_T) (am : am_T), Met (gp_l g) M.1 (Cond.code M.1 M.2.1 M.2.2.1 M.2.2.2 :: gw_all) { frames := d, cells := k, slots := n, locals := 40 * d }
    (va_Pc (as.map (av_t am)) (aq_P X g am G as))
    (aq_Q g am Q) k n (fun q => (gp_H g).size ≤ q)
