/-! names of this program: class tables, methods, words (printed by wip/gen/names.py from the turned claim) -/
theorem gw_of {w : Cond} (h : w ∈ lw_tbl) (hg : (goodWord w || k2_isCode w) = true) : w ∈ gw_all := List.mem_filter.mpr ⟨h, hg⟩
theorem gw_t {w : Cond} {i : Nat} (h : tables_1[i]? = some w) (hg : (goodWord w || k2_isCode w) = true) : w ∈ gw_all := gw_of (List.mem_append_right _ (List.mem_of_getElem? h)) hg
theorem gw_s {w : Cond} {i : Nat} (h : (k2_sels lw_privs)[i]? = some w) (hg : (goodWord w || k2_isCode w) = true) : w ∈ gw_all := gw_of (List.mem_append_left _ (List.mem_of_getElem? h)) hg
theorem gw_good {w : Cond} (h : w ∈ gw_all) : (w.onTables && w.keeps) = true ∨ ∃ ty, w = .arrayClass ty := by
  have h2 := (List.mem_filter.mp h).2
  by_cases hc : k2_isCode w = true
  · cases w <;> first | (simp [k2_isCode] at hc; done) | exact Or.inl rfl
  · simp [hc] at h2
    exact good_of_word h2
theorem gw_in {c : Cond} (hc : c ∈ gw_all) {c0 : Cond} : GoodIn (c0 :: gw_all) (c :: gw_all) := by
  intro w hw
  have hm : w ∈ gw_all := by
    rcases List.mem_cons.mp hw with rfl | h
    · exact hc
    · exact h
  exact ⟨List.mem_cons_of_mem _ hm, gw_good hm⟩
def ct_0 : u_T := fun k => match k with
  | 0 => ("CheeseCellar$Bands", "counts", "[I", true)
  | 1 => ("CheeseCellar$Bands", "ages", "[I", true)
  | 2 => ("CheeseCellar$Bands", "leasts", "[I", true)
  | _ => ("CheeseCellar$Bands", "mosts", "[I", true)
def cf_0 : Nat → FieldType := fun k => match k with
  | 0 => .array .int
  | 1 => .array .int
  | 2 => .array .int
  | _ => .array .int
theorem cfo_0 : ∀ k, k < 4 → parseFieldDescriptor (ct_0 k).2.2.1 = some (cf_0 k) := by decide +kernel
theorem cn_0 : ∀ a, a < 4 → ∀ b, b < 4 → a ≠ b → (ct_0 a).2.1 ≠ (ct_0 b).2.1 := by decide +kernel
theorem cl_0_0 : Cond.laysFinal "CheeseCellar$Bands" "CheeseCellar$Bands" "counts" "[I" ∈ gw_all := gw_t (i := 61) (by decide +kernel) (by decide +kernel)
theorem cl_0_1 : Cond.laysFinal "CheeseCellar$Bands" "CheeseCellar$Bands" "ages" "[I" ∈ gw_all := gw_t (i := 63) (by decide +kernel) (by decide +kernel)
theorem cl_0_2 : Cond.laysFinal "CheeseCellar$Bands" "CheeseCellar$Bands" "leasts" "[I" ∈ gw_all := gw_t (i := 65) (by decide +kernel) (by decide +kernel)
theorem cl_0_3 : Cond.laysFinal "CheeseCellar$Bands" "CheeseCellar$Bands" "mosts" "[I" ∈ gw_all := gw_t (i := 67) (by decide +kernel) (by decide +kernel)
theorem cw_0 : ∀ w ∈ u_ws "CheeseCellar$Bands" ct_0 4, w ∈ gw_all := by
  intro w hw
  obtain ⟨k, hk, rfl⟩ := List.mem_map.mp hw
  have hk := List.mem_range.mp hk
  match k, hk with
  | 0, _ => exact cl_0_0
  | 1, _ => exact cl_0_1
  | 2, _ => exact cl_0_2
  | 3, _ => exact cl_0_3
  | k + 4, h => exact absurd h (by omega)
def ct_1 : u_T := fun k => match k with
  | 0 => ("CheeseCellar$Marks", "graderOf", "[I", true)
  | 1 => ("CheeseCellar$Marks", "wheelOf", "[I", true)
  | 2 => ("CheeseCellar$Marks", "valueOf", "[I", true)
  | 3 => ("CheeseCellar$Marks", "toldOn", "[I", true)
  | 4 => ("CheeseCellar$Marks", "untoldOn", "[I", true)
  | 5 => ("CheeseCellar$Marks", "lastBy", "[I", true)
  | _ => ("CheeseCellar$Marks", "count", "I", false)
def cf_1 : Nat → FieldType := fun k => match k with
  | 0 => .array .int
  | 1 => .array .int
  | 2 => .array .int
  | 3 => .array .int
  | 4 => .array .int
  | 5 => .array .int
  | _ => .int
theorem cfo_1 : ∀ k, k < 7 → parseFieldDescriptor (ct_1 k).2.2.1 = some (cf_1 k) := by decide +kernel
theorem cn_1 : ∀ a, a < 7 → ∀ b, b < 7 → a ≠ b → (ct_1 a).2.1 ≠ (ct_1 b).2.1 := by decide +kernel
theorem cl_1_0 : Cond.laysFinal "CheeseCellar$Marks" "CheeseCellar$Marks" "graderOf" "[I" ∈ gw_all := gw_t (i := 107) (by decide +kernel) (by decide +kernel)
theorem cl_1_1 : Cond.laysFinal "CheeseCellar$Marks" "CheeseCellar$Marks" "wheelOf" "[I" ∈ gw_all := gw_t (i := 109) (by decide +kernel) (by decide +kernel)
theorem cl_1_2 : Cond.laysFinal "CheeseCellar$Marks" "CheeseCellar$Marks" "valueOf" "[I" ∈ gw_all := gw_t (i := 111) (by decide +kernel) (by decide +kernel)
theorem cl_1_3 : Cond.laysFinal "CheeseCellar$Marks" "CheeseCellar$Marks" "toldOn" "[I" ∈ gw_all := gw_t (i := 113) (by decide +kernel) (by decide +kernel)
theorem cl_1_4 : Cond.laysFinal "CheeseCellar$Marks" "CheeseCellar$Marks" "untoldOn" "[I" ∈ gw_all := gw_t (i := 115) (by decide +kernel) (by decide +kernel)
theorem cl_1_5 : Cond.laysFinal "CheeseCellar$Marks" "CheeseCellar$Marks" "lastBy" "[I" ∈ gw_all := gw_t (i := 117) (by decide +kernel) (by decide +kernel)
theorem cl_1_6 : Cond.lays "CheeseCellar$Marks" "CheeseCellar$Marks" "count" "I" ∈ gw_all := gw_t (i := 119) (by decide +kernel) (by decide +kernel)
theorem cw_1 : ∀ w ∈ u_ws "CheeseCellar$Marks" ct_1 7, w ∈ gw_all := by
  intro w hw
  obtain ⟨k, hk, rfl⟩ := List.mem_map.mp hw
  have hk := List.mem_range.mp hk
  match k, hk with
  | 0, _ => exact cl_1_0
  | 1, _ => exact cl_1_1
  | 2, _ => exact cl_1_2
  | 3, _ => exact cl_1_3
  | 4, _ => exact cl_1_4
  | 5, _ => exact cl_1_5
  | 6, _ => exact cl_1_6
  | k + 7, h => exact absurd h (by omega)
def ct_2 : u_T := fun k => match k with
  | 0 => ("CheeseCellar$Milk", "farm", "I", true)
  | 1 => ("CheeseCellar$Milk", "left", "I", false)
  | _ => ("CheeseCellar$Milk", "wheelsMade", "I", false)
def cf_2 : Nat → FieldType := fun k => match k with
  | 0 => .int
  | 1 => .int
  | _ => .int
theorem cfo_2 : ∀ k, k < 3 → parseFieldDescriptor (ct_2 k).2.2.1 = some (cf_2 k) := by decide +kernel
theorem cn_2 : ∀ a, a < 3 → ∀ b, b < 3 → a ≠ b → (ct_2 a).2.1 ≠ (ct_2 b).2.1 := by decide +kernel
theorem cl_2_0 : Cond.laysFinal "CheeseCellar$Milk" "CheeseCellar$Milk" "farm" "I" ∈ gw_all := gw_t (i := 348) (by decide +kernel) (by decide +kernel)
theorem cl_2_1 : Cond.lays "CheeseCellar$Milk" "CheeseCellar$Milk" "left" "I" ∈ gw_all := gw_t (i := 350) (by decide +kernel) (by decide +kernel)
theorem cl_2_2 : Cond.lays "CheeseCellar$Milk" "CheeseCellar$Milk" "wheelsMade" "I" ∈ gw_all := gw_t (i := 352) (by decide +kernel) (by decide +kernel)
theorem cw_2 : ∀ w ∈ u_ws "CheeseCellar$Milk" ct_2 3, w ∈ gw_all := by
  intro w hw
  obtain ⟨k, hk, rfl⟩ := List.mem_map.mp hw
  have hk := List.mem_range.mp hk
  match k, hk with
  | 0, _ => exact cl_2_0
  | 1, _ => exact cl_2_1
  | 2, _ => exact cl_2_2
  | k + 3, h => exact absurd h (by omega)
def ct_3 : u_T := fun k => match k with
  | 0 => ("CheeseCellar$Orders", "items", "[I", true)
  | 1 => ("CheeseCellar$Orders", "lineEnds", "[I", true)
  | 2 => ("CheeseCellar$Orders", "deeds", "[I", true)
  | 3 => ("CheeseCellar$Orders", "named", "[I", true)
  | 4 => ("CheeseCellar$Orders", "pile", "[I", true)
  | 5 => ("CheeseCellar$Orders", "itemCount", "I", false)
  | 6 => ("CheeseCellar$Orders", "lines", "I", false)
  | _ => ("CheeseCellar$Orders", "height", "I", false)
def cf_3 : Nat → FieldType := fun k => match k with
  | 0 => .array .int
  | 1 => .array .int
  | 2 => .array .int
  | 3 => .array .int
  | 4 => .array .int
  | 5 => .int
  | 6 => .int
  | _ => .int
theorem cfo_3 : ∀ k, k < 8 → parseFieldDescriptor (ct_3 k).2.2.1 = some (cf_3 k) := by decide +kernel
theorem cn_3 : ∀ a, a < 8 → ∀ b, b < 8 → a ≠ b → (ct_3 a).2.1 ≠ (ct_3 b).2.1 := by decide +kernel
theorem cl_3_0 : Cond.laysFinal "CheeseCellar$Orders" "CheeseCellar$Orders" "items" "[I" ∈ gw_all := gw_t (i := 253) (by decide +kernel) (by decide +kernel)
theorem cl_3_1 : Cond.laysFinal "CheeseCellar$Orders" "CheeseCellar$Orders" "lineEnds" "[I" ∈ gw_all := gw_t (i := 255) (by decide +kernel) (by decide +kernel)
theorem cl_3_2 : Cond.laysFinal "CheeseCellar$Orders" "CheeseCellar$Orders" "deeds" "[I" ∈ gw_all := gw_t (i := 257) (by decide +kernel) (by decide +kernel)
theorem cl_3_3 : Cond.laysFinal "CheeseCellar$Orders" "CheeseCellar$Orders" "named" "[I" ∈ gw_all := gw_t (i := 259) (by decide +kernel) (by decide +kernel)
theorem cl_3_4 : Cond.laysFinal "CheeseCellar$Orders" "CheeseCellar$Orders" "pile" "[I" ∈ gw_all := gw_t (i := 261) (by decide +kernel) (by decide +kernel)
theorem cl_3_5 : Cond.lays "CheeseCellar$Orders" "CheeseCellar$Orders" "itemCount" "I" ∈ gw_all := gw_t (i := 263) (by decide +kernel) (by decide +kernel)
theorem cl_3_6 : Cond.lays "CheeseCellar$Orders" "CheeseCellar$Orders" "lines" "I" ∈ gw_all := gw_t (i := 265) (by decide +kernel) (by decide +kernel)
theorem cl_3_7 : Cond.lays "CheeseCellar$Orders" "CheeseCellar$Orders" "height" "I" ∈ gw_all := gw_t (i := 267) (by decide +kernel) (by decide +kernel)
theorem cw_3 : ∀ w ∈ u_ws "CheeseCellar$Orders" ct_3 8, w ∈ gw_all := by
  intro w hw
  obtain ⟨k, hk, rfl⟩ := List.mem_map.mp hw
  have hk := List.mem_range.mp hk
  match k, hk with
  | 0, _ => exact cl_3_0
  | 1, _ => exact cl_3_1
  | 2, _ => exact cl_3_2
  | 3, _ => exact cl_3_3
  | 4, _ => exact cl_3_4
  | 5, _ => exact cl_3_5
  | 6, _ => exact cl_3_6
  | 7, _ => exact cl_3_7
  | k + 8, h => exact absurd h (by omega)
def ct_4 : u_T := fun k => match k with
  | 0 => ("CheeseCellar$Planner", "wheelOf", "[I", true)
  | 1 => ("CheeseCellar$Planner", "homeOf", "[I", true)
  | 2 => ("CheeseCellar$Planner", "shelfOf", "[I", true)
  | 3 => ("CheeseCellar$Planner", "prices", "[J", true)
  | 4 => ("CheeseCellar$Planner", "rooms", "[I", true)
  | 5 => ("CheeseCellar$Planner", "reach", "[J", true)
  | 6 => ("CheeseCellar$Planner", "comer", "[I", true)
  | 7 => ("CheeseCellar$Planner", "kept", "[I", true)
  | 8 => ("CheeseCellar$Planner", "count", "I", false)
  | 9 => ("CheeseCellar$Planner", "keptCount", "I", false)
  | 10 => ("CheeseCellar$Planner", "isKept", "Z", false)
  | _ => ("CheeseCellar$Planner", "isSpoilt", "Z", false)
def cf_4 : Nat → FieldType := fun k => match k with
  | 0 => .array .int
  | 1 => .array .int
  | 2 => .array .int
  | 3 => .array .long
  | 4 => .array .int
  | 5 => .array .long
  | 6 => .array .int
  | 7 => .array .int
  | 8 => .int
  | 9 => .int
  | 10 => .boolean
  | _ => .boolean
theorem cfo_4 : ∀ k, k < 12 → parseFieldDescriptor (ct_4 k).2.2.1 = some (cf_4 k) := by decide +kernel
theorem cn_4 : ∀ a, a < 12 → ∀ b, b < 12 → a ≠ b → (ct_4 a).2.1 ≠ (ct_4 b).2.1 := by decide +kernel
theorem cl_4_0 : Cond.laysFinal "CheeseCellar$Planner" "CheeseCellar$Planner" "wheelOf" "[I" ∈ gw_all := gw_t (i := 141) (by decide +kernel) (by decide +kernel)
theorem cl_4_1 : Cond.laysFinal "CheeseCellar$Planner" "CheeseCellar$Planner" "homeOf" "[I" ∈ gw_all := gw_t (i := 143) (by decide +kernel) (by decide +kernel)
theorem cl_4_2 : Cond.laysFinal "CheeseCellar$Planner" "CheeseCellar$Planner" "shelfOf" "[I" ∈ gw_all := gw_t (i := 145) (by decide +kernel) (by decide +kernel)
theorem cl_4_3 : Cond.laysFinal "CheeseCellar$Planner" "CheeseCellar$Planner" "prices" "[J" ∈ gw_all := gw_t (i := 147) (by decide +kernel) (by decide +kernel)
theorem cl_4_4 : Cond.laysFinal "CheeseCellar$Planner" "CheeseCellar$Planner" "rooms" "[I" ∈ gw_all := gw_t (i := 149) (by decide +kernel) (by decide +kernel)
theorem cl_4_5 : Cond.laysFinal "CheeseCellar$Planner" "CheeseCellar$Planner" "reach" "[J" ∈ gw_all := gw_t (i := 151) (by decide +kernel) (by decide +kernel)
theorem cl_4_6 : Cond.laysFinal "CheeseCellar$Planner" "CheeseCellar$Planner" "comer" "[I" ∈ gw_all := gw_t (i := 153) (by decide +kernel) (by decide +kernel)
theorem cl_4_7 : Cond.laysFinal "CheeseCellar$Planner" "CheeseCellar$Planner" "kept" "[I" ∈ gw_all := gw_t (i := 155) (by decide +kernel) (by decide +kernel)
theorem cl_4_8 : Cond.lays "CheeseCellar$Planner" "CheeseCellar$Planner" "count" "I" ∈ gw_all := gw_t (i := 157) (by decide +kernel) (by decide +kernel)
theorem cl_4_9 : Cond.lays "CheeseCellar$Planner" "CheeseCellar$Planner" "keptCount" "I" ∈ gw_all := gw_t (i := 159) (by decide +kernel) (by decide +kernel)
theorem cl_4_10 : Cond.lays "CheeseCellar$Planner" "CheeseCellar$Planner" "isKept" "Z" ∈ gw_all := gw_t (i := 161) (by decide +kernel) (by decide +kernel)
theorem cl_4_11 : Cond.lays "CheeseCellar$Planner" "CheeseCellar$Planner" "isSpoilt" "Z" ∈ gw_all := gw_t (i := 163) (by decide +kernel) (by decide +kernel)
theorem cw_4 : ∀ w ∈ u_ws "CheeseCellar$Planner" ct_4 12, w ∈ gw_all := by
  intro w hw
  obtain ⟨k, hk, rfl⟩ := List.mem_map.mp hw
  have hk := List.mem_range.mp hk
  match k, hk with
  | 0, _ => exact cl_4_0
  | 1, _ => exact cl_4_1
  | 2, _ => exact cl_4_2
  | 3, _ => exact cl_4_3
  | 4, _ => exact cl_4_4
  | 5, _ => exact cl_4_5
  | 6, _ => exact cl_4_6
  | 7, _ => exact cl_4_7
  | 8, _ => exact cl_4_8
  | 9, _ => exact cl_4_9
  | 10, _ => exact cl_4_10
  | 11, _ => exact cl_4_11
  | k + 12, h => exact absurd h (by omega)
def ct_5 : u_T := fun k => match k with
  | 0 => ("CheeseCellar$Reader", "tokens", "LCheeseCellar$Tokens;", true)
  | 1 => ("CheeseCellar$Reader", "next", "I", false)
  | 2 => ("CheeseCellar$Reader", "token", "I", false)
  | 3 => ("CheeseCellar$Reader", "place", "I", false)
  | 4 => ("CheeseCellar$Reader", "number", "I", false)
  | 5 => ("CheeseCellar$Reader", "operands", "I", false)
  | 6 => ("CheeseCellar$Reader", "faultKind", "I", false)
  | _ => ("CheeseCellar$Reader", "faultPlace", "I", false)
def cf_5 : Nat → FieldType := fun k => match k with
  | 0 => .object "CheeseCellar$Tokens"
  | 1 => .int
  | 2 => .int
  | 3 => .int
  | 4 => .int
  | 5 => .int
  | 6 => .int
  | _ => .int
theorem cfo_5 : ∀ k, k < 8 → parseFieldDescriptor (ct_5 k).2.2.1 = some (cf_5 k) := by decide +kernel
theorem cn_5 : ∀ a, a < 8 → ∀ b, b < 8 → a ≠ b → (ct_5 a).2.1 ≠ (ct_5 b).2.1 := by decide +kernel
theorem cl_5_0 : Cond.laysFinal "CheeseCellar$Reader" "CheeseCellar$Reader" "tokens" "LCheeseCellar$Tokens;" ∈ gw_all := gw_t (i := 221) (by decide +kernel) (by decide +kernel)
theorem cl_5_1 : Cond.lays "CheeseCellar$Reader" "CheeseCellar$Reader" "next" "I" ∈ gw_all := gw_t (i := 223) (by decide +kernel) (by decide +kernel)
theorem cl_5_2 : Cond.lays "CheeseCellar$Reader" "CheeseCellar$Reader" "token" "I" ∈ gw_all := gw_t (i := 225) (by decide +kernel) (by decide +kernel)
theorem cl_5_3 : Cond.lays "CheeseCellar$Reader" "CheeseCellar$Reader" "place" "I" ∈ gw_all := gw_t (i := 227) (by decide +kernel) (by decide +kernel)
theorem cl_5_4 : Cond.lays "CheeseCellar$Reader" "CheeseCellar$Reader" "number" "I" ∈ gw_all := gw_t (i := 229) (by decide +kernel) (by decide +kernel)
theorem cl_5_5 : Cond.lays "CheeseCellar$Reader" "CheeseCellar$Reader" "operands" "I" ∈ gw_all := gw_t (i := 231) (by decide +kernel) (by decide +kernel)
theorem cl_5_6 : Cond.lays "CheeseCellar$Reader" "CheeseCellar$Reader" "faultKind" "I" ∈ gw_all := gw_t (i := 233) (by decide +kernel) (by decide +kernel)
theorem cl_5_7 : Cond.lays "CheeseCellar$Reader" "CheeseCellar$Reader" "faultPlace" "I" ∈ gw_all := gw_t (i := 235) (by decide +kernel) (by decide +kernel)
theorem cw_5 : ∀ w ∈ u_ws "CheeseCellar$Reader" ct_5 8, w ∈ gw_all := by
  intro w hw
  obtain ⟨k, hk, rfl⟩ := List.mem_map.mp hw
  have hk := List.mem_range.mp hk
  match k, hk with
  | 0, _ => exact cl_5_0
  | 1, _ => exact cl_5_1
  | 2, _ => exact cl_5_2
  | 3, _ => exact cl_5_3
  | 4, _ => exact cl_5_4
  | 5, _ => exact cl_5_5
  | 6, _ => exact cl_5_6
  | 7, _ => exact cl_5_7
  | k + 8, h => exact absurd h (by omega)
def ct_6 : u_T := fun k => match k with
  | 0 => ("CheeseCellar$Shelves", "airs", "[I", true)
  | 1 => ("CheeseCellar$Shelves", "damps", "[I", true)
  | _ => ("CheeseCellar$Shelves", "lying", "[I", true)
def cf_6 : Nat → FieldType := fun k => match k with
  | 0 => .array .int
  | 1 => .array .int
  | _ => .array .int
theorem cfo_6 : ∀ k, k < 3 → parseFieldDescriptor (ct_6 k).2.2.1 = some (cf_6 k) := by decide +kernel
theorem cn_6 : ∀ a, a < 3 → ∀ b, b < 3 → a ≠ b → (ct_6 a).2.1 ≠ (ct_6 b).2.1 := by decide +kernel
theorem cl_6_0 : Cond.laysFinal "CheeseCellar$Shelves" "CheeseCellar$Shelves" "airs" "[I" ∈ gw_all := gw_t (i := 39) (by decide +kernel) (by decide +kernel)
theorem cl_6_1 : Cond.laysFinal "CheeseCellar$Shelves" "CheeseCellar$Shelves" "damps" "[I" ∈ gw_all := gw_t (i := 41) (by decide +kernel) (by decide +kernel)
theorem cl_6_2 : Cond.laysFinal "CheeseCellar$Shelves" "CheeseCellar$Shelves" "lying" "[I" ∈ gw_all := gw_t (i := 43) (by decide +kernel) (by decide +kernel)
theorem cw_6 : ∀ w ∈ u_ws "CheeseCellar$Shelves" ct_6 3, w ∈ gw_all := by
  intro w hw
  obtain ⟨k, hk, rfl⟩ := List.mem_map.mp hw
  have hk := List.mem_range.mp hk
  match k, hk with
  | 0, _ => exact cl_6_0
  | 1, _ => exact cl_6_1
  | 2, _ => exact cl_6_2
  | k + 3, h => exact absurd h (by omega)
def ct_7 : u_T := fun k => match k with
  | 0 => ("CheeseCellar$Stays", "wheelOf", "[I", true)
  | 1 => ("CheeseCellar$Stays", "shelfOf", "[I", true)
  | 2 => ("CheeseCellar$Stays", "beganOn", "[I", true)
  | 3 => ("CheeseCellar$Stays", "leftOn", "[I", true)
  | _ => ("CheeseCellar$Stays", "count", "I", false)
def cf_7 : Nat → FieldType := fun k => match k with
  | 0 => .array .int
  | 1 => .array .int
  | 2 => .array .int
  | 3 => .array .int
  | _ => .int
theorem cfo_7 : ∀ k, k < 5 → parseFieldDescriptor (ct_7 k).2.2.1 = some (cf_7 k) := by decide +kernel
theorem cn_7 : ∀ a, a < 5 → ∀ b, b < 5 → a ≠ b → (ct_7 a).2.1 ≠ (ct_7 b).2.1 := by decide +kernel
theorem cl_7_0 : Cond.laysFinal "CheeseCellar$Stays" "CheeseCellar$Stays" "wheelOf" "[I" ∈ gw_all := gw_t (i := 82) (by decide +kernel) (by decide +kernel)
theorem cl_7_1 : Cond.laysFinal "CheeseCellar$Stays" "CheeseCellar$Stays" "shelfOf" "[I" ∈ gw_all := gw_t (i := 84) (by decide +kernel) (by decide +kernel)
theorem cl_7_2 : Cond.laysFinal "CheeseCellar$Stays" "CheeseCellar$Stays" "beganOn" "[I" ∈ gw_all := gw_t (i := 86) (by decide +kernel) (by decide +kernel)
theorem cl_7_3 : Cond.laysFinal "CheeseCellar$Stays" "CheeseCellar$Stays" "leftOn" "[I" ∈ gw_all := gw_t (i := 88) (by decide +kernel) (by decide +kernel)
theorem cl_7_4 : Cond.lays "CheeseCellar$Stays" "CheeseCellar$Stays" "count" "I" ∈ gw_all := gw_t (i := 90) (by decide +kernel) (by decide +kernel)
theorem cw_7 : ∀ w ∈ u_ws "CheeseCellar$Stays" ct_7 5, w ∈ gw_all := by
  intro w hw
  obtain ⟨k, hk, rfl⟩ := List.mem_map.mp hw
  have hk := List.mem_range.mp hk
  match k, hk with
  | 0, _ => exact cl_7_0
  | 1, _ => exact cl_7_1
  | 2, _ => exact cl_7_2
  | 3, _ => exact cl_7_3
  | 4, _ => exact cl_7_4
  | k + 5, h => exact absurd h (by omega)
def ct_8 : u_T := fun k => match k with
  | 0 => ("CheeseCellar$Tape", "bytes", "[I", true)
  | _ => ("CheeseCellar$Tape", "size", "I", false)
def cf_8 : Nat → FieldType := fun k => match k with
  | 0 => .array .int
  | _ => .int
theorem cfo_8 : ∀ k, k < 2 → parseFieldDescriptor (ct_8 k).2.2.1 = some (cf_8 k) := by decide +kernel
theorem cn_8 : ∀ a, a < 2 → ∀ b, b < 2 → a ≠ b → (ct_8 a).2.1 ≠ (ct_8 b).2.1 := by decide +kernel
theorem cl_8_0 : Cond.laysFinal "CheeseCellar$Tape" "CheeseCellar$Tape" "bytes" "[I" ∈ gw_all := gw_t (i := 177) (by decide +kernel) (by decide +kernel)
theorem cl_8_1 : Cond.lays "CheeseCellar$Tape" "CheeseCellar$Tape" "size" "I" ∈ gw_all := gw_t (i := 179) (by decide +kernel) (by decide +kernel)
theorem cw_8 : ∀ w ∈ u_ws "CheeseCellar$Tape" ct_8 2, w ∈ gw_all := by
  intro w hw
  obtain ⟨k, hk, rfl⟩ := List.mem_map.mp hw
  have hk := List.mem_range.mp hk
  match k, hk with
  | 0, _ => exact cl_8_0
  | 1, _ => exact cl_8_1
  | k + 2, h => exact absurd h (by omega)
def ct_9 : u_T := fun k => match k with
  | 0 => ("CheeseCellar$Tokens", "kinds", "[I", true)
  | 1 => ("CheeseCellar$Tokens", "places", "[I", true)
  | 2 => ("CheeseCellar$Tokens", "numbers", "[I", true)
  | _ => ("CheeseCellar$Tokens", "count", "I", false)
def cf_9 : Nat → FieldType := fun k => match k with
  | 0 => .array .int
  | 1 => .array .int
  | 2 => .array .int
  | _ => .int
theorem cfo_9 : ∀ k, k < 4 → parseFieldDescriptor (ct_9 k).2.2.1 = some (cf_9 k) := by decide +kernel
theorem cn_9 : ∀ a, a < 4 → ∀ b, b < 4 → a ≠ b → (ct_9 a).2.1 ≠ (ct_9 b).2.1 := by decide +kernel
theorem cl_9_0 : Cond.laysFinal "CheeseCellar$Tokens" "CheeseCellar$Tokens" "kinds" "[I" ∈ gw_all := gw_t (i := 202) (by decide +kernel) (by decide +kernel)
theorem cl_9_1 : Cond.laysFinal "CheeseCellar$Tokens" "CheeseCellar$Tokens" "places" "[I" ∈ gw_all := gw_t (i := 204) (by decide +kernel) (by decide +kernel)
theorem cl_9_2 : Cond.laysFinal "CheeseCellar$Tokens" "CheeseCellar$Tokens" "numbers" "[I" ∈ gw_all := gw_t (i := 206) (by decide +kernel) (by decide +kernel)
theorem cl_9_3 : Cond.lays "CheeseCellar$Tokens" "CheeseCellar$Tokens" "count" "I" ∈ gw_all := gw_t (i := 208) (by decide +kernel) (by decide +kernel)
theorem cw_9 : ∀ w ∈ u_ws "CheeseCellar$Tokens" ct_9 4, w ∈ gw_all := by
  intro w hw
  obtain ⟨k, hk, rfl⟩ := List.mem_map.mp hw
  have hk := List.mem_range.mp hk
  match k, hk with
  | 0, _ => exact cl_9_0
  | 1, _ => exact cl_9_1
  | 2, _ => exact cl_9_2
  | 3, _ => exact cl_9_3
  | k + 4, h => exact absurd h (by omega)
def ct_10 : u_T := fun k => match k with
  | 0 => ("CheeseCellar$Wheel", "number", "I", true)
  | 1 => ("CheeseCellar$Wheel", "kind", "I", true)
  | 2 => ("CheeseCellar$Wheel", "madeOn", "I", true)
  | 3 => ("CheeseCellar$Wheel", "milkBits", "I", false)
  | 4 => ("CheeseCellar$Wheel", "shelf", "I", false)
  | 5 => ("CheeseCellar$Wheel", "stay", "I", false)
  | 6 => ("CheeseCellar$Wheel", "ripeness", "I", false)
  | 7 => ("CheeseCellar$Wheel", "mould", "I", false)
  | 8 => ("CheeseCellar$Wheel", "weight", "I", false)
  | _ => ("CheeseCellar$Wheel", "side", "I", false)
def cf_10 : Nat → FieldType := fun k => match k with
  | 0 => .int
  | 1 => .int
  | 2 => .int
  | 3 => .int
  | 4 => .int
  | 5 => .int
  | 6 => .int
  | 7 => .int
  | 8 => .int
  | _ => .int
theorem cfo_10 : ∀ k, k < 10 → parseFieldDescriptor (ct_10 k).2.2.1 = some (cf_10 k) := by decide +kernel
theorem cn_10 : ∀ a, a < 10 → ∀ b, b < 10 → a ≠ b → (ct_10 a).2.1 ≠ (ct_10 b).2.1 := by decide +kernel
theorem cl_10_0 : Cond.laysFinal "CheeseCellar$Wheel" "CheeseCellar$Wheel" "number" "I" ∈ gw_all := gw_t (i := 419) (by decide +kernel) (by decide +kernel)
theorem cl_10_1 : Cond.laysFinal "CheeseCellar$Wheel" "CheeseCellar$Wheel" "kind" "I" ∈ gw_all := gw_t (i := 421) (by decide +kernel) (by decide +kernel)
theorem cl_10_2 : Cond.laysFinal "CheeseCellar$Wheel" "CheeseCellar$Wheel" "madeOn" "I" ∈ gw_all := gw_t (i := 423) (by decide +kernel) (by decide +kernel)
theorem cl_10_3 : Cond.lays "CheeseCellar$Wheel" "CheeseCellar$Wheel" "milkBits" "I" ∈ gw_all := gw_t (i := 425) (by decide +kernel) (by decide +kernel)
theorem cl_10_4 : Cond.lays "CheeseCellar$Wheel" "CheeseCellar$Wheel" "shelf" "I" ∈ gw_all := gw_t (i := 427) (by decide +kernel) (by decide +kernel)
theorem cl_10_5 : Cond.lays "CheeseCellar$Wheel" "CheeseCellar$Wheel" "stay" "I" ∈ gw_all := gw_t (i := 429) (by decide +kernel) (by decide +kernel)
theorem cl_10_6 : Cond.lays "CheeseCellar$Wheel" "CheeseCellar$Wheel" "ripeness" "I" ∈ gw_all := gw_t (i := 431) (by decide +kernel) (by decide +kernel)
theorem cl_10_7 : Cond.lays "CheeseCellar$Wheel" "CheeseCellar$Wheel" "mould" "I" ∈ gw_all := gw_t (i := 433) (by decide +kernel) (by decide +kernel)
theorem cl_10_8 : Cond.lays "CheeseCellar$Wheel" "CheeseCellar$Wheel" "weight" "I" ∈ gw_all := gw_t (i := 435) (by decide +kernel) (by decide +kernel)
theorem cl_10_9 : Cond.lays "CheeseCellar$Wheel" "CheeseCellar$Wheel" "side" "I" ∈ gw_all := gw_t (i := 437) (by decide +kernel) (by decide +kernel)
theorem cw_10 : ∀ w ∈ u_ws "CheeseCellar$Wheel" ct_10 10, w ∈ gw_all := by
  intro w hw
  obtain ⟨k, hk, rfl⟩ := List.mem_map.mp hw
  have hk := List.mem_range.mp hk
  match k, hk with
  | 0, _ => exact cl_10_0
  | 1, _ => exact cl_10_1
  | 2, _ => exact cl_10_2
  | 3, _ => exact cl_10_3
  | 4, _ => exact cl_10_4
  | 5, _ => exact cl_10_5
  | 6, _ => exact cl_10_6
  | 7, _ => exact cl_10_7
  | 8, _ => exact cl_10_8
  | 9, _ => exact cl_10_9
  | k + 10, h => exact absurd h (by omega)
def ct_11 : u_T := fun k => match k with
  | 0 => ("CheeseCellar", "shelves", "LCheeseCellar$Shelves;", true)
  | 1 => ("CheeseCellar", "milks", "[LCheeseCellar$Milk;", true)
  | 2 => ("CheeseCellar", "wheels", "[LCheeseCellar$Wheel;", true)
  | 3 => ("CheeseCellar", "bands", "LCheeseCellar$Bands;", true)
  | 4 => ("CheeseCellar", "stays", "LCheeseCellar$Stays;", true)
  | 5 => ("CheeseCellar", "marks", "LCheeseCellar$Marks;", true)
  | 6 => ("CheeseCellar", "planner", "LCheeseCellar$Planner;", true)
  | 7 => ("CheeseCellar", "tape", "LCheeseCellar$Tape;", true)
  | 8 => ("CheeseCellar", "reader", "LCheeseCellar$Reader;", true)
  | 9 => ("CheeseCellar", "usedMilks", "[I", true)
  | 10 => ("CheeseCellar", "usedLitres", "[I", true)
  | 11 => ("CheeseCellar", "ordersNow", "LCheeseCellar$Orders;", false)
  | 12 => ("CheeseCellar", "ordersNext", "LCheeseCellar$Orders;", false)
  | 13 => ("CheeseCellar", "milkCount", "I", false)
  | 14 => ("CheeseCellar", "wheelCount", "I", false)
  | _ => ("CheeseCellar", "today", "I", false)
def cf_11 : Nat → FieldType := fun k => match k with
  | 0 => .object "CheeseCellar$Shelves"
  | 1 => .array (.object "CheeseCellar$Milk")
  | 2 => .array (.object "CheeseCellar$Wheel")
  | 3 => .object "CheeseCellar$Bands"
  | 4 => .object "CheeseCellar$Stays"
  | 5 => .object "CheeseCellar$Marks"
  | 6 => .object "CheeseCellar$Planner"
  | 7 => .object "CheeseCellar$Tape"
  | 8 => .object "CheeseCellar$Reader"
  | 9 => .array .int
  | 10 => .array .int
  | 11 => .object "CheeseCellar$Orders"
  | 12 => .object "CheeseCellar$Orders"
  | 13 => .int
  | 14 => .int
  | _ => .int
theorem cfo_11 : ∀ k, k < 16 → parseFieldDescriptor (ct_11 k).2.2.1 = some (cf_11 k) := by decide +kernel
theorem cn_11 : ∀ a, a < 16 → ∀ b, b < 16 → a ≠ b → (ct_11 a).2.1 ≠ (ct_11 b).2.1 := by decide +kernel
theorem cl_11_0 : Cond.laysFinal "CheeseCellar" "CheeseCellar" "shelves" "LCheeseCellar$Shelves;" ∈ gw_all := gw_t (i := 286) (by decide +kernel) (by decide +kernel)
theorem cl_11_1 : Cond.laysFinal "CheeseCellar" "CheeseCellar" "milks" "[LCheeseCellar$Milk;" ∈ gw_all := gw_t (i := 288) (by decide +kernel) (by decide +kernel)
theorem cl_11_2 : Cond.laysFinal "CheeseCellar" "CheeseCellar" "wheels" "[LCheeseCellar$Wheel;" ∈ gw_all := gw_t (i := 290) (by decide +kernel) (by decide +kernel)
theorem cl_11_3 : Cond.laysFinal "CheeseCellar" "CheeseCellar" "bands" "LCheeseCellar$Bands;" ∈ gw_all := gw_t (i := 292) (by decide +kernel) (by decide +kernel)
theorem cl_11_4 : Cond.laysFinal "CheeseCellar" "CheeseCellar" "stays" "LCheeseCellar$Stays;" ∈ gw_all := gw_t (i := 294) (by decide +kernel) (by decide +kernel)
theorem cl_11_5 : Cond.laysFinal "CheeseCellar" "CheeseCellar" "marks" "LCheeseCellar$Marks;" ∈ gw_all := gw_t (i := 296) (by decide +kernel) (by decide +kernel)
theorem cl_11_6 : Cond.laysFinal "CheeseCellar" "CheeseCellar" "planner" "LCheeseCellar$Planner;" ∈ gw_all := gw_t (i := 298) (by decide +kernel) (by decide +kernel)
theorem cl_11_7 : Cond.laysFinal "CheeseCellar" "CheeseCellar" "tape" "LCheeseCellar$Tape;" ∈ gw_all := gw_t (i := 300) (by decide +kernel) (by decide +kernel)
theorem cl_11_8 : Cond.laysFinal "CheeseCellar" "CheeseCellar" "reader" "LCheeseCellar$Reader;" ∈ gw_all := gw_t (i := 302) (by decide +kernel) (by decide +kernel)
theorem cl_11_9 : Cond.laysFinal "CheeseCellar" "CheeseCellar" "usedMilks" "[I" ∈ gw_all := gw_t (i := 304) (by decide +kernel) (by decide +kernel)
theorem cl_11_10 : Cond.laysFinal "CheeseCellar" "CheeseCellar" "usedLitres" "[I" ∈ gw_all := gw_t (i := 306) (by decide +kernel) (by decide +kernel)
theorem cl_11_11 : Cond.lays "CheeseCellar" "CheeseCellar" "ordersNow" "LCheeseCellar$Orders;" ∈ gw_all := gw_t (i := 308) (by decide +kernel) (by decide +kernel)
theorem cl_11_12 : Cond.lays "CheeseCellar" "CheeseCellar" "ordersNext" "LCheeseCellar$Orders;" ∈ gw_all := gw_t (i := 310) (by decide +kernel) (by decide +kernel)
theorem cl_11_13 : Cond.lays "CheeseCellar" "CheeseCellar" "milkCount" "I" ∈ gw_all := gw_t (i := 312) (by decide +kernel) (by decide +kernel)
theorem cl_11_14 : Cond.lays "CheeseCellar" "CheeseCellar" "wheelCount" "I" ∈ gw_all := gw_t (i := 314) (by decide +kernel) (by decide +kernel)
theorem cl_11_15 : Cond.lays "CheeseCellar" "CheeseCellar" "today" "I" ∈ gw_all := gw_t (i := 316) (by decide +kernel) (by decide +kernel)
theorem cw_11 : ∀ w ∈ u_ws "CheeseCellar" ct_11 16, w ∈ gw_all := by
  intro w hw
  obtain ⟨k, hk, rfl⟩ := List.mem_map.mp hw
  have hk := List.mem_range.mp hk
  match k, hk with
  | 0, _ => exact cl_11_0
  | 1, _ => exact cl_11_1
  | 2, _ => exact cl_11_2
  | 3, _ => exact cl_11_3
  | 4, _ => exact cl_11_4
  | 5, _ => exact cl_11_5
  | 6, _ => exact cl_11_6
  | 7, _ => exact cl_11_7
  | 8, _ => exact cl_11_8
  | 9, _ => exact cl_11_9
  | 10, _ => exact cl_11_10
  | 11, _ => exact cl_11_11
  | 12, _ => exact cl_11_12
  | 13, _ => exact cl_11_13
  | 14, _ => exact cl_11_14
  | 15, _ => exact cl_11_15
  | k + 16, h => exact absurd h (by omega)
def ct_12 : u_T := fun k => match k with
  | 0 => ("CheeseCellarModel", "today", "I", false)
  | 1 => ("CheeseCellarModel", "air", "[I", true)
  | 2 => ("CheeseCellarModel", "damp", "[I", true)
  | 3 => ("CheeseCellarModel", "milks", "I", false)
  | 4 => ("CheeseCellarModel", "wheels", "I", false)
  | 5 => ("CheeseCellarModel", "stays", "I", false)
  | 6 => ("CheeseCellarModel", "farm", "[I", true)
  | 7 => ("CheeseCellarModel", "left", "[I", true)
  | 8 => ("CheeseCellarModel", "madeFrom", "[I", true)
  | 9 => ("CheeseCellarModel", "kind", "[I", true)
  | 10 => ("CheeseCellarModel", "shelf", "[I", true)
  | 11 => ("CheeseCellarModel", "ripe", "[I", true)
  | 12 => ("CheeseCellarModel", "mould", "[I", true)
  | 13 => ("CheeseCellarModel", "weight", "[I", true)
  | 14 => ("CheeseCellarModel", "made", "[I", true)
  | 15 => ("CheeseCellarModel", "side", "[I", true)
  | 16 => ("CheeseCellarModel", "stayOf", "[I", true)
  | 17 => ("CheeseCellarModel", "isOf", "[Z", true)
  | 18 => ("CheeseCellarModel", "stayWheel", "[I", true)
  | 19 => ("CheeseCellarModel", "stayShelf", "[I", true)
  | 20 => ("CheeseCellarModel", "stayFrom", "[I", true)
  | 21 => ("CheeseCellarModel", "stayTo", "[I", true)
  | 22 => ("CheeseCellarModel", "steps", "[I", true)
  | 23 => ("CheeseCellarModel", "numbers", "[I", true)
  | 24 => ("CheeseCellarModel", "lineAt", "[I", true)
  | 25 => ("CheeseCellarModel", "does", "[I", true)
  | 26 => ("CheeseCellarModel", "lines", "I", false)
  | 27 => ("CheeseCellarModel", "newSteps", "[I", true)
  | 28 => ("CheeseCellarModel", "newNumbers", "[I", true)
  | 29 => ("CheeseCellarModel", "newAt", "[I", true)
  | 30 => ("CheeseCellarModel", "newDoes", "[I", true)
  | 31 => ("CheeseCellarModel", "newLines", "I", false)
  | 32 => ("CheeseCellarModel", "newMany", "I", false)
  | 33 => ("CheeseCellarModel", "values", "I", false)
  | 34 => ("CheeseCellarModel", "tape", "[I", true)
  | 35 => ("CheeseCellarModel", "taped", "I", false)
  | 36 => ("CheeseCellarModel", "fault", "I", false)
  | 37 => ("CheeseCellarModel", "faultPlace", "I", false)
  | 38 => ("CheeseCellarModel", "at", "I", false)
  | 39 => ("CheeseCellarModel", "size", "I", false)
  | 40 => ("CheeseCellarModel", "sort", "I", false)
  | 41 => ("CheeseCellarModel", "place", "I", false)
  | 42 => ("CheeseCellarModel", "number", "I", false)
  | 43 => ("CheeseCellarModel", "word", "J", false)
  | 44 => ("CheeseCellarModel", "waits", "[I", true)
  | 45 => ("CheeseCellarModel", "waiting", "I", false)
  | 46 => ("CheeseCellarModel", "deep", "I", false)
  | 47 => ("CheeseCellarModel", "pile", "[I", true)
  | 48 => ("CheeseCellarModel", "names", "[I", true)
  | 49 => ("CheeseCellarModel", "bandMany", "[I", true)
  | 50 => ("CheeseCellarModel", "bandAge", "[I", true)
  | 51 => ("CheeseCellarModel", "bandLeast", "[I", true)
  | 52 => ("CheeseCellarModel", "bandMost", "[I", true)
  | 53 => ("CheeseCellarModel", "isPlanned", "Z", false)
  | 54 => ("CheeseCellarModel", "goers", "I", false)
  | 55 => ("CheeseCellarModel", "plannedMany", "I", false)
  | 56 => ("CheeseCellarModel", "goer", "[I", true)
  | 57 => ("CheeseCellarModel", "plannedWheel", "[I", true)
  | 58 => ("CheeseCellarModel", "plannedShelf", "[I", true)
  | 59 => ("CheeseCellarModel", "best", "[I", true)
  | 60 => ("CheeseCellarModel", "costs", "[J", true)
  | 61 => ("CheeseCellarModel", "price", "[J", true)
  | 62 => ("CheeseCellarModel", "marks", "I", false)
  | 63 => ("CheeseCellarModel", "marker", "[I", true)
  | 64 => ("CheeseCellarModel", "marked", "[I", true)
  | 65 => ("CheeseCellarModel", "markOf", "[I", true)
  | 66 => ("CheeseCellarModel", "toldOn", "[I", true)
  | 67 => ("CheeseCellarModel", "untoldOn", "[I", true)
  | _ => ("CheeseCellarModel", "row", "[I", true)
def cf_12 : Nat → FieldType := fun k => match k with
  | 0 => .int
  | 1 => .array .int
  | 2 => .array .int
  | 3 => .int
  | 4 => .int
  | 5 => .int
  | 6 => .array .int
  | 7 => .array .int
  | 8 => .array .int
  | 9 => .array .int
  | 10 => .array .int
  | 11 => .array .int
  | 12 => .array .int
  | 13 => .array .int
  | 14 => .array .int
  | 15 => .array .int
  | 16 => .array .int
  | 17 => .array .boolean
  | 18 => .array .int
  | 19 => .array .int
  | 20 => .array .int
  | 21 => .array .int
  | 22 => .array .int
  | 23 => .array .int
  | 24 => .array .int
  | 25 => .array .int
  | 26 => .int
  | 27 => .array .int
  | 28 => .array .int
  | 29 => .array .int
  | 30 => .array .int
  | 31 => .int
  | 32 => .int
  | 33 => .int
  | 34 => .array .int
  | 35 => .int
  | 36 => .int
  | 37 => .int
  | 38 => .int
  | 39 => .int
  | 40 => .int
  | 41 => .int
  | 42 => .int
  | 43 => .long
  | 44 => .array .int
  | 45 => .int
  | 46 => .int
  | 47 => .array .int
  | 48 => .array .int
  | 49 => .array .int
  | 50 => .array .int
  | 51 => .array .int
  | 52 => .array .int
  | 53 => .boolean
  | 54 => .int
  | 55 => .int
  | 56 => .array .int
  | 57 => .array .int
  | 58 => .array .int
  | 59 => .array .int
  | 60 => .array .long
  | 61 => .array .long
  | 62 => .int
  | 63 => .array .int
  | 64 => .array .int
  | 65 => .array .int
  | 66 => .array .int
  | 67 => .array .int
  | _ => .array .int
theorem cfo_12 : ∀ k, k < 69 → parseFieldDescriptor (ct_12 k).2.2.1 = some (cf_12 k) := by decide +kernel
theorem cn_12 : ∀ a, a < 69 → ∀ b, b < 69 → a ≠ b → (ct_12 a).2.1 ≠ (ct_12 b).2.1 := by decide +kernel
theorem cl_12_0 : Cond.lays "CheeseCellarModel" "CheeseCellarModel" "today" "I" ∈ gw_all := gw_t (i := 980) (by decide +kernel) (by decide +kernel)
theorem cl_12_1 : Cond.laysFinal "CheeseCellarModel" "CheeseCellarModel" "air" "[I" ∈ gw_all := gw_t (i := 982) (by decide +kernel) (by decide +kernel)
theorem cl_12_2 : Cond.laysFinal "CheeseCellarModel" "CheeseCellarModel" "damp" "[I" ∈ gw_all := gw_t (i := 984) (by decide +kernel) (by decide +kernel)
theorem cl_12_3 : Cond.lays "CheeseCellarModel" "CheeseCellarModel" "milks" "I" ∈ gw_all := gw_t (i := 986) (by decide +kernel) (by decide +kernel)
theorem cl_12_4 : Cond.lays "CheeseCellarModel" "CheeseCellarModel" "wheels" "I" ∈ gw_all := gw_t (i := 988) (by decide +kernel) (by decide +kernel)
theorem cl_12_5 : Cond.lays "CheeseCellarModel" "CheeseCellarModel" "stays" "I" ∈ gw_all := gw_t (i := 990) (by decide +kernel) (by decide +kernel)
theorem cl_12_6 : Cond.laysFinal "CheeseCellarModel" "CheeseCellarModel" "farm" "[I" ∈ gw_all := gw_t (i := 992) (by decide +kernel) (by decide +kernel)
theorem cl_12_7 : Cond.laysFinal "CheeseCellarModel" "CheeseCellarModel" "left" "[I" ∈ gw_all := gw_t (i := 994) (by decide +kernel) (by decide +kernel)
theorem cl_12_8 : Cond.laysFinal "CheeseCellarModel" "CheeseCellarModel" "madeFrom" "[I" ∈ gw_all := gw_t (i := 996) (by decide +kernel) (by decide +kernel)
theorem cl_12_9 : Cond.laysFinal "CheeseCellarModel" "CheeseCellarModel" "kind" "[I" ∈ gw_all := gw_t (i := 998) (by decide +kernel) (by decide +kernel)
theorem cl_12_10 : Cond.laysFinal "CheeseCellarModel" "CheeseCellarModel" "shelf" "[I" ∈ gw_all := gw_t (i := 1000) (by decide +kernel) (by decide +kernel)
theorem cl_12_11 : Cond.laysFinal "CheeseCellarModel" "CheeseCellarModel" "ripe" "[I" ∈ gw_all := gw_t (i := 1002) (by decide +kernel) (by decide +kernel)
theorem cl_12_12 : Cond.laysFinal "CheeseCellarModel" "CheeseCellarModel" "mould" "[I" ∈ gw_all := gw_t (i := 1004) (by decide +kernel) (by decide +kernel)
theorem cl_12_13 : Cond.laysFinal "CheeseCellarModel" "CheeseCellarModel" "weight" "[I" ∈ gw_all := gw_t (i := 1006) (by decide +kernel) (by decide +kernel)
theorem cl_12_14 : Cond.laysFinal "CheeseCellarModel" "CheeseCellarModel" "made" "[I" ∈ gw_all := gw_t (i := 1008) (by decide +kernel) (by decide +kernel)
theorem cl_12_15 : Cond.laysFinal "CheeseCellarModel" "CheeseCellarModel" "side" "[I" ∈ gw_all := gw_t (i := 1010) (by decide +kernel) (by decide +kernel)
theorem cl_12_16 : Cond.laysFinal "CheeseCellarModel" "CheeseCellarModel" "stayOf" "[I" ∈ gw_all := gw_t (i := 1012) (by decide +kernel) (by decide +kernel)
theorem cl_12_17 : Cond.laysFinal "CheeseCellarModel" "CheeseCellarModel" "isOf" "[Z" ∈ gw_all := gw_t (i := 1014) (by decide +kernel) (by decide +kernel)
theorem cl_12_18 : Cond.laysFinal "CheeseCellarModel" "CheeseCellarModel" "stayWheel" "[I" ∈ gw_all := gw_t (i := 1016) (by decide +kernel) (by decide +kernel)
theorem cl_12_19 : Cond.laysFinal "CheeseCellarModel" "CheeseCellarModel" "stayShelf" "[I" ∈ gw_all := gw_t (i := 1018) (by decide +kernel) (by decide +kernel)
theorem cl_12_20 : Cond.laysFinal "CheeseCellarModel" "CheeseCellarModel" "stayFrom" "[I" ∈ gw_all := gw_t (i := 1020) (by decide +kernel) (by decide +kernel)
theorem cl_12_21 : Cond.laysFinal "CheeseCellarModel" "CheeseCellarModel" "stayTo" "[I" ∈ gw_all := gw_t (i := 1022) (by decide +kernel) (by decide +kernel)
theorem cl_12_22 : Cond.laysFinal "CheeseCellarModel" "CheeseCellarModel" "steps" "[I" ∈ gw_all := gw_t (i := 1024) (by decide +kernel) (by decide +kernel)
theorem cl_12_23 : Cond.laysFinal "CheeseCellarModel" "CheeseCellarModel" "numbers" "[I" ∈ gw_all := gw_t (i := 1026) (by decide +kernel) (by decide +kernel)
theorem cl_12_24 : Cond.laysFinal "CheeseCellarModel" "CheeseCellarModel" "lineAt" "[I" ∈ gw_all := gw_t (i := 1028) (by decide +kernel) (by decide +kernel)
theorem cl_12_25 : Cond.laysFinal "CheeseCellarModel" "CheeseCellarModel" "does" "[I" ∈ gw_all := gw_t (i := 1030) (by decide +kernel) (by decide +kernel)
theorem cl_12_26 : Cond.lays "CheeseCellarModel" "CheeseCellarModel" "lines" "I" ∈ gw_all := gw_t (i := 1032) (by decide +kernel) (by decide +kernel)
theorem cl_12_27 : Cond.laysFinal "CheeseCellarModel" "CheeseCellarModel" "newSteps" "[I" ∈ gw_all := gw_t (i := 1034) (by decide +kernel) (by decide +kernel)
theorem cl_12_28 : Cond.laysFinal "CheeseCellarModel" "CheeseCellarModel" "newNumbers" "[I" ∈ gw_all := gw_t (i := 1036) (by decide +kernel) (by decide +kernel)
theorem cl_12_29 : Cond.laysFinal "CheeseCellarModel" "CheeseCellarModel" "newAt" "[I" ∈ gw_all := gw_t (i := 1038) (by decide +kernel) (by decide +kernel)
theorem cl_12_30 : Cond.laysFinal "CheeseCellarModel" "CheeseCellarModel" "newDoes" "[I" ∈ gw_all := gw_t (i := 1040) (by decide +kernel) (by decide +kernel)
theorem cl_12_31 : Cond.lays "CheeseCellarModel" "CheeseCellarModel" "newLines" "I" ∈ gw_all := gw_t (i := 1042) (by decide +kernel) (by decide +kernel)
theorem cl_12_32 : Cond.lays "CheeseCellarModel" "CheeseCellarModel" "newMany" "I" ∈ gw_all := gw_t (i := 1044) (by decide +kernel) (by decide +kernel)
theorem cl_12_33 : Cond.lays "CheeseCellarModel" "CheeseCellarModel" "values" "I" ∈ gw_all := gw_t (i := 1046) (by decide +kernel) (by decide +kernel)
theorem cl_12_34 : Cond.laysFinal "CheeseCellarModel" "CheeseCellarModel" "tape" "[I" ∈ gw_all := gw_t (i := 1048) (by decide +kernel) (by decide +kernel)
theorem cl_12_35 : Cond.lays "CheeseCellarModel" "CheeseCellarModel" "taped" "I" ∈ gw_all := gw_t (i := 1050) (by decide +kernel) (by decide +kernel)
theorem cl_12_36 : Cond.lays "CheeseCellarModel" "CheeseCellarModel" "fault" "I" ∈ gw_all := gw_t (i := 1052) (by decide +kernel) (by decide +kernel)
theorem cl_12_37 : Cond.lays "CheeseCellarModel" "CheeseCellarModel" "faultPlace" "I" ∈ gw_all := gw_t (i := 1054) (by decide +kernel) (by decide +kernel)
theorem cl_12_38 : Cond.lays "CheeseCellarModel" "CheeseCellarModel" "at" "I" ∈ gw_all := gw_t (i := 1056) (by decide +kernel) (by decide +kernel)
theorem cl_12_39 : Cond.lays "CheeseCellarModel" "CheeseCellarModel" "size" "I" ∈ gw_all := gw_t (i := 1058) (by decide +kernel) (by decide +kernel)
theorem cl_12_40 : Cond.lays "CheeseCellarModel" "CheeseCellarModel" "sort" "I" ∈ gw_all := gw_t (i := 1060) (by decide +kernel) (by decide +kernel)
theorem cl_12_41 : Cond.lays "CheeseCellarModel" "CheeseCellarModel" "place" "I" ∈ gw_all := gw_t (i := 1062) (by decide +kernel) (by decide +kernel)
theorem cl_12_42 : Cond.lays "CheeseCellarModel" "CheeseCellarModel" "number" "I" ∈ gw_all := gw_t (i := 1064) (by decide +kernel) (by decide +kernel)
theorem cl_12_43 : Cond.lays "CheeseCellarModel" "CheeseCellarModel" "word" "J" ∈ gw_all := gw_t (i := 1066) (by decide +kernel) (by decide +kernel)
theorem cl_12_44 : Cond.laysFinal "CheeseCellarModel" "CheeseCellarModel" "waits" "[I" ∈ gw_all := gw_t (i := 1068) (by decide +kernel) (by decide +kernel)
theorem cl_12_45 : Cond.lays "CheeseCellarModel" "CheeseCellarModel" "waiting" "I" ∈ gw_all := gw_t (i := 1070) (by decide +kernel) (by decide +kernel)
theorem cl_12_46 : Cond.lays "CheeseCellarModel" "CheeseCellarModel" "deep" "I" ∈ gw_all := gw_t (i := 1072) (by decide +kernel) (by decide +kernel)
theorem cl_12_47 : Cond.laysFinal "CheeseCellarModel" "CheeseCellarModel" "pile" "[I" ∈ gw_all := gw_t (i := 1074) (by decide +kernel) (by decide +kernel)
theorem cl_12_48 : Cond.laysFinal "CheeseCellarModel" "CheeseCellarModel" "names" "[I" ∈ gw_all := gw_t (i := 1076) (by decide +kernel) (by decide +kernel)
theorem cl_12_49 : Cond.laysFinal "CheeseCellarModel" "CheeseCellarModel" "bandMany" "[I" ∈ gw_all := gw_t (i := 1078) (by decide +kernel) (by decide +kernel)
theorem cl_12_50 : Cond.laysFinal "CheeseCellarModel" "CheeseCellarModel" "bandAge" "[I" ∈ gw_all := gw_t (i := 1080) (by decide +kernel) (by decide +kernel)
theorem cl_12_51 : Cond.laysFinal "CheeseCellarModel" "CheeseCellarModel" "bandLeast" "[I" ∈ gw_all := gw_t (i := 1082) (by decide +kernel) (by decide +kernel)
theorem cl_12_52 : Cond.laysFinal "CheeseCellarModel" "CheeseCellarModel" "bandMost" "[I" ∈ gw_all := gw_t (i := 1084) (by decide +kernel) (by decide +kernel)
theorem cl_12_53 : Cond.lays "CheeseCellarModel" "CheeseCellarModel" "isPlanned" "Z" ∈ gw_all := gw_t (i := 1086) (by decide +kernel) (by decide +kernel)
theorem cl_12_54 : Cond.lays "CheeseCellarModel" "CheeseCellarModel" "goers" "I" ∈ gw_all := gw_t (i := 1088) (by decide +kernel) (by decide +kernel)
theorem cl_12_55 : Cond.lays "CheeseCellarModel" "CheeseCellarModel" "plannedMany" "I" ∈ gw_all := gw_t (i := 1090) (by decide +kernel) (by decide +kernel)
theorem cl_12_56 : Cond.laysFinal "CheeseCellarModel" "CheeseCellarModel" "goer" "[I" ∈ gw_all := gw_t (i := 1092) (by decide +kernel) (by decide +kernel)
theorem cl_12_57 : Cond.laysFinal "CheeseCellarModel" "CheeseCellarModel" "plannedWheel" "[I" ∈ gw_all := gw_t (i := 1094) (by decide +kernel) (by decide +kernel)
theorem cl_12_58 : Cond.laysFinal "CheeseCellarModel" "CheeseCellarModel" "plannedShelf" "[I" ∈ gw_all := gw_t (i := 1096) (by decide +kernel) (by decide +kernel)
theorem cl_12_59 : Cond.laysFinal "CheeseCellarModel" "CheeseCellarModel" "best" "[I" ∈ gw_all := gw_t (i := 1098) (by decide +kernel) (by decide +kernel)
theorem cl_12_60 : Cond.laysFinal "CheeseCellarModel" "CheeseCellarModel" "costs" "[J" ∈ gw_all := gw_t (i := 1100) (by decide +kernel) (by decide +kernel)
theorem cl_12_61 : Cond.laysFinal "CheeseCellarModel" "CheeseCellarModel" "price" "[J" ∈ gw_all := gw_t (i := 1102) (by decide +kernel) (by decide +kernel)
theorem cl_12_62 : Cond.lays "CheeseCellarModel" "CheeseCellarModel" "marks" "I" ∈ gw_all := gw_t (i := 1104) (by decide +kernel) (by decide +kernel)
theorem cl_12_63 : Cond.laysFinal "CheeseCellarModel" "CheeseCellarModel" "marker" "[I" ∈ gw_all := gw_t (i := 1106) (by decide +kernel) (by decide +kernel)
theorem cl_12_64 : Cond.laysFinal "CheeseCellarModel" "CheeseCellarModel" "marked" "[I" ∈ gw_all := gw_t (i := 1108) (by decide +kernel) (by decide +kernel)
theorem cl_12_65 : Cond.laysFinal "CheeseCellarModel" "CheeseCellarModel" "markOf" "[I" ∈ gw_all := gw_t (i := 1110) (by decide +kernel) (by decide +kernel)
theorem cl_12_66 : Cond.laysFinal "CheeseCellarModel" "CheeseCellarModel" "toldOn" "[I" ∈ gw_all := gw_t (i := 1112) (by decide +kernel) (by decide +kernel)
theorem cl_12_67 : Cond.laysFinal "CheeseCellarModel" "CheeseCellarModel" "untoldOn" "[I" ∈ gw_all := gw_t (i := 1114) (by decide +kernel) (by decide +kernel)
theorem cl_12_68 : Cond.laysFinal "CheeseCellarModel" "CheeseCellarModel" "row" "[I" ∈ gw_all := gw_t (i := 1116) (by decide +kernel) (by decide +kernel)
theorem cw_12 : ∀ w ∈ u_ws "CheeseCellarModel" ct_12 69, w ∈ gw_all := by
  intro w hw
  obtain ⟨k, hk, rfl⟩ := List.mem_map.mp hw
  have hk := List.mem_range.mp hk
  match k, hk with
  | 0, _ => exact cl_12_0
  | 1, _ => exact cl_12_1
  | 2, _ => exact cl_12_2
  | 3, _ => exact cl_12_3
  | 4, _ => exact cl_12_4
  | 5, _ => exact cl_12_5
  | 6, _ => exact cl_12_6
  | 7, _ => exact cl_12_7
  | 8, _ => exact cl_12_8
  | 9, _ => exact cl_12_9
  | 10, _ => exact cl_12_10
  | 11, _ => exact cl_12_11
  | 12, _ => exact cl_12_12
  | 13, _ => exact cl_12_13
  | 14, _ => exact cl_12_14
  | 15, _ => exact cl_12_15
  | 16, _ => exact cl_12_16
  | 17, _ => exact cl_12_17
  | 18, _ => exact cl_12_18
  | 19, _ => exact cl_12_19
  | 20, _ => exact cl_12_20
  | 21, _ => exact cl_12_21
  | 22, _ => exact cl_12_22
  | 23, _ => exact cl_12_23
  | 24, _ => exact cl_12_24
  | 25, _ => exact cl_12_25
  | 26, _ => exact cl_12_26
  | 27, _ => exact cl_12_27
  | 28, _ => exact cl_12_28
  | 29, _ => exact cl_12_29
  | 30, _ => exact cl_12_30
  | 31, _ => exact cl_12_31
  | 32, _ => exact cl_12_32
  | 33, _ => exact cl_12_33
  | 34, _ => exact cl_12_34
  | 35, _ => exact cl_12_35
  | 36, _ => exact cl_12_36
  | 37, _ => exact cl_12_37
  | 38, _ => exact cl_12_38
  | 39, _ => exact cl_12_39
  | 40, _ => exact cl_12_40
  | 41, _ => exact cl_12_41
  | 42, _ => exact cl_12_42
  | 43, _ => exact cl_12_43
  | 44, _ => exact cl_12_44
  | 45, _ => exact cl_12_45
  | 46, _ => exact cl_12_46
  | 47, _ => exact cl_12_47
  | 48, _ => exact cl_12_48
  | 49, _ => exact cl_12_49
  | 50, _ => exact cl_12_50
  | 51, _ => exact cl_12_51
  | 52, _ => exact cl_12_52
  | 53, _ => exact cl_12_53
  | 54, _ => exact cl_12_54
  | 55, _ => exact cl_12_55
  | 56, _ => exact cl_12_56
  | 57, _ => exact cl_12_57
  | 58, _ => exact cl_12_58
  | 59, _ => exact cl_12_59
  | 60, _ => exact cl_12_60
  | 61, _ => exact cl_12_61
  | 62, _ => exact cl_12_62
  | 63, _ => exact cl_12_63
  | 64, _ => exact cl_12_64
  | 65, _ => exact cl_12_65
  | 66, _ => exact cl_12_66
  | 67, _ => exact cl_12_67
  | 68, _ => exact cl_12_68
  | k + 69, h => exact absurd h (by omega)
abbrev cl_all : List vw_C := [("CheeseCellar$Bands", ct_0, 4), ("CheeseCellar$Marks", ct_1, 7), ("CheeseCellar$Milk", ct_2, 3), ("CheeseCellar$Orders", ct_3, 8), ("CheeseCellar$Planner", ct_4, 12), ("CheeseCellar$Reader", ct_5, 8), ("CheeseCellar$Shelves", ct_6, 3), ("CheeseCellar$Stays", ct_7, 5), ("CheeseCellar$Tape", ct_8, 2), ("CheeseCellar$Tokens", ct_9, 4), ("CheeseCellar$Wheel", ct_10, 10), ("CheeseCellar", ct_11, 16), ("CheeseCellarModel", ct_12, 69)]
/-- a method: its name, bytes, locals, answer -/
abbrev mt_T : Type := MethodName × ByteArray × Nat × Option FieldType
def mt_K_init : mt_T := (⟨"CheeseCellar", "<init>", "()V"⟩, prog_1_method_1_code, 1, none)
def mt_Sh_init : mt_T := (⟨"CheeseCellar$Shelves", "<init>", "()V"⟩, prog_8_method_1_code, 1, none)
def mt_Ba_init : mt_T := (⟨"CheeseCellar$Bands", "<init>", "()V"⟩, prog_2_method_1_code, 1, none)
def mt_St_init : mt_T := (⟨"CheeseCellar$Stays", "<init>", "()V"⟩, prog_9_method_1_code, 1, none)
def mt_Ma_init : mt_T := (⟨"CheeseCellar$Marks", "<init>", "()V"⟩, prog_3_method_1_code, 1, none)
def mt_Pl_init : mt_T := (⟨"CheeseCellar$Planner", "<init>", "()V"⟩, prog_6_method_1_code, 1, none)
def mt_Ta_init : mt_T := (⟨"CheeseCellar$Tape", "<init>", "()V"⟩, prog_10_method_1_code, 1, none)
def mt_Re_init : mt_T := (⟨"CheeseCellar$Reader", "<init>", "()V"⟩, prog_7_method_1_code, 1, none)
def mt_To_init : mt_T := (⟨"CheeseCellar$Tokens", "<init>", "()V"⟩, prog_11_method_1_code, 1, none)
def mt_Or_init : mt_T := (⟨"CheeseCellar$Orders", "<init>", "()V"⟩, prog_5_method_1_code, 1, none)
def mt_K_air : mt_T := (⟨"CheeseCellar", "air", "(II)Z"⟩, prog_1_method_2_code, 3, (some .boolean))
def mt_K_isUpTo : mt_T := (⟨"CheeseCellar", "isUpTo", "(II)Z"⟩, prog_1_method_26_code, 2, (some .boolean))
def mt_Pl_spoil : mt_T := (⟨"CheeseCellar$Planner", "spoil", "()V"⟩, prog_6_method_9_code, 1, none)
def mt_K_damp : mt_T := (⟨"CheeseCellar", "damp", "(II)Z"⟩, prog_1_method_3_code, 3, (some .boolean))
def mt_K_milk : mt_T := (⟨"CheeseCellar", "milk", "(II)I"⟩, prog_1_method_4_code, 4, (some .int))
def mt_Mi_init : mt_T := (⟨"CheeseCellar$Milk", "<init>", "(II)V"⟩, prog_4_method_1_code, 3, none)
def mt_K_wheel : mt_T := (⟨"CheeseCellar", "wheel", "(IIIIIIII)I"⟩, prog_1_method_5_code, 10, (some .int))
def mt_Sh_hasRoom : mt_T := (⟨"CheeseCellar$Shelves", "hasRoom", "(I)Z"⟩, prog_8_method_5_code, 2, (some .boolean))
def mt_Sh_roomAt : mt_T := (⟨"CheeseCellar$Shelves", "roomAt", "(I)I"⟩, prog_8_method_4_code, 2, (some .int))
def mt_K_areMilksThere : mt_T := (⟨"CheeseCellar", "areMilksThere", "()Z"⟩, prog_1_method_32_code, 2, (some .boolean))
def mt_K_isMilkThere : mt_T := (⟨"CheeseCellar", "isMilkThere", "(I)Z"⟩, prog_1_method_33_code, 3, (some .boolean))
def mt_K_milkAt : mt_T := (⟨"CheeseCellar", "milkAt", "(I)LCheeseCellar$Milk;"⟩, prog_1_method_27_code, 2, (some (.object "CheeseCellar$Milk")))
def mt_St_haveRoomFor : mt_T := (⟨"CheeseCellar$Stays", "haveRoomFor", "(I)Z"⟩, prog_9_method_2_code, 2, (some .boolean))
def mt_K_makeWheel : mt_T := (⟨"CheeseCellar", "makeWheel", "(II)I"⟩, prog_1_method_34_code, 7, (some .int))
def mt_Wh_init : mt_T := (⟨"CheeseCellar$Wheel", "<init>", "(III)V"⟩, prog_12_method_1_code, 4, none)
def mt_K_layOn : mt_T := (⟨"CheeseCellar", "layOn", "(LCheeseCellar$Wheel;I)V"⟩, prog_1_method_35_code, 3, none)
def mt_St_begin : mt_T := (⟨"CheeseCellar$Stays", "begin", "(III)I"⟩, prog_9_method_3_code, 4, (some .int))
def mt_Sh_lay : mt_T := (⟨"CheeseCellar$Shelves", "lay", "(I)V"⟩, prog_8_method_6_code, 2, none)
def mt_K_sell : mt_T := (⟨"CheeseCellar", "sell", "(I)Z"⟩, prog_1_method_6_code, 3, (some .boolean))
def mt_K_lyingWheel : mt_T := (⟨"CheeseCellar", "lyingWheel", "(I)LCheeseCellar$Wheel;"⟩, prog_1_method_29_code, 3, (some (.object "CheeseCellar$Wheel")))
def mt_K_wheelAt : mt_T := (⟨"CheeseCellar", "wheelAt", "(I)LCheeseCellar$Wheel;"⟩, prog_1_method_28_code, 2, (some (.object "CheeseCellar$Wheel")))
def mt_St_finish : mt_T := (⟨"CheeseCellar$Stays", "finish", "(II)V"⟩, prog_9_method_4_code, 3, none)
def mt_Sh_lift : mt_T := (⟨"CheeseCellar$Shelves", "lift", "(I)V"⟩, prog_8_method_7_code, 2, none)
def mt_K_feed : mt_T := (⟨"CheeseCellar", "feed", "(IIIII)I"⟩, prog_1_method_7_code, 6, (some .int))
def mt_Ta_take : mt_T := (⟨"CheeseCellar$Tape", "take", "(I)V"⟩, prog_10_method_2_code, 3, none)
def mt_K_end : mt_T := (⟨"CheeseCellar", "end", "(I)I"⟩, prog_1_method_8_code, 2, (some .int))
def mt_K_orders : mt_T := (⟨"CheeseCellar", "orders", "()I"⟩, prog_1_method_9_code, 3, (some .int))
def mt_Re_read : mt_T := (⟨"CheeseCellar$Reader", "read", "(LCheeseCellar$Tape;LCheeseCellar$Orders;)Z"⟩, prog_7_method_2_code, 4, (some .boolean))
def mt_To_cut : mt_T := (⟨"CheeseCellar$Tokens", "cut", "(LCheeseCellar$Tape;)V"⟩, prog_11_method_2_code, 5, none)
def mt_To_behindBlanks : mt_T := (⟨"CheeseCellar$Tokens", "behindBlanks", "(LCheeseCellar$Tape;I)I"⟩, prog_11_method_3_code, 3, (some .int))
def mt_Ta_byteAt : mt_T := (⟨"CheeseCellar$Tape", "byteAt", "(I)I"⟩, prog_10_method_3_code, 2, (some .int))
def mt_To_kindOf : mt_T := (⟨"CheeseCellar$Tokens", "kindOf", "(LCheeseCellar$Tape;I)I"⟩, prog_11_method_4_code, 4, (some .int))
def mt_To_lengthAt : mt_T := (⟨"CheeseCellar$Tokens", "lengthAt", "(LCheeseCellar$Tape;I)I"⟩, prog_11_method_5_code, 4, (some .int))
def mt_To_isSameSort : mt_T := (⟨"CheeseCellar$Tokens", "isSameSort", "(II)Z"⟩, prog_11_method_6_code, 2, (some .boolean))
def mt_To_isLetter : mt_T := (⟨"CheeseCellar$Tokens", "isLetter", "(I)Z"⟩, prog_11_method_10_code, 1, (some .boolean))
def mt_To_isDigit : mt_T := (⟨"CheeseCellar$Tokens", "isDigit", "(I)Z"⟩, prog_11_method_11_code, 1, (some .boolean))
def mt_To_wordAt : mt_T := (⟨"CheeseCellar$Tokens", "wordAt", "(LCheeseCellar$Tape;II)I"⟩, prog_11_method_8_code, 4, (some .int))
def mt_To_isWord : mt_T := (⟨"CheeseCellar$Tokens", "isWord", "(ILCheeseCellar$Tape;II)Z"⟩, prog_11_method_9_code, 6, (some .boolean))
def mt_To_isSign : mt_T := (⟨"CheeseCellar$Tokens", "isSign", "(I)Z"⟩, prog_11_method_12_code, 1, (some .boolean))
def mt_To_numberOf : mt_T := (⟨"CheeseCellar$Tokens", "numberOf", "(LCheeseCellar$Tape;I)I"⟩, prog_11_method_7_code, 4, (some .int))
def mt_Re_step : mt_T := (⟨"CheeseCellar$Reader", "step", "()V"⟩, prog_7_method_3_code, 1, none)
def mt_Or_clear : mt_T := (⟨"CheeseCellar$Orders", "clear", "()V"⟩, prog_5_method_2_code, 1, none)
def mt_Re_readLine : mt_T := (⟨"CheeseCellar$Reader", "readLine", "(LCheeseCellar$Orders;)Z"⟩, prog_7_method_6_code, 2, (some .boolean))
def mt_Re_pass : mt_T := (⟨"CheeseCellar$Reader", "pass", "(I)Z"⟩, prog_7_method_5_code, 2, (some .boolean))
def mt_Re_refuse : mt_T := (⟨"CheeseCellar$Reader", "refuse", "(I)Z"⟩, prog_7_method_4_code, 2, (some .boolean))
def mt_Re_readJoined : mt_T := (⟨"CheeseCellar$Reader", "readJoined", "(IILCheeseCellar$Orders;)Z"⟩, prog_7_method_7_code, 7, (some .boolean))
def mt_Re_readOne : mt_T := (⟨"CheeseCellar$Reader", "readOne", "(ILCheeseCellar$Orders;)Z"⟩, prog_7_method_9_code, 3, (some .boolean))
def mt_Or_addItem : mt_T := (⟨"CheeseCellar$Orders", "addItem", "(I)V"⟩, prog_5_method_3_code, 2, none)
def mt_Re_readComparison : mt_T := (⟨"CheeseCellar$Reader", "readComparison", "(ILCheeseCellar$Orders;)Z"⟩, prog_7_method_10_code, 4, (some .boolean))
def mt_Re_readTerm : mt_T := (⟨"CheeseCellar$Reader", "readTerm", "(ILCheeseCellar$Orders;)Z"⟩, prog_7_method_11_code, 5, (some .boolean))
def mt_Re_isJoint : mt_T := (⟨"CheeseCellar$Reader", "isJoint", "(I)Z"⟩, prog_7_method_8_code, 2, (some .boolean))
def mt_Or_closeLine : mt_T := (⟨"CheeseCellar$Orders", "closeLine", "(I)V"⟩, prog_5_method_4_code, 2, none)
def mt_K_fault : mt_T := (⟨"CheeseCellar", "fault", "(I)I"⟩, prog_1_method_10_code, 2, (some .int))
def mt_K_days : mt_T := (⟨"CheeseCellar", "days", "(I)I"⟩, prog_1_method_11_code, 4, (some .int))
def mt_JM_min : mt_T := (⟨"java/lang/Math", "min", "(II)I"⟩, prog_15_method_69_code, 2, (some .int))
def mt_K_passDay : mt_T := (⟨"CheeseCellar", "passDay", "()V"⟩, prog_1_method_37_code, 5, none)
def mt_Sh_airAt : mt_T := (⟨"CheeseCellar$Shelves", "airAt", "(I)I"⟩, prog_8_method_2_code, 2, (some .int))
def mt_Sh_dampAt : mt_T := (⟨"CheeseCellar$Shelves", "dampAt", "(I)I"⟩, prog_8_method_3_code, 2, (some .int))
def mt_Or_obeyFor : mt_T := (⟨"CheeseCellar$Orders", "obeyFor", "(LCheeseCellar$Wheel;III)V"⟩, prog_5_method_5_code, 7, none)
def mt_Or_nameThings : mt_T := (⟨"CheeseCellar$Orders", "nameThings", "(LCheeseCellar$Wheel;I)V"⟩, prog_5_method_6_code, 3, none)
def mt_Or_workOut : mt_T := (⟨"CheeseCellar$Orders", "workOut", "(II)I"⟩, prog_5_method_7_code, 5, (some .int))
def mt_Or_put : mt_T := (⟨"CheeseCellar$Orders", "put", "(I)V"⟩, prog_5_method_10_code, 2, none)
def mt_Or_applyToken : mt_T := (⟨"CheeseCellar$Orders", "applyToken", "(I)V"⟩, prog_5_method_8_code, 4, none)
def mt_Or_pick : mt_T := (⟨"CheeseCellar$Orders", "pick", "()I"⟩, prog_5_method_11_code, 1, (some .int))
def mt_Or_join : mt_T := (⟨"CheeseCellar$Orders", "join", "(III)I"⟩, prog_5_method_9_code, 3, (some .int))
def mt_Wh_doDeed : mt_T := (⟨"CheeseCellar$Wheel", "doDeed", "(I)V"⟩, prog_12_method_2_code, 2, none)
def mt_Wh_within : mt_T := (⟨"CheeseCellar$Wheel", "within", "(I)I"⟩, prog_12_method_5_code, 1, (some .int))
def mt_JM_max : mt_T := (⟨"java/lang/Math", "max", "(II)I"⟩, prog_15_method_65_code, 2, (some .int))
def mt_Wh_ripen : mt_T := (⟨"CheeseCellar$Wheel", "ripen", "(II)V"⟩, prog_12_method_3_code, 3, none)
def mt_Wh_ripeningBy : mt_T := (⟨"CheeseCellar$Wheel", "ripeningBy", "(II)I"⟩, prog_12_method_4_code, 3, (some .int))
def mt_K_of : mt_T := (⟨"CheeseCellar", "of", "(II)I"⟩, prog_1_method_12_code, 4, (some .int))
def mt_K_ageOf : mt_T := (⟨"CheeseCellar", "ageOf", "(LCheeseCellar$Wheel;)I"⟩, prog_1_method_30_code, 2, (some .int))
def mt_K_isSuited : mt_T := (⟨"CheeseCellar", "isSuited", "(LCheeseCellar$Wheel;I)Z"⟩, prog_1_method_31_code, 3, (some .boolean))
def mt_Ba_allow : mt_T := (⟨"CheeseCellar$Bands", "allow", "(III)Z"⟩, prog_2_method_4_code, 5, (some .boolean))
def mt_Ba_placeFor : mt_T := (⟨"CheeseCellar$Bands", "placeFor", "(II)I"⟩, prog_2_method_5_code, 6, (some .int))
def mt_K_from : mt_T := (⟨"CheeseCellar", "from", "(II)I"⟩, prog_1_method_13_code, 4, (some .int))
def mt_K_band : mt_T := (⟨"CheeseCellar", "band", "(IIII)I"⟩, prog_1_method_14_code, 6, (some .int))
def mt_Ba_haveRoomFor : mt_T := (⟨"CheeseCellar$Bands", "haveRoomFor", "(I)Z"⟩, prog_2_method_2_code, 2, (some .boolean))
def mt_Ba_keep : mt_T := (⟨"CheeseCellar$Bands", "keep", "(IIII)I"⟩, prog_2_method_3_code, 6, (some .int))
def mt_K_suits : mt_T := (⟨"CheeseCellar", "suits", "(II)I"⟩, prog_1_method_15_code, 4, (some .int))
def mt_K_move : mt_T := (⟨"CheeseCellar", "move", "(II)Z"⟩, prog_1_method_16_code, 4, (some .boolean))
def mt_K_takeTo : mt_T := (⟨"CheeseCellar", "takeTo", "(LCheeseCellar$Wheel;I)V"⟩, prog_1_method_36_code, 3, none)
def mt_K_plan : mt_T := (⟨"CheeseCellar", "plan", "()I"⟩, prog_1_method_17_code, 3, (some .int))
def mt_Pl_start : mt_T := (⟨"CheeseCellar$Planner", "start", "(LCheeseCellar$Shelves;)V"⟩, prog_6_method_2_code, 3, none)
def mt_JA_fill_J : mt_T := (⟨"java/util/Arrays", "fill", "([JJ)V"⟩, prog_19_method_101_code, 5, none)
def mt_Pl_isFull : mt_T := (⟨"CheeseCellar$Planner", "isFull", "()Z"⟩, prog_6_method_3_code, 1, (some .boolean))
def mt_K_askPlanFor : mt_T := (⟨"CheeseCellar", "askPlanFor", "(LCheeseCellar$Wheel;)V"⟩, prog_1_method_38_code, 3, none)
def mt_Pl_ask : mt_T := (⟨"CheeseCellar$Planner", "ask", "(II)V"⟩, prog_6_method_4_code, 3, none)
def mt_Pl_allowLast : mt_T := (⟨"CheeseCellar$Planner", "allowLast", "(I)V"⟩, prog_6_method_5_code, 6, none)
def mt_Pl_wayBetween : mt_T := (⟨"CheeseCellar$Planner", "wayBetween", "(II)I"⟩, prog_6_method_11_code, 4, (some .int))
def mt_JM_abs : mt_T := (⟨"java/lang/Math", "abs", "(I)I"⟩, prog_15_method_59_code, 1, (some .int))
def mt_Pl_findBest : mt_T := (⟨"CheeseCellar$Planner", "findBest", "()I"⟩, prog_6_method_6_code, 3, (some .int))
def mt_Pl_placeRow : mt_T := (⟨"CheeseCellar$Planner", "placeRow", "(I)Z"⟩, prog_6_method_13_code, 4, (some .boolean))
def mt_Pl_spread : mt_T := (⟨"CheeseCellar$Planner", "spread", "(I)Z"⟩, prog_6_method_14_code, 8, (some .boolean))
def mt_Pl_cheapestWithRoom : mt_T := (⟨"CheeseCellar$Planner", "cheapestWithRoom", "()I"⟩, prog_6_method_15_code, 3, (some .int))
def mt_Pl_shiftChain : mt_T := (⟨"CheeseCellar$Planner", "shiftChain", "(II)V"⟩, prog_6_method_16_code, 7, none)
def mt_Pl_keepPlan : mt_T := (⟨"CheeseCellar$Planner", "keepPlan", "()V"⟩, prog_6_method_12_code, 2, none)
def mt_JA_fill_I : mt_T := (⟨"java/util/Arrays", "fill", "([II)V"⟩, prog_19_method_103_code, 4, none)
def mt_K_planned : mt_T := (⟨"CheeseCellar", "planned", "(I)I"⟩, prog_1_method_18_code, 2, (some .int))
def mt_Pl_shelfFor : mt_T := (⟨"CheeseCellar$Planner", "shelfFor", "(I)I"⟩, prog_6_method_7_code, 2, (some .int))
def mt_K_carry : mt_T := (⟨"CheeseCellar", "carry", "()I"⟩, prog_1_method_19_code, 5, (some .int))
def mt_Pl_canBeCarried : mt_T := (⟨"CheeseCellar$Planner", "canBeCarried", "()Z"⟩, prog_6_method_8_code, 1, (some .boolean))
def mt_Pl_forget : mt_T := (⟨"CheeseCellar$Planner", "forget", "()V"⟩, prog_6_method_10_code, 1, none)
def mt_K_mark : mt_T := (⟨"CheeseCellar", "mark", "(III)I"⟩, prog_1_method_20_code, 5, (some .int))
def mt_Ma_areFull : mt_T := (⟨"CheeseCellar$Marks", "areFull", "()Z"⟩, prog_3_method_2_code, 1, (some .boolean))
def mt_Ma_keep : mt_T := (⟨"CheeseCellar$Marks", "keep", "(IIII)I"⟩, prog_3_method_3_code, 5, (some .int))
def mt_K_untell : mt_T := (⟨"CheeseCellar", "untell", "(I)Z"⟩, prog_1_method_21_code, 2, (some .boolean))
def mt_Ma_takeBack : mt_T := (⟨"CheeseCellar$Marks", "takeBack", "(II)Z"⟩, prog_3_method_4_code, 3, (some .boolean))
def mt_K_grade : mt_T := (⟨"CheeseCellar", "grade", "(II)I"⟩, prog_1_method_22_code, 3, (some .int))
def mt_Ma_middleOf : mt_T := (⟨"CheeseCellar$Marks", "middleOf", "(II)I"⟩, prog_3_method_5_code, 7, (some .int))
def mt_Ma_gatherLast : mt_T := (⟨"CheeseCellar$Marks", "gatherLast", "(II)I"⟩, prog_3_method_6_code, 5, (some .int))
def mt_Ma_isKnown : mt_T := (⟨"CheeseCellar$Marks", "isKnown", "(II)Z"⟩, prog_3_method_7_code, 3, (some .boolean))
def mt_Ma_gradersWith : mt_T := (⟨"CheeseCellar$Marks", "gradersWith", "(I)I"⟩, prog_3_method_8_code, 4, (some .int))
def mt_K_beside : mt_T := (⟨"CheeseCellar", "beside", "(II)I"⟩, prog_1_method_23_code, 5, (some .int))
def mt_St_besideAny : mt_T := (⟨"CheeseCellar$Stays", "besideAny", "(JI)J"⟩, prog_9_method_5_code, 7, (some .long))
def mt_St_besideStay : mt_T := (⟨"CheeseCellar$Stays", "besideStay", "(II)J"⟩, prog_9_method_6_code, 6, (some .long))
def mt_St_shareNight : mt_T := (⟨"CheeseCellar$Stays", "shareNight", "(III)Z"⟩, prog_9_method_7_code, 4, (some .boolean))
def mt_St_nightsUpTo : mt_T := (⟨"CheeseCellar$Stays", "nightsUpTo", "(II)I"⟩, prog_9_method_8_code, 3, (some .int))
def mt_K_reached : mt_T := (⟨"CheeseCellar", "reached", "(I)J"⟩, prog_1_method_24_code, 4, (some .long))
def mt_K_wheelsFrom : mt_T := (⟨"CheeseCellar", "wheelsFrom", "(I)J"⟩, prog_1_method_39_code, 6, (some .long))
def mt_K_about : mt_T := (⟨"CheeseCellar", "about", "(I)I"⟩, prog_1_method_25_code, 2, (some .int))
def mt_Mo_init : mt_T := (⟨"CheeseCellarModel", "<init>", "()V"⟩, prog_14_method_1_code, 1, none)
def mt_Mo_air : mt_T := (⟨"CheeseCellarModel", "air", "(II)Z"⟩, prog_14_method_3_code, 3, (some .boolean))
def mt_Mo_isShelf : mt_T := (⟨"CheeseCellarModel", "isShelf", "(I)Z"⟩, prog_14_method_2_code, 1, (some .boolean))
def mt_Mo_damp : mt_T := (⟨"CheeseCellarModel", "damp", "(II)Z"⟩, prog_14_method_4_code, 3, (some .boolean))
def mt_Mo_milk : mt_T := (⟨"CheeseCellarModel", "milk", "(II)I"⟩, prog_14_method_5_code, 3, (some .int))
def mt_Mo_wheel : mt_T := (⟨"CheeseCellarModel", "wheel", "(IIIIIIII)I"⟩, prog_14_method_10_code, 11, (some .int))
def mt_Mo_lying : mt_T := (⟨"CheeseCellarModel", "lying", "(I)I"⟩, prog_14_method_7_code, 4, (some .int))
def mt_Mo_canGive : mt_T := (⟨"CheeseCellarModel", "canGive", "(II)Z"⟩, prog_14_method_6_code, 3, (some .boolean))
def mt_Mo_give : mt_T := (⟨"CheeseCellarModel", "give", "(III)V"⟩, prog_14_method_8_code, 4, none)
def mt_Mo_lay : mt_T := (⟨"CheeseCellarModel", "lay", "(II)V"⟩, prog_14_method_9_code, 3, none)
def mt_Mo_sell : mt_T := (⟨"CheeseCellarModel", "sell", "(I)Z"⟩, prog_14_method_13_code, 2, (some .boolean))
def mt_Mo_lies : mt_T := (⟨"CheeseCellarModel", "lies", "(I)Z"⟩, prog_14_method_12_code, 2, (some .boolean))
def mt_Mo_isWheel : mt_T := (⟨"CheeseCellarModel", "isWheel", "(I)Z"⟩, prog_14_method_11_code, 2, (some .boolean))
def mt_Mo_feed : mt_T := (⟨"CheeseCellarModel", "feed", "(IIIII)I"⟩, prog_14_method_14_code, 6, (some .int))
def mt_Mo_four : mt_T := (⟨"CheeseCellarModel", "four", "(I)V"⟩, prog_14_method_15_code, 3, none)
def mt_Mo_end : mt_T := (⟨"CheeseCellarModel", "end", "(I)I"⟩, prog_14_method_16_code, 2, (some .int))
def mt_Mo_orders : mt_T := (⟨"CheeseCellarModel", "orders", "()I"⟩, prog_14_method_35_code, 2, (some .int))
def mt_Mo_next : mt_T := (⟨"CheeseCellarModel", "next", "()V"⟩, prog_14_method_21_code, 3, none)
def mt_Mo_here : mt_T := (⟨"CheeseCellarModel", "here", "(I)I"⟩, prog_14_method_17_code, 2, (some .int))
def mt_Mo_isLetter : mt_T := (⟨"CheeseCellarModel", "isLetter", "(I)Z"⟩, prog_14_method_18_code, 1, (some .boolean))
def mt_Mo_isDigit : mt_T := (⟨"CheeseCellarModel", "isDigit", "(I)Z"⟩, prog_14_method_19_code, 1, (some .boolean))
def mt_Mo_isSign : mt_T := (⟨"CheeseCellarModel", "isSign", "(I)Z"⟩, prog_14_method_20_code, 1, (some .boolean))
def mt_Mo_isWord : mt_T := (⟨"CheeseCellarModel", "isWord", "(J)Z"⟩, prog_14_method_23_code, 3, (some .boolean))
def mt_Mo_wrong : mt_T := (⟨"CheeseCellarModel", "wrong", "(I)V"⟩, prog_14_method_22_code, 2, none)
def mt_Mo_readE : mt_T := (⟨"CheeseCellarModel", "readE", "()V"⟩, prog_14_method_31_code, 2, none)
def mt_Mo_isOpen : mt_T := (⟨"CheeseCellarModel", "isOpen", "()Z"⟩, prog_14_method_30_code, 3, (some .boolean))
def mt_Mo_sign : mt_T := (⟨"CheeseCellarModel", "sign", "()I"⟩, prog_14_method_33_code, 2, (some .int))
def mt_Mo_settle : mt_T := (⟨"CheeseCellarModel", "settle", "(I)V"⟩, prog_14_method_29_code, 2, none)
def mt_Mo_pop : mt_T := (⟨"CheeseCellarModel", "pop", "()V"⟩, prog_14_method_28_code, 1, none)
def mt_Mo_step : mt_T := (⟨"CheeseCellarModel", "step", "(II)V"⟩, prog_14_method_26_code, 3, none)
def mt_Mo_hold : mt_T := (⟨"CheeseCellarModel", "hold", "(I)V"⟩, prog_14_method_27_code, 2, none)
def mt_Mo_settleOnes : mt_T := (⟨"CheeseCellarModel", "settleOnes", "(Z)V"⟩, prog_14_method_34_code, 4, none)
def mt_Mo_operand : mt_T := (⟨"CheeseCellarModel", "operand", "(I)I"⟩, prog_14_method_32_code, 4, (some .int))
def mt_Mo_isKey : mt_T := (⟨"CheeseCellarModel", "isKey", "()Z"⟩, prog_14_method_24_code, 1, (some .boolean))
def mt_Mo_named : mt_T := (⟨"CheeseCellarModel", "named", "()I"⟩, prog_14_method_25_code, 1, (some .int))
def mt_Mo_fault : mt_T := (⟨"CheeseCellarModel", "fault", "(I)I"⟩, prog_14_method_36_code, 2, (some .int))
def mt_Mo_days : mt_T := (⟨"CheeseCellarModel", "days", "(I)I"⟩, prog_14_method_41_code, 4, (some .int))
def mt_Mo_care : mt_T := (⟨"CheeseCellarModel", "care", "(I)V"⟩, prog_14_method_40_code, 4, none)
def mt_Mo_tell : mt_T := (⟨"CheeseCellarModel", "tell", "(I)V"⟩, prog_14_method_38_code, 3, none)
def mt_Mo_holds : mt_T := (⟨"CheeseCellarModel", "holds", "(I)Z"⟩, prog_14_method_37_code, 7, (some .boolean))
def mt_Mo_within : mt_T := (⟨"CheeseCellarModel", "within", "(I)I"⟩, prog_14_method_39_code, 1, (some .int))
def mt_Mo_of : mt_T := (⟨"CheeseCellarModel", "of", "(II)I"⟩, prog_14_method_42_code, 3, (some .int))
def mt_Mo_doesSuit : mt_T := (⟨"CheeseCellarModel", "doesSuit", "(II)Z"⟩, prog_14_method_45_code, 6, (some .boolean))
def mt_Mo_from : mt_T := (⟨"CheeseCellarModel", "from", "(II)I"⟩, prog_14_method_43_code, 3, (some .int))
def mt_Mo_band : mt_T := (⟨"CheeseCellarModel", "band", "(IIII)I"⟩, prog_14_method_44_code, 6, (some .int))
def mt_Mo_suits : mt_T := (⟨"CheeseCellarModel", "suits", "(II)I"⟩, prog_14_method_46_code, 3, (some .int))
def mt_Mo_move : mt_T := (⟨"CheeseCellarModel", "move", "(II)Z"⟩, prog_14_method_48_code, 3, (some .boolean))
def mt_Mo_go : mt_T := (⟨"CheeseCellarModel", "go", "(II)V"⟩, prog_14_method_47_code, 3, none)
def mt_Mo_plan : mt_T := (⟨"CheeseCellarModel", "plan", "()I"⟩, prog_14_method_55_code, 8, (some .int))
def mt_Mo_seek : mt_T := (⟨"CheeseCellarModel", "seek", "()Z"⟩, prog_14_method_54_code, 12, (some .boolean))
def mt_Mo_costOf : mt_T := (⟨"CheeseCellarModel", "costOf", "(II)J"⟩, prog_14_method_50_code, 9, (some .long))
def mt_Mo_far : mt_T := (⟨"CheeseCellarModel", "far", "(II)I"⟩, prog_14_method_49_code, 2, (some .int))
def mt_Mo_many : mt_T := (⟨"CheeseCellarModel", "many", "(I)I"⟩, prog_14_method_52_code, 3, (some .int))
def mt_Mo_onOne : mt_T := (⟨"CheeseCellarModel", "onOne", "(II)J"⟩, prog_14_method_53_code, 8, (some .long))
def mt_Mo_isIn : mt_T := (⟨"CheeseCellarModel", "isIn", "(II)Z"⟩, prog_14_method_51_code, 3, (some .boolean))
def mt_Mo_planned : mt_T := (⟨"CheeseCellarModel", "planned", "(I)I"⟩, prog_14_method_56_code, 3, (some .int))
def mt_Mo_carry : mt_T := (⟨"CheeseCellarModel", "carry", "()I"⟩, prog_14_method_57_code, 2, (some .int))
def mt_Mo_mark : mt_T := (⟨"CheeseCellarModel", "mark", "(III)I"⟩, prog_14_method_58_code, 4, (some .int))
def mt_Mo_untell : mt_T := (⟨"CheeseCellarModel", "untell", "(I)Z"⟩, prog_14_method_59_code, 2, (some .boolean))
def mt_Mo_grade : mt_T := (⟨"CheeseCellarModel", "grade", "(II)I"⟩, prog_14_method_60_code, 7, (some .int))
def mt_Mo_beside : mt_T := (⟨"CheeseCellarModel", "beside", "(II)I"⟩, prog_14_method_62_code, 3, (some .int))
def mt_Mo_layBeside : mt_T := (⟨"CheeseCellarModel", "layBeside", "(II)Z"⟩, prog_14_method_61_code, 8, (some .boolean))
def mt_Mo_reached : mt_T := (⟨"CheeseCellarModel", "reached", "(I)J"⟩, prog_14_method_63_code, 7, (some .long))
def mt_Mo_about : mt_T := (⟨"CheeseCellarModel", "about", "(I)I"⟩, prog_14_method_64_code, 2, (some .int))
def mt_Law : mt_T := (x, code, 4, ret)
