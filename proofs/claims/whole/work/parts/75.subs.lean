/-! ===== sets as bits ===== -/
theorem ia_n {x y : Nat} (hx : x < 2147483648) (hy : y < 2147483648) : b_iand (x : Int) (y : Int) = ((x &&& y : Nat) : Int) := by
  unfold b_iand
  have hl : x &&& y ≤ x := Nat.and_le_left
  have e : (Int32.ofInt (x : Int) &&& Int32.ofInt (y : Int)).toBitVec.toNat = x &&& y := by
    rw [Int32.toBitVec_and, BitVec.toNat_and, Int32.toBitVec_ofInt, Int32.toBitVec_ofInt, BitVec.toNat_ofInt, BitVec.toNat_ofInt]
    have e1 : ((x : Int) % ((2 ^ 32 : Nat) : Int)).toNat = x := by omega
    have e2 : ((y : Int) % ((2 ^ 32 : Nat) : Int)).toNat = y := by omega
    rw [e1, e2]
  rw [← Int32.toInt_toBitVec, BitVec.toInt_eq_toNat_of_lt (by omega), e]
def rmv (x p : Nat) : Nat := x &&& (x ^^^ p)
theorem rmv_le (x p : Nat) : rmv x p ≤ x := Nat.and_le_left
theorem rmv_b (x p k : Nat) : Nat.testBit (rmv x p) k = (Nat.testBit x k && !Nat.testBit p k) := by
  unfold rmv
  rw [Nat.testBit_and, Nat.testBit_xor]
  cases Nat.testBit x k <;> cases Nat.testBit p k <;> rfl
theorem ia_rm {x p : Nat} (hx : x < 2147483648) (hp : p < 2147483648) : b_iand (x : Int) (b_ixor (p : Int) (-1)) = ((rmv x p : Nat) : Int) := by
  unfold b_iand b_ixor
  rw [Int32.ofInt_toInt]
  have hl := rmv_le x p
  have e : (Int32.ofInt (x : Int) &&& (Int32.ofInt (p : Int) ^^^ Int32.ofInt (-1))).toBitVec = BitVec.ofNat 32 (rmv x p) := by
    rw [Int32.toBitVec_and, Int32.toBitVec_xor, Int32.toBitVec_ofInt, Int32.toBitVec_ofInt, Int32.toBitVec_ofInt]
    have h1 : BitVec.ofInt 32 (-1) = BitVec.allOnes 32 := by decide
    have hX : BitVec.ofInt 32 (x : Int) = BitVec.ofNat 32 x := BitVec.ofInt_natCast ..
    have hP : BitVec.ofInt 32 (p : Int) = BitVec.ofNat 32 p := BitVec.ofInt_natCast ..
    rw [h1, hX, hP]
    apply BitVec.eq_of_getLsbD_eq
    intro i hi
    rw [BitVec.getLsbD_and, BitVec.getLsbD_xor, BitVec.getLsbD_ofNat, BitVec.getLsbD_ofNat, BitVec.getLsbD_ofNat, BitVec.getLsbD_allOnes, rmv_b]
    simp only [hi, decide_true, Bool.true_and]
    cases Nat.testBit x i <;> cases Nat.testBit p i <;> rfl
  rw [← Int32.toInt_toBitVec, e, BitVec.toInt_eq_toNat_of_lt (by rw [BitVec.toNat_ofNat, Nat.mod_eq_of_lt (by omega)]; omega), BitVec.toNat_ofNat, Nat.mod_eq_of_lt (by omega)]
/-- the set before, among the parts of x -/
theorem sb_lt {p x : Nat} (hp : 0 < p) : (p - 1) &&& x < p := by have : (p - 1) &&& x ≤ p - 1 := Nat.and_le_left; omega
theorem sb_in (p x : Nat) : ((p - 1) &&& x) &&& x = (p - 1) &&& x := by rw [Nat.and_assoc, Nat.and_self]
theorem md2 (a b : Nat) : (a &&& b) % 2 = if a % 2 = 1 ∧ b % 2 = 1 then 1 else 0 := by
  have h := @Nat.and_mod_two_eq_one a b
  split
  · next q => exact h.mpr q
  · next q => have : ¬ (a &&& b) % 2 = 1 := fun z => q (h.mp z); omega
theorem sb_le : ∀ (n p x r : Nat), p ≤ n → p &&& x = p → r &&& x = r → r < p → r ≤ (p - 1) &&& x := by
  intro n
  induction n with
  | zero => intro p x r h; omega
  | succ n ih =>
    intro p x r hn hp hr hlt
    have d1 := congrArg (· / 2) hp
    have d2 := congrArg (· / 2) hr
    simp only [Nat.and_div_two] at d1 d2
    have m1 := congrArg (· % 2) hp
    have m2 := congrArg (· % 2) hr
    simp only [md2] at m1 m2
    have key : (p - 1) &&& x = 2 * ((p - 1) / 2 &&& x / 2) + ((p - 1) &&& x) % 2 := by
      have := Nat.div_add_mod ((p - 1) &&& x) 2
      rw [Nat.and_div_two] at this; omega
    rw [key, md2]
    by_cases po : p % 2 = 1
    · rw [show (p - 1) / 2 = p / 2 by omega, d1]
      omega
    · have i1 := ih ((p - 1) / 2 + 1) (x / 2) (r / 2) (by omega) (by rw [show (p - 1) / 2 + 1 = p / 2 by omega]; exact d1) d2 (by omega)
      rw [show (p - 1) / 2 + 1 - 1 = (p - 1) / 2 by omega] at i1
      by_cases rr : r % 2 = 1
      · have hx1 : x % 2 = 1 := by
          by_cases q : r % 2 = 1 ∧ x % 2 = 1
          · exact q.2
          · rw [if_neg q] at m2; omega
        rw [if_pos ⟨by omega, hx1⟩]; omega
      · split <;> omega
/-- a set of those of which f says so -/
def mk_m (f : Nat → Bool) : Nat → Nat
  | 0 => 0
  | k + 1 => if f k then 2 ^ k + mk_m f k else mk_m f k
theorem mk_lt (f : Nat → Bool) : ∀ n, mk_m f n < 2 ^ n := by
  intro n
  induction n with
  | zero => exact Nat.lt_succ_self 0
  | succ n ih => rw [mk_m, Nat.pow_succ]; split <;> omega
theorem mk_b (f : Nat → Bool) : ∀ n k, Nat.testBit (mk_m f n) k = (decide (k < n) && f k) := by
  intro n
  induction n with
  | zero => intro k; rw [mk_m, Nat.zero_testBit]; simp
  | succ n ih =>
    intro k
    have hl := mk_lt f n
    rw [mk_m]
    by_cases hf : f n = true
    · rw [if_pos hf]
      by_cases e : k = n
      · subst e
        rw [Nat.testBit_two_pow_add_eq, ih, hf]; simp
      · by_cases hk : k < n
        · rw [Nat.testBit_two_pow_add_gt hk, ih]; simp [hk, show k < n + 1 by omega]
        · rw [Nat.testBit_lt_two_pow (by have : 2 ^ (n + 1) ≤ 2 ^ k := Nat.pow_le_pow_right (by omega) (by omega); rw [Nat.pow_succ] at this; omega)]
          simp [show ¬ k < n + 1 by omega]
    · rw [if_neg hf, ih]
      by_cases e : k = n
      · subst e; simp [hf]
      · by_cases hk : k < n
        · simp [hk, show k < n + 1 by omega]
        · simp [hk, show ¬ k < n + 1 by omega]
theorem sb_bits {p x : Nat} : p &&& x = p ↔ ∀ k, Nat.testBit p k = true → Nat.testBit x k = true := by
  constructor
  · intro h k hk
    have := congrArg (fun z => Nat.testBit z k) h
    simp only [Nat.testBit_and] at this
    rw [hk] at this; simpa using this
  · intro h
    apply Nat.eq_of_testBit_eq
    intro k
    rw [Nat.testBit_and]
    cases hk : Nat.testBit p k with
    | false => rfl
    | true => rw [h k hk]; rfl
theorem bit_out {x n k : Nat} (hx : x < 2 ^ n) (hk : n ≤ k) : Nat.testBit x k = false := Nat.testBit_lt_two_pow (Nat.lt_of_lt_of_le hx (Nat.pow_le_pow_right (by omega) hk))
theorem all_b {n k : Nat} (hk : k < n) : Nat.testBit (2 ^ n - 1) k = true := by rw [Nat.testBit_two_pow_sub_one]; simpa using hk
theorem shl_t : ∀ n : Fin 11, b_ishl 1 (n.val : Int) - 1 = ((2 ^ n.val - 1 : Nat) : Int) := by decide +kernel
