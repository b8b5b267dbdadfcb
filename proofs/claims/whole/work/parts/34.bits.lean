/-! ===== bits of numbers ===== -/
def bt (x : Int32) (i : Nat) : Bool := x.toBitVec.getLsbD i
theorem bt_and (x y : Int32) (i : Nat) : bt (x &&& y) i = (bt x i && bt y i) := by
  unfold bt
  rw [Int32.toBitVec_and, BitVec.getLsbD_and]
theorem bt_or (x y : Int32) (i : Nat) : bt (x ||| y) i = (bt x i || bt y i) := by
  unfold bt
  rw [Int32.toBitVec_or, BitVec.getLsbD_or]
theorem bt_xor (x y : Int32) (i : Nat) : bt (x ^^^ y) i = (bt x i ^^ bt y i) := by
  unfold bt
  rw [Int32.toBitVec_xor, BitVec.getLsbD_xor]
theorem bt_hi (x : Int32) {i : Nat} (h : 32 ≤ i) : bt x i = false := BitVec.getLsbD_of_ge _ _ h
theorem bt_0 (i : Nat) : bt 0 i = false := by
  unfold bt
  exact BitVec.getLsbD_zero
theorem bt_m1 {i : Nat} (h : i < 32) : bt (-1) i = true := by
  unfold bt
  rw [show (-1 : Int32).toBitVec = BitVec.allOnes 32 from by decide, BitVec.getLsbD_allOnes]
  exact decide_eq_true h
theorem bt_com (x : Int32) {i : Nat} (h : i < 32) : bt (zcom x) i = !bt x i := by
  unfold zcom
  rw [bt_xor, bt_m1 h, Bool.xor_true]
theorem bt_ext {x y : Int32} (h : ∀ i, i < 32 → bt x i = bt y i) : x = y := by
  apply Int32.toBitVec_inj.mp
  apply BitVec.eq_of_getLsbD_eq
  intro i hi
  exact h i hi
theorem nI_bv (n : Nat) : (nI n).toBitVec = BitVec.ofNat 32 n := rfl
theorem bt_nI (n i : Nat) (h : i < 32) : bt (nI n) i = n.testBit i := by
  unfold bt
  rw [nI_bv, BitVec.getLsbD_ofNat, decide_eq_true h, Bool.true_and]
theorem sh_amt : ∀ k, k < 32 → ((nI k &&& 31).toBitVec.smod 32).toNat = k := by decide +kernel
theorem bt_shl (x : Int32) {k i : Nat} (hk : k < 32) (hi : i < 32) : bt (zshl x (nI k)) i = (decide (k ≤ i) && bt x (i - k)) := by
  unfold bt zshl
  rw [Int32.toBitVec_shiftLeft]
  show (x.toBitVec <<< ((nI k &&& 31).toBitVec.smod 32).toNat).getLsbD i = _
  rw [sh_amt k hk, BitVec.getLsbD_shiftLeft, decide_eq_true hi, Bool.true_and]
  by_cases h : i < k
  · rw [decide_eq_true h, decide_eq_false (by omega)]
    rfl
  · rw [decide_eq_false h, decide_eq_true (by omega)]
    rfl
theorem bt_shr (x : Int32) {k i : Nat} (hk : k + i < 32) : bt (zshr x (nI k)) i = bt x (k + i) := by
  unfold bt zshr
  rw [Int32.toBitVec_shiftRight]
  show (x.toBitVec.sshiftRight ((nI k &&& 31).toBitVec.smod 32).toNat).getLsbD i = _
  rw [sh_amt k (by omega), BitVec.getLsbD_sshiftRight, if_pos hk, decide_eq_false (by omega)]
  rfl
theorem bt_shrH (x : Int32) {k i : Nat} (hk : k < 32) (hi : i < 32) (h : 32 ≤ k + i) : bt (zshr x (nI k)) i = bt x 31 := by
  unfold bt zshr
  rw [Int32.toBitVec_shiftRight]
  show (x.toBitVec.sshiftRight ((nI k &&& 31).toBitVec.smod 32).toNat).getLsbD i = _
  rw [sh_amt k hk, BitVec.getLsbD_sshiftRight, if_neg (by omega), decide_eq_false (by omega)]
  rfl
theorem bt_1L : ∀ i, i < 32 → bt 1 i = decide (i = 0) := by decide +kernel
theorem bt_1 (i : Nat) : bt 1 i = decide (i = 0) := by
  by_cases hi : i < 32
  · exact bt_1L i hi
  · rw [bt_hi _ (by omega), decide_eq_false (by omega)]
theorem bt_one {k i : Nat} (hk : k < 32) (hi : i < 32) : bt (zshl 1 (nI k)) i = decide (i = k) := by
  rw [bt_shl _ hk hi, bt_1]
  by_cases h : i = k
  · rw [decide_eq_true h, decide_eq_true (by omega : k ≤ i), decide_eq_true (by omega : i - k = 0)]
    rfl
  · rw [decide_eq_false h]
    by_cases h2 : k ≤ i
    · rw [decide_eq_false (by omega : ¬ i - k = 0), Bool.and_false]
    · rw [decide_eq_false h2, Bool.false_and]
def bI (b : Bool) : Int32 := if b = true then 1 else 0
theorem bt_bI (b : Bool) (i : Nat) : bt (bI b) i = (b && decide (i = 0)) := by
  cases b
  · rw [Bool.false_and]
    exact bt_0 i
  · rw [Bool.true_and]
    exact bt_1 i
theorem m_bit_bt (x : Int32) {k : Nat} (hk : k < 32) : zshr x (nI k) &&& 1 = bI (bt x k) := by
  apply bt_ext
  intro i hi
  rw [bt_and, bt_1, bt_bI]
  by_cases h : i = 0
  · subst h
    rw [bt_shr x (by omega), Nat.add_zero]
  · rw [decide_eq_false h, Bool.and_false, Bool.and_false]
theorem m_bit1 (x : Int32) {k : Nat} (hk : k < 32) : m_bit x (nI k) = 1 ↔ bt x k = true := by
  unfold m_bit
  rw [m_bit_bt x hk]
  cases bt x k <;> decide
/-- a set of the nine -/
def s9 (x : Int32) : Prop := ∀ i, 9 ≤ i → bt x i = false
theorem s9_ext {x y : Int32} (hx : s9 x) (hy : s9 y) (h : ∀ i, i < 9 → bt x i = bt y i) : x = y := by
  apply bt_ext
  intro i _
  by_cases h9 : i < 9
  · exact h i h9
  · rw [hx i (by omega), hy i (by omega)]
theorem s9_nI {n : Nat} (h : n < 512) : s9 (nI n) := by
  intro i hi
  by_cases h32 : i < 32
  · rw [bt_nI _ _ h32]
    exact Nat.testBit_lt_two_pow (Nat.lt_of_lt_of_le h (Nat.pow_le_pow_right (n := 2) (i := 9) (by decide) hi))
  · exact bt_hi _ (by omega)
theorem s9_of {x : Int32} (h : s9 x) : ∃ n, n < 512 ∧ x = nI n := by
  have e : x = nI (x.toBitVec.toNat % 512) := by
    apply bt_ext
    intro i hi
    rw [bt_nI _ _ hi, show (512 : Nat) = 2 ^ 9 from rfl, Nat.testBit_mod_two_pow]
    by_cases h9 : i < 9
    · rw [decide_eq_true h9, Bool.true_and]
      rfl
    · rw [decide_eq_false h9, Bool.false_and, h i (by omega)]
  exact ⟨_, Nat.mod_lt _ (by decide), e⟩
theorem s9_0 : s9 0 := fun i _ => bt_0 i
theorem s9_and {x y : Int32} (h : s9 x) : s9 (x &&& y) := fun i hi => by rw [bt_and, h i hi, Bool.false_and]
theorem s9_andr {x y : Int32} (h : s9 y) : s9 (x &&& y) := fun i hi => by rw [bt_and, h i hi, Bool.and_false]
theorem s9_or {x y : Int32} (h : s9 x) (h2 : s9 y) : s9 (x ||| y) := fun i hi => by rw [bt_or, h i hi, h2 i hi]; rfl
theorem s9_xor {x y : Int32} (h : s9 x) (h2 : s9 y) : s9 (x ^^^ y) := fun i hi => by rw [bt_xor, h i hi, h2 i hi]; rfl
theorem s9_one {k : Nat} (h : k < 9) : s9 (zshl 1 (nI k)) := fun i hi => by
  by_cases h32 : i < 32
  · rw [bt_one (by omega) h32, decide_eq_false (by omega)]
  · exact bt_hi _ (by omega)
theorem s9_bits : ∀ n, n < 512 → zbc (nI n) = m_bits (nI n) 9 := by decide +kernel
theorem zbc_bits {x : Int32} (h : s9 x) : zbc x = m_bits x 9 := by
  obtain ⟨n, hn, rfl⟩ := s9_of h
  exact s9_bits n hn
theorem bits_le : ∀ n, n < 512 → ∃ c, c ≤ 9 ∧ m_bits (nI n) 9 = nI c := by
  have h : ∀ n, n < 512 → (m_bits (nI n) 9).toNatClampNeg ≤ 9 ∧ m_bits (nI n) 9 = nI (m_bits (nI n) 9).toNatClampNeg := by decide +kernel
  exact fun n hn => ⟨_, h n hn⟩
theorem bits_9 {x : Int32} (h : s9 x) : ∃ c, c ≤ 9 ∧ m_bits x 9 = nI c := by
  obtain ⟨n, hn, rfl⟩ := s9_of h
  exact bits_le n hn
theorem tb_eq : ∀ b, b < 9 → x_tb (nI b) = m_tb (nI b) 9 := by decide +kernel
