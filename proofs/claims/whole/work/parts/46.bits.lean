/-! sets as natural numbers, bit by bit -/
theorem i32_n (n : Nat) : i32 (n : Int) = nI n := by
  unfold i32 nI
  exact Int32.ofInt_eq_ofNat
theorem sh_amt : ∀ k : Fin 32, ((nI k.val &&& 31).toBitVec.smod 32).toNat = k.val := by decide +kernel
theorem bt_n {n k : Nat} (hn : n < 2 ^ 31) (hk : k < 31) : bt (n : Int) (k : Int) = n.testBit k := by
  have h1 := sh_amt ⟨k, by omega⟩
  have e1 : ishr (n : Int) (k : Int) = ((n / 2 ^ k : Nat) : Int) := by
    unfold ishr
    rw [i32_n, i32_n, pk_shrN hn _ k h1, nI_toInt (Nat.lt_of_le_of_lt (Nat.div_le_self _ _) hn)]
  have e2 : iand ((n / 2 ^ k : Nat) : Int) 1 = ((n / 2 ^ k % 2 : Nat) : Int) := by
    have hlt : n / 2 ^ k < 2 ^ 31 := Nat.lt_of_le_of_lt (Nat.div_le_self _ _) hn
    unfold iand
    rw [i32_n, show i32 1 = (1 : Int32) by decide +kernel, pk_andN (m := 1) (Nat.lt_trans hlt (by decide)) 1 (by decide), nI_toInt (by omega)]
  unfold bt
  rw [e1, e2, Nat.testBit_eq_decide_div_mod_eq]
  congr 1
  apply propext
  constructor <;> intro h <;> omega
theorem bv_and (a b : Nat) : BitVec.ofNat 32 a &&& BitVec.ofNat 32 b = BitVec.ofNat 32 (a &&& b) := by
  apply BitVec.eq_of_getLsbD_eq
  intro i hi
  simp [BitVec.getLsbD_ofNat, hi]
theorem bv_or (a b : Nat) : BitVec.ofNat 32 a ||| BitVec.ofNat 32 b = BitVec.ofNat 32 (a ||| b) := by
  apply BitVec.eq_of_getLsbD_eq
  intro i hi
  simp [BitVec.getLsbD_ofNat, hi]
theorem ior_n {a b : Nat} (ha : a < 2 ^ 31) (hb : b < 2 ^ 31) : ior (a : Int) (b : Int) = ((a ||| b : Nat) : Int) := by
  unfold ior
  rw [i32_n, i32_n]
  have : nI a ||| nI b = nI (a ||| b) := Int32.toBitVec_inj.mp (bv_or a b)
  rw [this, nI_toInt (Nat.or_lt_two_pow ha hb)]
theorem iand_n {a b : Nat} (ha : a < 2 ^ 31) (hb : b < 2 ^ 31) : iand (a : Int) (b : Int) = ((a &&& b : Nat) : Int) := by
  unfold iand
  rw [i32_n, i32_n]
  have : nI a &&& nI b = nI (a &&& b) := Int32.toBitVec_inj.mp (bv_and a b)
  rw [this, nI_toInt (Nat.lt_of_le_of_lt Nat.and_le_left ha)]
theorem shl1_n : ∀ k : Fin 31, ishl 1 (k.val : Int) = ((2 ^ k.val : Nat) : Int) := by decide +kernel
theorem andn_n {a b : Nat} (ha : a < 2 ^ 31) (hb : b < 2 ^ 31) : ∃ r : Nat, r < 2 ^ 31 ∧ r ≤ a ∧ iand (a : Int) (ixor (b : Int) (-1)) = (r : Int) ∧ ∀ k, k < 31 → r.testBit k = (a.testBit k && !b.testBit k) := by
  refine ⟨(BitVec.ofNat 32 a &&& (BitVec.ofNat 32 b ^^^ BitVec.allOnes 32)).toNat, ?_, ?_, ?_, ?_⟩
  · rw [BitVec.toNat_and, BitVec.toNat_ofNat, Nat.mod_eq_of_lt (by omega)]
    exact Nat.lt_of_le_of_lt Nat.and_le_left ha
  · rw [BitVec.toNat_and, BitVec.toNat_ofNat, Nat.mod_eq_of_lt (by omega)]
    exact Nat.and_le_left
  · unfold iand ixor
    have e1 : i32 ((i32 (b : Int) ^^^ i32 (-1)).toInt) = i32 (b : Int) ^^^ i32 (-1) := i32_of _
    rw [e1, i32_n, i32_n]
    have e2 : (i32 (-1)).toBitVec = BitVec.allOnes 32 := by decide +kernel
    have e3 : (nI a &&& (nI b ^^^ i32 (-1))).toBitVec = BitVec.ofNat 32 a &&& (BitVec.ofNat 32 b ^^^ BitVec.allOnes 32) := by
      show (nI a).toBitVec &&& ((nI b).toBitVec ^^^ (i32 (-1)).toBitVec) = _
      rw [e2]
      rfl
    show (nI a &&& (nI b ^^^ i32 (-1))).toBitVec.toInt = _
    rw [e3, BitVec.toInt_eq_toNat_of_lt]
    rw [BitVec.toNat_and, BitVec.toNat_ofNat, Nat.mod_eq_of_lt (by omega)]
    have := Nat.and_le_left (n := a) (m := (BitVec.ofNat 32 b ^^^ BitVec.allOnes 32).toNat)
    omega
  · intro k hk
    rw [BitVec.testBit_toNat, BitVec.getLsbD_and, BitVec.getLsbD_xor, BitVec.getLsbD_ofNat, BitVec.getLsbD_ofNat, BitVec.getLsbD_allOnes]
    have : decide (k < 32) = true := by simp; omega
    simp [this]
/-- a number below 2^31 by its bits -/
theorem nat_of {x : Int} (h0 : 0 ≤ x) (h1 : x < 2147483648) : ∃ n : Nat, n < 2 ^ 31 ∧ x = (n : Int) := ⟨x.toNat, by omega, by omega⟩
theorem bt_or {u b k : Int} (h0 : 0 ≤ u) (h1 : u < 2147483648) (b0 : 0 ≤ b) (b1 : b < 31) (k0 : 0 ≤ k) (k1 : k < 31) : bt (ior u (ishl 1 b)) k = (bt u k || decide (k = b)) := by
  obtain ⟨n, hn, rfl⟩ := nat_of h0 h1
  obtain ⟨c, rfl⟩ : ∃ c : Nat, b = (c : Int) := ⟨b.toNat, by omega⟩
  obtain ⟨d, rfl⟩ : ∃ d : Nat, k = (d : Int) := ⟨k.toNat, by omega⟩
  have e := shl1_n ⟨c, by omega⟩
  dsimp only at e
  have hp : 2 ^ c < 2 ^ 31 := Nat.pow_lt_pow_right (by decide) (by omega)
  rw [e, ior_n hn hp, bt_n (Nat.or_lt_two_pow hn hp) (by omega), bt_n hn (by omega), Nat.testBit_or, Nat.testBit_two_pow]
  congr 1
  rw [decide_eq_decide]
  omega
theorem bt_andn {u d k : Int} (h0 : 0 ≤ u) (h1 : u < 2147483648) (d0 : 0 ≤ d) (d1 : d < 2147483648) (k0 : 0 ≤ k) (k1 : k < 31) : bt (iand u (ixor d (-1))) k = (bt u k && !bt d k) := by
  obtain ⟨n, hn, rfl⟩ := nat_of h0 h1
  obtain ⟨e, he, rfl⟩ := nat_of d0 d1
  obtain ⟨c, rfl⟩ : ∃ c : Nat, k = (c : Int) := ⟨k.toNat, by omega⟩
  obtain ⟨r, r1, -, r2, r3⟩ := andn_n hn he
  rw [r2, bt_n r1 (by omega), bt_n hn (by omega), bt_n he (by omega)]
  exact r3 c (by omega)
theorem andn_bd {u d : Int} (h0 : 0 ≤ u) (h1 : u < 2147483648) (d0 : 0 ≤ d) (d1 : d < 2147483648) : 0 ≤ iand u (ixor d (-1)) ∧ iand u (ixor d (-1)) ≤ u := by
  obtain ⟨n, hn, rfl⟩ := nat_of h0 h1
  obtain ⟨e, he, rfl⟩ := nat_of d0 d1
  obtain ⟨r, r1, r0, r2, r3⟩ := andn_n hn he
  rw [r2]
  omega
theorem bt_and {u d k : Int} (h0 : 0 ≤ u) (h1 : u < 2147483648) (d0 : 0 ≤ d) (d1 : d < 2147483648) (k0 : 0 ≤ k) (k1 : k < 31) : bt (iand u d) k = (bt u k && bt d k) := by
  obtain ⟨n, hn, rfl⟩ := nat_of h0 h1
  obtain ⟨e, he, rfl⟩ := nat_of d0 d1
  obtain ⟨c, rfl⟩ : ∃ c : Nat, k = (c : Int) := ⟨k.toNat, by omega⟩
  rw [iand_n hn he, bt_n (Nat.lt_of_le_of_lt Nat.and_le_left hn) (by omega), bt_n hn (by omega), bt_n he (by omega), Nat.testBit_and]
theorem iand_bd {u d : Int} (h0 : 0 ≤ u) (h1 : u < 2147483648) (d0 : 0 ≤ d) (d1 : d < 2147483648) : 0 ≤ iand u d ∧ iand u d ≤ u ∧ iand u d ≤ d := by
  obtain ⟨n, hn, rfl⟩ := nat_of h0 h1
  obtain ⟨e, he, rfl⟩ := nat_of d0 d1
  rw [iand_n hn he]
  have := Nat.and_le_left (n := n) (m := e)
  have := Nat.and_le_right (n := n) (m := e)
  omega
theorem iand_comm (x y : Int) : iand x y = iand y x := by
  unfold iand
  rw [Int32.and_comm]
theorem bt_ext {u d : Int} (h0 : 0 ≤ u) (h1 : u < 2147483648) (d0 : 0 ≤ d) (d1 : d < 2147483648) (h : ∀ k, 0 ≤ k → k < 31 → bt u k = bt d k) : u = d := by
  obtain ⟨n, hn, rfl⟩ := nat_of h0 h1
  obtain ⟨e, he, rfl⟩ := nat_of d0 d1
  congr 1
  apply Nat.eq_of_testBit_eq
  intro i
  by_cases hi : i < 31
  · have := h (i : Int) (by omega) (by omega)
    rwa [bt_n hn hi, bt_n he hi] at this
  · rw [Nat.testBit_lt_two_pow (Nat.lt_of_lt_of_le hn (Nat.pow_le_pow_right (by decide) (by omega))), Nat.testBit_lt_two_pow (Nat.lt_of_lt_of_le he (Nat.pow_le_pow_right (by decide) (by omega)))]
theorem bt_shl {b k : Int} (b0 : 0 ≤ b) (b1 : b < 31) (k0 : 0 ≤ k) (k1 : k < 31) : bt (ishl 1 b) k = decide (k = b) := by
  obtain ⟨c, rfl⟩ : ∃ c : Nat, b = (c : Int) := ⟨b.toNat, by omega⟩
  obtain ⟨d, rfl⟩ : ∃ d : Nat, k = (d : Int) := ⟨k.toNat, by omega⟩
  have e := shl1_n ⟨c, by omega⟩
  dsimp only at e
  have hp : 2 ^ c < 2 ^ 31 := Nat.pow_lt_pow_right (by decide) (by omega)
  rw [e, bt_n hp (by omega), Nat.testBit_two_pow]
  rw [decide_eq_decide]
  omega
theorem bt_0 {k : Int} (k0 : 0 ≤ k) (k1 : k < 31) : bt 0 k = false := by
  obtain ⟨d, rfl⟩ : ∃ d : Nat, k = (d : Int) := ⟨k.toNat, by omega⟩
  have := bt_n (n := 0) (k := d) (by decide) (by omega)
  rw [show ((0 : Nat) : Int) = 0 from rfl] at this
  rw [this, Nat.zero_testBit]
theorem shl1_bd {b : Int} (b0 : 0 ≤ b) (b1 : b < 31) : 0 < ishl 1 b ∧ ishl 1 b < 2147483648 := by
  obtain ⟨c, rfl⟩ : ∃ c : Nat, b = (c : Int) := ⟨b.toNat, by omega⟩
  have e := shl1_n ⟨c, by omega⟩
  dsimp only at e
  have hp : 2 ^ c < 2 ^ 31 := Nat.pow_lt_pow_right (by decide) (by omega)
  have hq : 0 < 2 ^ c := Nat.pow_pos (by decide)
  rw [e]
  omega
