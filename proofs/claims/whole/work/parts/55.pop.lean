/-! the JDK's count of bits, for sets below 2^30 -/
theorem pand (i : Nat) {p q r s : Nat} (hq : q < 2 ^ i) (hs : s < 2 ^ i) : (2 ^ i * p + q) &&& (2 ^ i * r + s) = 2 ^ i * (p &&& r) + (q &&& s) := by
  apply Nat.eq_of_testBit_eq
  intro j
  have hqs : q &&& s < 2 ^ i := Nat.lt_of_le_of_lt Nat.and_le_left hq
  rw [Nat.testBit_and, Nat.testBit_two_pow_mul_add _ hq, Nat.testBit_two_pow_mul_add _ hs, Nat.testBit_two_pow_mul_add _ hqs]
  split
  · rw [Nat.testBit_and]
  · rw [Nat.testBit_and]
theorem pand8 {p q r s : Nat} (hq : q < 256) (hs : s < 256) : (256 * p + q) &&& (256 * r + s) = 256 * (p &&& r) + (q &&& s) := pand 8 hq hs
def g1 (n : Nat) : Nat := (n / 2) &&& 1431655765
def s1 (n : Nat) : Nat := n - g1 n
def s2 (y : Nat) : Nat := (y &&& 858993459) + ((y / 4) &&& 858993459)
theorem g1_dec : ∀ (a : Fin 256) (e : Fin 2), (128 * e.val + a.val / 2) &&& 85 = g1 a.val := by decide +kernel
theorem s2_dec : ∀ (a : Fin 256) (e : Fin 4), a.val &&& 51 = a.val &&& 858993459 ∧ (64 * e.val + a.val / 4) &&& 51 = (a.val / 4) &&& 858993459 := by decide +kernel
theorem cut24 {x r s : Nat} (hx : x < 16777216) (hs : s < 16777216) : x &&& (16777216 * r + s) = x &&& s := by
  have := pand 24 (p := 0) (q := x) (r := r) (s := s) hx hs
  rw [Nat.mul_zero, Nat.zero_add, Nat.zero_and, Nat.mul_zero, Nat.zero_add] at this
  exact this
theorem s1_le (n : Nat) : g1 n ≤ n / 2 ∧ s1 n ≤ n := by
  have h : g1 n ≤ n / 2 := Nat.and_le_left
  unfold s1
  omega
theorem s1_st {m a : Nat} (hm : m < 16777216) (ha : a < 256) : s1 (256 * m + a) = 256 * s1 m + s1 a := by
  have hd := g1_dec ⟨a, ha⟩ ⟨m % 2, by omega⟩
  dsimp only at hd
  have e : g1 (256 * m + a) = 256 * g1 m + g1 a := by
    have hc := cut24 (x := m / 2) (r := 85) (s := 5592405) (by omega) (by decide)
    have hp := pand8 (p := m / 2) (q := 128 * (m % 2) + a / 2) (r := 5592405) (s := 85) (by omega) (by decide)
    rw [show 256 * (m / 2) + (128 * (m % 2) + a / 2) = (256 * m + a) / 2 by omega, hd, ← hc] at hp
    exact hp
  have h1 := s1_le m
  have h2 := s1_le a
  unfold s1
  rw [e]
  omega
theorem s2_st {m a : Nat} (hm : m < 16777216) (ha : a < 256) : s2 (256 * m + a) = 256 * s2 m + s2 a := by
  have hd := s2_dec ⟨a, ha⟩ ⟨m % 4, by omega⟩
  dsimp only at hd
  have hc := cut24 (x := m) (r := 51) (s := 3355443) (by omega) (by decide)
  have hc2 := cut24 (x := m / 4) (r := 51) (s := 3355443) (by omega) (by decide)
  have hp := pand8 (p := m) (q := a) (r := 3355443) (s := 51) ha (by decide)
  have hp2 := pand8 (p := m / 4) (q := 64 * (m % 4) + a / 4) (r := 3355443) (s := 51) (by omega) (by decide)
  rw [hd.1, ← hc] at hp
  rw [show 256 * (m / 4) + (64 * (m % 4) + a / 4) = (256 * m + a) / 4 by omega, hd.2, ← hc2] at hp2
  have e1 : (256 * m + a) &&& 858993459 = 256 * (m &&& 858993459) + (a &&& 858993459) := hp
  have e2 : ((256 * m + a) / 4) &&& 858993459 = 256 * ((m / 4) &&& 858993459) + ((a / 4) &&& 858993459) := hp2
  unfold s2
  rw [e1, e2]
  omega
def pop8 (b : Nat) : Nat := b / 1 % 2 + b / 2 % 2 + b / 4 % 2 + b / 8 % 2 + b / 16 % 2 + b / 32 % 2 + b / 64 % 2 + b / 128 % 2
theorem pop_dec : ∀ a : Fin 256, s2 (s1 a.val) % 16 ≤ 4 ∧ s2 (s1 a.val) / 16 ≤ 4 ∧ s2 (s1 a.val) % 16 + s2 (s1 a.val) / 16 = pop8 a.val := by decide +kernel
theorem and15 : ∀ q : Fin 256, q.val &&& 15 = q.val % 16 := by decide +kernel
theorem and8 {p q r : Nat} (hq : q < 256) : (256 * p + q) &&& (256 * r + 15) = 256 * (p &&& r) + q % 16 := by
  have := and15 ⟨q, hq⟩
  dsimp only at this
  rw [pand8 hq (by decide), this]
theorem and_4 {a0 a1 a2 a3 : Nat} (h0 : a0 < 256) (h1 : a1 < 256) (h2 : a2 < 256) (h3 : a3 < 256) : (256 * (256 * (256 * a3 + a2) + a1) + a0) &&& 252645135 = 256 * (256 * (256 * (a3 % 16) + a2 % 16) + a1 % 16) + a0 % 16 := by
  have e3 := and15 ⟨a3, h3⟩
  dsimp only at e3
  have e2 := and8 (p := a3) (q := a2) (r := 15) h2
  have e1 := and8 (p := 256 * a3 + a2) (q := a1) (r := 256 * 15 + 15) h1
  have e0 := and8 (p := 256 * (256 * a3 + a2) + a1) (q := a0) (r := 256 * (256 * 15 + 15) + 15) h0
  rw [e3] at e2
  rw [e2] at e1
  rw [e1] at e0
  exact e0
theorem iushr_n {n : Nat} (hn : n < 2 ^ 31) {k : Nat} (hk : (((i32 (k : Int)).toUInt32 &&& Int32.toUInt32 31).toBitVec % 32).toNat = k) : iushr (n : Int) (k : Int) = ((n / 2 ^ k : Nat) : Int) := by
  unfold iushr
  rw [i32_n n, pk_ushrN (by omega) _ k hk, nI_toInt (Nat.lt_of_le_of_lt (Nat.div_le_self _ _) hn)]
theorem bit_n {n k : Nat} (hn : n < 2 ^ 31) (hk : k < 31) : iand (ishr (n : Int) (k : Int)) 1 = ((n / 2 ^ k % 2 : Nat) : Int) := by
  have h1 := sh_amt ⟨k, by omega⟩
  have e1 : ishr (n : Int) (k : Int) = ((n / 2 ^ k : Nat) : Int) := by
    unfold ishr
    rw [i32_n, i32_n, pk_shrN hn _ k h1, nI_toInt (Nat.lt_of_le_of_lt (Nat.div_le_self _ _) hn)]
  have hlt : n / 2 ^ k < 2 ^ 31 := Nat.lt_of_le_of_lt (Nat.div_le_self _ _) hn
  rw [e1]
  unfold iand
  rw [i32_n, show i32 1 = (1 : Int32) by decide +kernel, pk_andN (m := 1) (Nat.lt_trans hlt (by decide)) 1 (by decide), nI_toInt (by omega)]
def nsum (n : Nat) : Nat → Nat → Nat
  | 0, _ => 0
  | j + 1, k => n / 2 ^ k % 2 + nsum n j (k + 1)
theorem bsum_n {n : Nat} (hn : n < 2 ^ 31) : ∀ (j k : Nat), k + j ≤ 31 → bsum (n : Int) j (k : Int) = (nsum n j k : Int)
  | 0, k, h => rfl
  | j + 1, k, h => by
    have := bsum_n hn j (k + 1) (by omega)
    unfold bsum nsum
    rw [bit_n hn (by omega), show ((k : Nat) : Int) + 1 = ((k + 1 : Nat) : Int) by omega, this]
    omega
theorem dgs (x : Nat) : x / 1 % 2 = x % 256 / 1 % 2 ∧ x / 2 % 2 = x % 256 / 2 % 2 ∧ x / 4 % 2 = x % 256 / 4 % 2 ∧ x / 8 % 2 = x % 256 / 8 % 2 ∧ x / 16 % 2 = x % 256 / 16 % 2 ∧ x / 32 % 2 = x % 256 / 32 % 2 ∧ x / 64 % 2 = x % 256 / 64 % 2 ∧ x / 128 % 2 = x % 256 / 128 % 2 := ⟨by omega, by omega, by omega, by omega, by omega, by omega, by omega, by omega⟩
theorem pop_m (x : Nat) : pop8 (x % 256) = pop8 x := by
  obtain ⟨h0, h1, h2, h3, h4, h5, h6, h7⟩ := dgs x
  unfold pop8
  rw [h0, h1, h2, h3, h4, h5, h6, h7]
theorem dv (n a b : Nat) : n / (a * b) = n / a / b := (Nat.div_div_eq_div_mul n a b).symm
theorem nsum_pop {n : Nat} (hn : n < 1073741824) : nsum n 30 0 = pop8 (n % 256) + pop8 (n / 256 % 256) + pop8 (n / 65536 % 256) + pop8 (n / 16777216) := by
  have z6 : n / 16777216 / 64 % 2 = 0 := by omega
  have z7 : n / 16777216 / 128 % 2 = 0 := by omega
  rw [pop_m, pop_m, pop_m]
  unfold pop8
  rw [z6, z7]
  simp only [nsum]
  simp only [Nat.reducePow, Nat.reduceAdd]
  rw [show n / 512 = n / 256 / 2 from dv n 256 2, show n / 1024 = n / 256 / 4 from dv n 256 4, show n / 2048 = n / 256 / 8 from dv n 256 8, show n / 4096 = n / 256 / 16 from dv n 256 16, show n / 8192 = n / 256 / 32 from dv n 256 32, show n / 16384 = n / 256 / 64 from dv n 256 64, show n / 32768 = n / 256 / 128 from dv n 256 128, show n / 131072 = n / 65536 / 2 from dv n 65536 2, show n / 262144 = n / 65536 / 4 from dv n 65536 4, show n / 524288 = n / 65536 / 8 from dv n 65536 8, show n / 1048576 = n / 65536 / 16 from dv n 65536 16, show n / 2097152 = n / 65536 / 32 from dv n 65536 32, show n / 4194304 = n / 65536 / 64 from dv n 65536 64, show n / 8388608 = n / 65536 / 128 from dv n 65536 128, show n / 33554432 = n / 16777216 / 2 from dv n 16777216 2, show n / 67108864 = n / 16777216 / 4 from dv n 16777216 4, show n / 134217728 = n / 16777216 / 8 from dv n 16777216 8, show n / 268435456 = n / 16777216 / 16 from dv n 16777216 16, show n / 536870912 = n / 16777216 / 32 from dv n 16777216 32]
  simp only [Nat.div_one, Nat.add_assoc, Nat.add_zero]
theorem md16 {A B : Nat} (h1 : A % 16 ≤ 4) (h2 : A / 16 ≤ 4) : (A + A / 16 + 16 * B) % 16 = A % 16 + A / 16 := by omega
theorem md16' {A : Nat} (h1 : A % 16 ≤ 4) (h2 : A / 16 ≤ 4) : (A + A / 16) % 16 = A % 16 + A / 16 := by omega
theorem bcf_nat {n : Nat} (hn : n < 1073741824) : bcf (n : Int) = ((pop8 (n % 256) + pop8 (n / 256 % 256) + pop8 (n / 65536 % 256) + pop8 (n / 16777216) : Nat) : Int) ∧ pop8 (n % 256) + pop8 (n / 256 % 256) + pop8 (n / 65536 % 256) + pop8 (n / 16777216) ≤ 32 := by
  have k1 : iushr (n : Int) 1 = ((n / 2 : Nat) : Int) := iushr_n (k := 1) (by omega) (by decide +kernel)
  have q1 : bc1 (n : Int) = ((s1 n : Nat) : Int) := by
    unfold bc1
    rw [k1, show (1431655765 : Int) = ((1431655765 : Nat) : Int) from rfl, iand_n (by omega) (by decide)]
    have := s1_le n
    show (n : Int) - ((g1 n : Nat) : Int) = ((s1 n : Nat) : Int)
    unfold s1
    omega
  have l1 := (s1_le n).2
  have q2 : bc2 ((s1 n : Nat) : Int) = ((s2 (s1 n) : Nat) : Int) := by
    unfold bc2
    rw [show iushr ((s1 n : Nat) : Int) 2 = ((s1 n / 4 : Nat) : Int) from iushr_n (k := 2) (by omega) (by decide +kernel), show (858993459 : Int) = ((858993459 : Nat) : Int) from rfl, iand_n (by omega) (by decide), iand_n (by omega) (by decide)]
    rfl
  have f0 := pop_dec ⟨n % 256, by omega⟩
  have f1 := pop_dec ⟨n / 256 % 256, by omega⟩
  have f2 := pop_dec ⟨n / 65536 % 256, by omega⟩
  have f3 := pop_dec ⟨n / 16777216, by omega⟩
  dsimp only at f0 f1 f2 f3
  have t0 := (s1_le (n % 256)).2
  have t1 := (s1_le (n / 256 % 256)).2
  have t2 := (s1_le (n / 65536 % 256)).2
  have t3 := (s1_le (n / 16777216)).2
  have z : s2 (s1 n) = 256 * (256 * (256 * s2 (s1 (n / 16777216)) + s2 (s1 (n / 65536 % 256))) + s2 (s1 (n / 256 % 256))) + s2 (s1 (n % 256)) := by
    have e : n = 256 * (256 * (256 * (n / 16777216) + n / 65536 % 256) + n / 256 % 256) + n % 256 := by omega
    have w2 : s1 (256 * (n / 16777216) + n / 65536 % 256) = 256 * s1 (n / 16777216) + s1 (n / 65536 % 256) := s1_st (by omega) (by omega)
    have w1 : s1 (256 * (256 * (n / 16777216) + n / 65536 % 256) + n / 256 % 256) = 256 * (256 * s1 (n / 16777216) + s1 (n / 65536 % 256)) + s1 (n / 256 % 256) := by rw [s1_st (by omega) (by omega), w2]
    have w0 : s1 n = 256 * (256 * (256 * s1 (n / 16777216) + s1 (n / 65536 % 256)) + s1 (n / 256 % 256)) + s1 (n % 256) := by
      have : s1 n = s1 (256 * (256 * (256 * (n / 16777216) + n / 65536 % 256) + n / 256 % 256) + n % 256) := by rw [← e]
      rw [this, s1_st (by omega) (by omega), w1]
    rw [w0, s2_st (by omega) (by omega), s2_st (by omega) (by omega), s2_st (by omega) (by omega)]
  rw [← f0.2.2, ← f1.2.2, ← f2.2.2, ← f3.2.2]
  generalize s2 (s1 (n / 16777216)) = A3 at *
  generalize s2 (s1 (n / 65536 % 256)) = A2 at *
  generalize s2 (s1 (n / 256 % 256)) = A1 at *
  generalize s2 (s1 (n % 256)) = A0 at *
  generalize hZ : s2 (s1 n) = Z at *
  have q3 : bc3 (Z : Int) = ((256 * (256 * (256 * (A3 % 16 + A3 / 16) + (A2 % 16 + A2 / 16)) + (A1 % 16 + A1 / 16)) + (A0 % 16 + A0 / 16) : Nat) : Int) := by
    unfold bc3
    rw [show iushr ((Z : Nat) : Int) 4 = ((Z / 16 : Nat) : Int) from iushr_n (k := 4) (by omega) (by decide +kernel), show (252645135 : Int) = ((252645135 : Nat) : Int) from rfl, show (Z : Int) + ((Z / 16 : Nat) : Int) = ((Z + Z / 16 : Nat) : Int) by omega, iand_n (by omega) (by decide)]
    have hz : Z + Z / 16 = 256 * (256 * (256 * (A3 + A3 / 16) + (A2 + A2 / 16 + 16 * (A3 % 16))) + (A1 + A1 / 16 + 16 * (A2 % 16))) + (A0 + A0 / 16 + 16 * (A1 % 16)) := by omega
    rw [hz, and_4 (by omega) (by omega) (by omega) (by omega), md16 f0.1 f0.2.1, md16 f1.1 f1.2.1, md16 f2.1 f2.2.1, md16' f3.1 f3.2.1]
  have h0 : A0 % 16 + A0 / 16 ≤ 8 := by omega
  have h1 : A1 % 16 + A1 / 16 ≤ 8 := by omega
  have h2 : A2 % 16 + A2 / 16 ≤ 8 := by omega
  have h3 : A3 % 16 + A3 / 16 ≤ 8 := by omega
  generalize A0 % 16 + A0 / 16 = p0 at *
  generalize A1 % 16 + A1 / 16 = p1 at *
  generalize A2 % 16 + A2 / 16 = p2 at *
  generalize A3 % 16 + A3 / 16 = p3 at *
  refine ⟨?_, by omega⟩
  unfold bcf
  rw [q1, q2, q3]
  have hb : 256 * (256 * (256 * p3 + p2) + p1) + p0 < 2 ^ 28 := by omega
  have q4 : bc4 ((256 * (256 * (256 * p3 + p2) + p1) + p0 : Nat) : Int) = ((256 * (256 * (256 * p3 + (p2 + p3)) + (p1 + p2)) + (p0 + p1) : Nat) : Int) := by
    unfold bc4
    rw [show iushr ((256 * (256 * (256 * p3 + p2) + p1) + p0 : Nat) : Int) 8 = (((256 * (256 * (256 * p3 + p2) + p1) + p0) / 256 : Nat) : Int) from iushr_n (k := 8) (by omega) (by decide +kernel)]
    omega
  have q5 : bc5 ((256 * (256 * (256 * p3 + (p2 + p3)) + (p1 + p2)) + (p0 + p1) : Nat) : Int) = ((256 * (256 * (256 * p3 + (p2 + p3)) + (p1 + p2 + p3)) + (p0 + p1 + p2 + p3) : Nat) : Int) := by
    unfold bc5
    rw [show iushr ((256 * (256 * (256 * p3 + (p2 + p3)) + (p1 + p2)) + (p0 + p1) : Nat) : Int) 16 = (((256 * (256 * (256 * p3 + (p2 + p3)) + (p1 + p2)) + (p0 + p1)) / 65536 : Nat) : Int) from iushr_n (k := 16) (by omega) (by decide +kernel)]
    omega
  rw [q4, q5, show (63 : Int) = ((63 : Nat) : Int) from rfl, iand_n (by omega) (by decide)]
  rw [show (63 : Nat) = 2 ^ 6 - 1 from rfl, Nat.and_two_pow_sub_one_eq_mod]
  congr 1
  omega
theorem bcf_30 {s : Int} (h0 : 0 ≤ s) (h1 : s < 1073741824) : bcf s = bsum s 30 0 ∧ 0 ≤ bsum s 30 0 ∧ bsum s 30 0 ≤ 32 := by
  obtain ⟨n, hn, rfl⟩ : ∃ n : Nat, n < 1073741824 ∧ s = (n : Int) := ⟨s.toNat, by omega, by omega⟩
  have hb := bcf_nat hn
  have e := bsum_n (n := n) (by omega) 30 0 (by omega)
  have e : bsum (n : Int) 30 0 = (nsum n 30 0 : Int) := e
  rw [e, nsum_pop hn]
  exact ⟨hb.1, by omega, by omega⟩
