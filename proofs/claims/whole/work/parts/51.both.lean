/-! pair: both -/
theorem catz_e {f : Nat → Int → Int} {b z : Int} (hz : 0 ≤ z) : catz f b z = decide (z % f 1 b = f 2 b) := by
  unfold catz
  rw [Int.tmod_eq_emod_of_nonneg hz]
def two (f : Nat → Int → Int) (b c n : Int) : Bool := catz f b (f 7 b + n) && catz f c (f 7 c + n)
def bth (f : Nat → Int → Int) (b c : Int) : Nat → Int → Int
  | 0, _ => -1
  | j + 1, n => if two f b c n = true then n else bth f b c j (n + 1)
def bcl (f : Nat → Int → Int) (b c : Int) : Nat → Int → Int
  | 0, _ => -1
  | j + 1, n => if catz f c (f 7 c + n) = true then n else bcl f b c j (n + f 1 b)
theorem bth_some {f : Nat → Int → Int} {b c : Int} : ∀ (j : Nat) (n m : Int), n ≤ m → m < n + j → two f b c m = true → (∀ k, n ≤ k → k < m → two f b c k = false) → bth f b c j n = m
  | 0, n, m, h0, h1, _, _ => by omega
  | j + 1, n, m, h0, h1, h2, h3 => by
    unfold bth
    by_cases h : n = m
    · subst h; rw [if_pos h2]
    · rw [h3 n (by omega) (by omega), if_neg (by decide)]
      exact bth_some j (n + 1) m (by omega) (by omega) h2 (fun k k0 k1 => h3 k (by omega) k1)
theorem bth_none {f : Nat → Int → Int} {b c : Int} : ∀ (j : Nat) (n : Int), (∀ k, n ≤ k → k < n + j → two f b c k = false) → bth f b c j n = -1
  | 0, n, _ => rfl
  | j + 1, n, h => by
    unfold bth
    rw [h n (by omega) (by omega), if_neg (by decide)]
    exact bth_none j (n + 1) (fun k k0 k1 => h k (by omega) (by omega))
theorem bcl_spec {f : Nat → Int → Int} {b c : Int} : ∀ (j : Nat) (n : Int), (∃ i : Nat, i < j ∧ bcl f b c j n = n + f 1 b * i ∧ catz f c (f 7 c + (n + f 1 b * i)) = true ∧ ∀ k : Nat, k < i → catz f c (f 7 c + (n + f 1 b * k)) = false) ∨ (bcl f b c j n = -1 ∧ ∀ k : Nat, k < j → catz f c (f 7 c + (n + f 1 b * k)) = false)
  | 0, n => Or.inr ⟨rfl, fun k h => by omega⟩
  | j + 1, n => by
    by_cases h : catz f c (f 7 c + n) = true
    · refine Or.inl ⟨0, by omega, ?_, ?_, fun k hk => by omega⟩
      · unfold bcl
        rw [if_pos h]
        simp
      · simpa using h
    · have hf : catz f c (f 7 c + n) = false := by simpa using h
      have e : bcl f b c (j + 1) n = bcl f b c j (n + f 1 b) := by
        show (if catz f c (f 7 c + n) = true then n else bcl f b c j (n + f 1 b)) = _
        rw [if_neg h]
      have sh : ∀ k : Nat, n + f 1 b + f 1 b * (k : Int) = n + f 1 b * ((k + 1 : Nat) : Int) := by
        intro k
        rw [show ((k + 1 : Nat) : Int) = (k : Int) + 1 by omega, Int.mul_add, Int.mul_one]
        omega
      rw [e]
      rcases bcl_spec (f := f) (b := b) (c := c) j (n + f 1 b) with ⟨i, i1, i2, i3, i4⟩ | ⟨i2, i4⟩
      · refine Or.inl ⟨i + 1, by omega, by rw [i2, sh], by rw [← sh]; exact i3, fun k hk => ?_⟩
        cases k with
        | zero => simpa using hf
        | succ k => rw [← sh]; exact i4 k (by omega)
      · refine Or.inr ⟨i2, fun k hk => ?_⟩
        cases k with
        | zero => simpa using hf
        | succ k => rw [← sh]; exact i4 k (by omega)
theorem both_eq {f : Nat → Int → Int} {b c : Int} (hE : OkE f) (hO : OkR f (f 7)) (b0 : 0 ≤ b) (b1 : b < f 0 1) (c0 : 0 ≤ c) (c1 : c < f 0 1) : bth f b c 3600 1 = bcl f b c (f 1 c).toNat (nxz f b (f 7 b)) ∧ -1 ≤ bth f b c 3600 1 ∧ bth f b c 3600 1 ≤ 3600 := by
  have tb := hE.2.2.2.2.2.1 b b0 b1
  have tc := hE.2.2.2.2.2.1 c c0 c1
  have gb := (hO.1 b b0 b1).1
  have gc := (hO.1 c c0 c1).1
  have hs := nxz_spec hE b0 b1 gb.1
  generalize hN : nxz f b (f 7 b) = N at hs ⊢
  have eN : (f 7 b + N) % f 1 b = f 2 b := by
    have := hs.2.1
    rw [catz_e (by omega)] at this
    exact of_decide_eq_true this
  -- at which bars b comes to its catch
  have cb : ∀ n, 1 ≤ n → catz f b (f 7 b + n) = true → ∃ i : Nat, n = N + f 1 b * i := by
    intro n n1 h
    rw [catz_e (by omega)] at h
    have h := of_decide_eq_true h
    have hz := Int.emod_eq_emod_iff_emod_sub_eq_zero.mp (h.trans eN.symm)
    rw [show f 7 b + n - (f 7 b + N) = n - N by omega] at hz
    obtain ⟨q, hq⟩ := Int.dvd_of_emod_eq_zero hz
    have q0 : 0 ≤ q := by
      rcases Int.lt_or_le q 0 with z | z
      · exfalso
        have : f 1 b * q ≤ f 1 b * (-1) := Int.mul_le_mul_of_nonneg_left (by omega) (by omega)
        rw [Int.mul_neg_one] at this
        omega
      · exact z
    exact ⟨q.toNat, by rw [show ((q.toNat : Nat) : Int) = q by omega]; omega⟩
  have cb2 : ∀ i : Nat, catz f b (f 7 b + (N + f 1 b * i)) = true := by
    intro i
    have : 0 ≤ f 1 b * (i : Int) := Int.mul_nonneg (by omega) (by omega)
    rw [catz_e (by omega), show f 7 b + (N + f 1 b * (i : Int)) = f 7 b + N + f 1 b * (i : Int) by omega, Int.add_mul_emod_self_left, eN]
    simp
  have tw : ∀ i : Nat, two f b c (N + f 1 b * i) = catz f c (f 7 c + (N + f 1 b * i)) := by
    intro i
    unfold two
    rw [cb2 i, Bool.true_and]
  have lim : ∀ i : Nat, (i : Int) < f 1 c → N + f 1 b * (i : Int) ≤ 3600 := by
    intro i hi
    have h1 : f 1 b * (i : Int) ≤ f 1 b * (f 1 c - 1) := Int.mul_le_mul_of_nonneg_left (by omega) (by omega)
    have h2 : f 1 b * (f 1 c - 1) ≤ 60 * (f 1 c - 1) := Int.mul_le_mul_of_nonneg_right (by omega) (by omega)
    omega
  have mono : ∀ i k : Nat, N + f 1 b * (k : Int) < N + f 1 b * (i : Int) → k < i := by
    intro i k h
    rcases Nat.lt_or_ge k i with z | z
    · exact z
    · exfalso
      have : f 1 b * (i : Int) ≤ f 1 b * (k : Int) := Int.mul_le_mul_of_nonneg_left (by omega) (by omega)
      omega
  rcases bcl_spec (f := f) (b := b) (c := c) (f 1 c).toNat N with ⟨i, i1, i2, i3, i4⟩ | ⟨i2, i4⟩
  · have hp : 0 ≤ f 1 b * (i : Int) := Int.mul_nonneg (by omega) (by omega)
    have hl := lim i (by omega)
    have : bth f b c 3600 1 = N + f 1 b * i := by
      refine bth_some 3600 1 _ (by omega) (by omega) (by rw [tw]; exact i3) (fun k k0 k1 => ?_)
      cases hk : two f b c k with
      | false => rfl
      | true =>
        have hk2 := hk
        unfold two at hk2
        rw [Bool.and_eq_true] at hk2
        obtain ⟨q, hq⟩ := cb k k0 hk2.1
        rw [hq] at k1 hk
        rw [tw, i4 q (mono i q k1)] at hk
        exact hk.symm
    rw [this, i2]
    exact ⟨rfl, by omega, by omega⟩
  · have : bth f b c 3600 1 = -1 := by
      refine bth_none 3600 1 (fun k k0 k1 => ?_)
      cases hk : two f b c k with
      | false => rfl
      | true =>
        have hk2 := hk
        unfold two at hk2
        rw [Bool.and_eq_true] at hk2
        obtain ⟨q, hq⟩ := cb k k0 hk2.1
        rw [hq, tw] at hk
        have hr := i4 (q % (f 1 c).toNat) (Nat.mod_lt _ (by omega))
        have h1 : 0 ≤ f 1 b * (q : Int) := Int.mul_nonneg (by omega) (by omega)
        have h2 : 0 ≤ f 1 b * ((q % (f 1 c).toNat : Nat) : Int) := Int.mul_nonneg (by omega) (by omega)
        rw [catz_e (by omega)] at hk hr
        have e1 : (f 7 c + (N + f 1 b * (q : Int))) % f 1 c = (f 7 c + (N + f 1 b * ((q % (f 1 c).toNat : Nat) : Int))) % f 1 c := by
          have hdm := Nat.div_add_mod q (f 1 c).toNat
          have e2 : (q : Int) = f 1 c * ((q / (f 1 c).toNat : Nat) : Int) + ((q % (f 1 c).toNat : Nat) : Int) := by
            have : (q : Int) = (((f 1 c).toNat * (q / (f 1 c).toNat) + q % (f 1 c).toNat : Nat) : Int) := by rw [hdm]
            rw [this, Int.natCast_add, Int.natCast_mul, show (((f 1 c).toNat : Nat) : Int) = f 1 c by omega]
          generalize ((q % (f 1 c).toNat : Nat) : Int) = m at *
          generalize ((q / (f 1 c).toNat : Nat) : Int) = d at *
          rw [e2, Int.mul_add, ← Int.mul_assoc, Int.mul_comm (f 1 b) (f 1 c), Int.mul_assoc]
          rw [show f 7 c + (N + (f 1 c * (f 1 b * d) + f 1 b * m)) = f 7 c + (N + f 1 b * m) + f 1 c * (f 1 b * d) by omega, Int.add_mul_emod_self_left]
        rw [e1, hr] at hk
        exact hk.symm
    rw [this, i2]
    exact ⟨rfl, by omega, by omega⟩
theorem P_both {l : Launch} {X Y : Cx} {C f : Nat → Int → Int} {x y : Int} (hx : -2147483648 ≤ x ∧ x ≤ 2147483647) (hy : -2147483648 ≤ y ∧ y ≤ 2147483647) (hI : Inv C f) : PP l X Y 2 3 mX9_both mX10_both [vI x, vI y] C f := by
  obtain ⟨h1, h2, h3, h4, h5, h6, h7, h8, h9⟩ := id hI
  have hE := h1.2
  have hB := hE.2.1
  have eB := h1.1.2.1
  have hO := h2.2.1
  by_cases ha : (0 ≤ x ∧ x < f 0 1) ∧ (0 ≤ y ∧ y < f 0 1) ∧ x ≠ y
  · obtain ⟨⟨x0, x1⟩, ⟨y0, y1⟩, -⟩ := id ha
    have tx := hE.2.2.2.2.2.1 x x0 x1
    have gx := (hO.1 x x0 x1).1
    have gy := (hO.1 y y0 y1).1
    have ty := hE.2.2.2.2.2.1 y y0 y1
    have nx := (h2.1.1 x x0 x1).1
    have ny := (h2.1.1 y y0 y1).1
    have ex := h1.1.2.2.2.1 x x0 x1
    have ey := h1.1.2.2.2.1 y y0 y1
    have sx := (nxz_spec hE x0 x1 gx.1).1
    have he := both_eq hE hO x0 x1 y0 y1
    refine ⟨bth f x y 3600 1, f, by omega, fun w Q hq => ?_, fun u Q hq => ?_⟩
    · rw [he.1] at hq
      have L : ∀ (j : Nat) (k n : Int), k + j = f 1 y → 0 ≤ k → 0 ≤ n → n + 60 * j ≤ 4000 → (∀ M2 : Me, Inv M2.1 f → Q (some (vI (bcl f x y j n))) M2) → Tf l X shC 2 mX9_both Q 32 [some (vR 0), some (vI x), some (vI y), some (vI n), some (vI k)] [] (C, w) := by
        intro j
        induction j with
        | zero =>
          intro k n e0 e1 n0 n1 hq
          (first | refine BX9_both_0 ?_ | refine BX9_both_6 ?_ | refine BX9_both_12 ?_ | refine BX9_both_25 ?_ | refine BX9_both_28 ?_ | refine BX9_both_32 ?_ | refine BX9_both_59 ?_ | refine BX9_both_64 ?_ | refine BX9_both_69 ?_ | refine BX9_both_87 ?_)
          dsimp only [bX9_both_0, bX9_both_6, bX9_both_12, bX9_both_25, bX9_both_28, bX9_both_32, bX9_both_59, bX9_both_64, bX9_both_69, bX9_both_87, o_add, o_ald, o_cge, o_gf, o_ial, o_ic, o_ild, o_inc, o_iret, o_ist, o_v1, o_v2, o_zeq, o_zne, tk, lget, lput, lkill, lmask, ol, flC_0_0, flC_0_1, flC_0_2, flC_0_3, flC_0_4, flC_0_5, flC_0_6, flC_0_7, flC_0_8, flC_0_9, flC_0_10, flC_1_0, flC_1_1, flC_1_2, flC_1_3, flC_1_4, flC_1_5, flC_1_6, flC_1_7, flC_2_0, flC_2_1, flC_2_2, flC_2_3, flC_2_4, flC_2_5, flC_2_6, flC_2_7, flC_2_8, arC_3, arC_4, arC_5, arC_6, arC_7, arC_8, arC_9, flC_10_0, flC_10_1, flC_10_2, flC_10_3, flC_10_4, flC_10_5, flC_10_6, flC_10_7, flC_10_8, arC_11, arC_12, arC_13, arC_14, arC_15, arC_16, flC_17_0, arC_18, flC_19_0, flC_19_1, flC_19_2, arC_20, flC_21_0, flC_21_1, flC_21_2, arC_22, arC_23, flC_24_0, flC_24_1, flC_24_2, arC_25, flC_26_0, flC_26_1, flC_26_2, arC_27, arC_28, flC_29_0, arC_30, flC_31_0, flC_31_1, arC_32, arC_33, arC_34]
          try simp only [up, upL, rp, sf, cpy, Nat.reduceEqDiff, reduceIte, Int.reduceNeg, Int.reduceLE, Int.reduceLT, Int.reduceEq, Int.reduceAdd, Int.reduceSub, Int.reduceMul, ne_eq, not_true_eq_false, not_false_eq_true, true_and, and_true, and_self, false_implies, true_implies, implies_true, forall_const, Nat.reduceAdd, Int.add_zero, Int.zero_add, true_or, or_true, false_or, or_false, List.length_nil, List.length_cons]
          rw [ey.1]
          refine ⟨by omega, by omega, by omega, fun h => ?_, fun h => absurd h (by omega)⟩
          (first | refine BX9_both_0 ?_ | refine BX9_both_6 ?_ | refine BX9_both_12 ?_ | refine BX9_both_25 ?_ | refine BX9_both_28 ?_ | refine BX9_both_32 ?_ | refine BX9_both_59 ?_ | refine BX9_both_64 ?_ | refine BX9_both_69 ?_ | refine BX9_both_87 ?_)
          dsimp only [bX9_both_0, bX9_both_6, bX9_both_12, bX9_both_25, bX9_both_28, bX9_both_32, bX9_both_59, bX9_both_64, bX9_both_69, bX9_both_87, o_add, o_ald, o_cge, o_gf, o_ial, o_ic, o_ild, o_inc, o_iret, o_ist, o_v1, o_v2, o_zeq, o_zne, tk, lget, lput, lkill, lmask, ol, flC_0_0, flC_0_1, flC_0_2, flC_0_3, flC_0_4, flC_0_5, flC_0_6, flC_0_7, flC_0_8, flC_0_9, flC_0_10, flC_1_0, flC_1_1, flC_1_2, flC_1_3, flC_1_4, flC_1_5, flC_1_6, flC_1_7, flC_2_0, flC_2_1, flC_2_2, flC_2_3, flC_2_4, flC_2_5, flC_2_6, flC_2_7, flC_2_8, arC_3, arC_4, arC_5, arC_6, arC_7, arC_8, arC_9, flC_10_0, flC_10_1, flC_10_2, flC_10_3, flC_10_4, flC_10_5, flC_10_6, flC_10_7, flC_10_8, arC_11, arC_12, arC_13, arC_14, arC_15, arC_16, flC_17_0, arC_18, flC_19_0, flC_19_1, flC_19_2, arC_20, flC_21_0, flC_21_1, flC_21_2, arC_22, arC_23, flC_24_0, flC_24_1, flC_24_2, arC_25, flC_26_0, flC_26_1, flC_26_2, arC_27, arC_28, flC_29_0, arC_30, flC_31_0, flC_31_1, arC_32, arC_33, arC_34]
          try simp only [up, upL, rp, sf, cpy, Nat.reduceEqDiff, reduceIte, Int.reduceNeg, Int.reduceLE, Int.reduceLT, Int.reduceEq, Int.reduceAdd, Int.reduceSub, Int.reduceMul, ne_eq, not_true_eq_false, not_false_eq_true, true_and, and_true, and_self, false_implies, true_implies, implies_true, forall_const, Nat.reduceAdd, Int.add_zero, Int.zero_add, true_or, or_true, false_or, or_false, List.length_nil, List.length_cons]
          exact hq (C, w) hI
        | succ j ih =>
          intro k n e0 e1 n0 n1 hq
          have hq : ∀ M2 : Me, Inv M2.1 f → Q (some (vI (if catz f y (f 7 y + n) = true then n else bcl f x y j (n + f 1 x)))) M2 := hq
          (first | refine BX9_both_0 ?_ | refine BX9_both_6 ?_ | refine BX9_both_12 ?_ | refine BX9_both_25 ?_ | refine BX9_both_28 ?_ | refine BX9_both_32 ?_ | refine BX9_both_59 ?_ | refine BX9_both_64 ?_ | refine BX9_both_69 ?_ | refine BX9_both_87 ?_)
          dsimp only [bX9_both_0, bX9_both_6, bX9_both_12, bX9_both_25, bX9_both_28, bX9_both_32, bX9_both_59, bX9_both_64, bX9_both_69, bX9_both_87, o_add, o_ald, o_cge, o_gf, o_ial, o_ic, o_ild, o_inc, o_iret, o_ist, o_v1, o_v2, o_zeq, o_zne, tk, lget, lput, lkill, lmask, ol, flC_0_0, flC_0_1, flC_0_2, flC_0_3, flC_0_4, flC_0_5, flC_0_6, flC_0_7, flC_0_8, flC_0_9, flC_0_10, flC_1_0, flC_1_1, flC_1_2, flC_1_3, flC_1_4, flC_1_5, flC_1_6, flC_1_7, flC_2_0, flC_2_1, flC_2_2, flC_2_3, flC_2_4, flC_2_5, flC_2_6, flC_2_7, flC_2_8, arC_3, arC_4, arC_5, arC_6, arC_7, arC_8, arC_9, flC_10_0, flC_10_1, flC_10_2, flC_10_3, flC_10_4, flC_10_5, flC_10_6, flC_10_7, flC_10_8, arC_11, arC_12, arC_13, arC_14, arC_15, arC_16, flC_17_0, arC_18, flC_19_0, flC_19_1, flC_19_2, arC_20, flC_21_0, flC_21_1, flC_21_2, arC_22, arC_23, flC_24_0, flC_24_1, flC_24_2, arC_25, flC_26_0, flC_26_1, flC_26_2, arC_27, arC_28, flC_29_0, arC_30, flC_31_0, flC_31_1, arC_32, arC_33, arC_34]
          try simp only [up, upL, rp, sf, cpy, Nat.reduceEqDiff, reduceIte, Int.reduceNeg, Int.reduceLE, Int.reduceLT, Int.reduceEq, Int.reduceAdd, Int.reduceSub, Int.reduceMul, ne_eq, not_true_eq_false, not_false_eq_true, true_and, and_true, and_self, false_implies, true_implies, implies_true, forall_const, Nat.reduceAdd, Int.add_zero, Int.zero_add, true_or, or_true, false_or, or_false, List.length_nil, List.length_cons]
          rw [ey.1]
          refine ⟨by omega, by omega, by omega, fun h => absurd h (by omega), fun h => ⟨rfl, k_at y0 (by omega) ?_⟩⟩
          (first | refine BX9_both_0 ?_ | refine BX9_both_6 ?_ | refine BX9_both_12 ?_ | refine BX9_both_25 ?_ | refine BX9_both_28 ?_ | refine BX9_both_32 ?_ | refine BX9_both_59 ?_ | refine BX9_both_64 ?_ | refine BX9_both_69 ?_ | refine BX9_both_87 ?_)
          dsimp only [bX9_both_0, bX9_both_6, bX9_both_12, bX9_both_25, bX9_both_28, bX9_both_32, bX9_both_59, bX9_both_64, bX9_both_69, bX9_both_87, o_add, o_ald, o_cge, o_gf, o_ial, o_ic, o_ild, o_inc, o_iret, o_ist, o_v1, o_v2, o_zeq, o_zne, tk, lget, lput, lkill, lmask, ol, flC_0_0, flC_0_1, flC_0_2, flC_0_3, flC_0_4, flC_0_5, flC_0_6, flC_0_7, flC_0_8, flC_0_9, flC_0_10, flC_1_0, flC_1_1, flC_1_2, flC_1_3, flC_1_4, flC_1_5, flC_1_6, flC_1_7, flC_2_0, flC_2_1, flC_2_2, flC_2_3, flC_2_4, flC_2_5, flC_2_6, flC_2_7, flC_2_8, arC_3, arC_4, arC_5, arC_6, arC_7, arC_8, arC_9, flC_10_0, flC_10_1, flC_10_2, flC_10_3, flC_10_4, flC_10_5, flC_10_6, flC_10_7, flC_10_8, arC_11, arC_12, arC_13, arC_14, arC_15, arC_16, flC_17_0, arC_18, flC_19_0, flC_19_1, flC_19_2, arC_20, flC_21_0, flC_21_1, flC_21_2, arC_22, arC_23, flC_24_0, flC_24_1, flC_24_2, arC_25, flC_26_0, flC_26_1, flC_26_2, arC_27, arC_28, flC_29_0, arC_30, flC_31_0, flC_31_1, arC_32, arC_33, arC_34]
          try simp only [up, upL, rp, sf, cpy, Nat.reduceEqDiff, reduceIte, Int.reduceNeg, Int.reduceLE, Int.reduceLT, Int.reduceEq, Int.reduceAdd, Int.reduceSub, Int.reduceMul, ne_eq, not_true_eq_false, not_false_eq_true, true_and, and_true, and_self, false_implies, true_implies, implies_true, forall_const, Nat.reduceAdd, Int.add_zero, Int.zero_add, true_or, or_true, false_or, or_false, List.length_nil, List.length_cons]
          rw [ny]
          refine ⟨rfl, k_isAtCatch h1.1 hE y0 y1 (by omega) (fun h5 => ?_) (fun h5 => ?_)⟩
          · rw [if_pos h5] at hq
            (first | refine BX9_both_0 ?_ | refine BX9_both_6 ?_ | refine BX9_both_12 ?_ | refine BX9_both_25 ?_ | refine BX9_both_28 ?_ | refine BX9_both_32 ?_ | refine BX9_both_59 ?_ | refine BX9_both_64 ?_ | refine BX9_both_69 ?_ | refine BX9_both_87 ?_)
            dsimp only [bX9_both_0, bX9_both_6, bX9_both_12, bX9_both_25, bX9_both_28, bX9_both_32, bX9_both_59, bX9_both_64, bX9_both_69, bX9_both_87, o_add, o_ald, o_cge, o_gf, o_ial, o_ic, o_ild, o_inc, o_iret, o_ist, o_v1, o_v2, o_zeq, o_zne, tk, lget, lput, lkill, lmask, ol, flC_0_0, flC_0_1, flC_0_2, flC_0_3, flC_0_4, flC_0_5, flC_0_6, flC_0_7, flC_0_8, flC_0_9, flC_0_10, flC_1_0, flC_1_1, flC_1_2, flC_1_3, flC_1_4, flC_1_5, flC_1_6, flC_1_7, flC_2_0, flC_2_1, flC_2_2, flC_2_3, flC_2_4, flC_2_5, flC_2_6, flC_2_7, flC_2_8, arC_3, arC_4, arC_5, arC_6, arC_7, arC_8, arC_9, flC_10_0, flC_10_1, flC_10_2, flC_10_3, flC_10_4, flC_10_5, flC_10_6, flC_10_7, flC_10_8, arC_11, arC_12, arC_13, arC_14, arC_15, arC_16, flC_17_0, arC_18, flC_19_0, flC_19_1, flC_19_2, arC_20, flC_21_0, flC_21_1, flC_21_2, arC_22, arC_23, flC_24_0, flC_24_1, flC_24_2, arC_25, flC_26_0, flC_26_1, flC_26_2, arC_27, arC_28, flC_29_0, arC_30, flC_31_0, flC_31_1, arC_32, arC_33, arC_34]
            try simp only [up, upL, rp, sf, cpy, Nat.reduceEqDiff, reduceIte, Int.reduceNeg, Int.reduceLE, Int.reduceLT, Int.reduceEq, Int.reduceAdd, Int.reduceSub, Int.reduceMul, ne_eq, not_true_eq_false, not_false_eq_true, true_and, and_true, and_self, false_implies, true_implies, implies_true, forall_const, Nat.reduceAdd, Int.add_zero, Int.zero_add, true_or, or_true, false_or, or_false, List.length_nil, List.length_cons]
            exact hq (C, w) hI
          · rw [if_neg (by rw [h5]; decide)] at hq
            (first | refine BX9_both_0 ?_ | refine BX9_both_6 ?_ | refine BX9_both_12 ?_ | refine BX9_both_25 ?_ | refine BX9_both_28 ?_ | refine BX9_both_32 ?_ | refine BX9_both_59 ?_ | refine BX9_both_64 ?_ | refine BX9_both_69 ?_ | refine BX9_both_87 ?_)
            dsimp only [bX9_both_0, bX9_both_6, bX9_both_12, bX9_both_25, bX9_both_28, bX9_both_32, bX9_both_59, bX9_both_64, bX9_both_69, bX9_both_87, o_add, o_ald, o_cge, o_gf, o_ial, o_ic, o_ild, o_inc, o_iret, o_ist, o_v1, o_v2, o_zeq, o_zne, tk, lget, lput, lkill, lmask, ol, flC_0_0, flC_0_1, flC_0_2, flC_0_3, flC_0_4, flC_0_5, flC_0_6, flC_0_7, flC_0_8, flC_0_9, flC_0_10, flC_1_0, flC_1_1, flC_1_2, flC_1_3, flC_1_4, flC_1_5, flC_1_6, flC_1_7, flC_2_0, flC_2_1, flC_2_2, flC_2_3, flC_2_4, flC_2_5, flC_2_6, flC_2_7, flC_2_8, arC_3, arC_4, arC_5, arC_6, arC_7, arC_8, arC_9, flC_10_0, flC_10_1, flC_10_2, flC_10_3, flC_10_4, flC_10_5, flC_10_6, flC_10_7, flC_10_8, arC_11, arC_12, arC_13, arC_14, arC_15, arC_16, flC_17_0, arC_18, flC_19_0, flC_19_1, flC_19_2, arC_20, flC_21_0, flC_21_1, flC_21_2, arC_22, arC_23, flC_24_0, flC_24_1, flC_24_2, arC_25, flC_26_0, flC_26_1, flC_26_2, arC_27, arC_28, flC_29_0, arC_30, flC_31_0, flC_31_1, arC_32, arC_33, arC_34]
            try simp only [up, upL, rp, sf, cpy, Nat.reduceEqDiff, reduceIte, Int.reduceNeg, Int.reduceLE, Int.reduceLT, Int.reduceEq, Int.reduceAdd, Int.reduceSub, Int.reduceMul, ne_eq, not_true_eq_false, not_false_eq_true, true_and, and_true, and_self, false_implies, true_implies, implies_true, forall_const, Nat.reduceAdd, Int.add_zero, Int.zero_add, true_or, or_true, false_or, or_false, List.length_nil, List.length_cons]
            (first | refine BX9_both_0 ?_ | refine BX9_both_6 ?_ | refine BX9_both_12 ?_ | refine BX9_both_25 ?_ | refine BX9_both_28 ?_ | refine BX9_both_32 ?_ | refine BX9_both_59 ?_ | refine BX9_both_64 ?_ | refine BX9_both_69 ?_ | refine BX9_both_87 ?_)
            dsimp only [bX9_both_0, bX9_both_6, bX9_both_12, bX9_both_25, bX9_both_28, bX9_both_32, bX9_both_59, bX9_both_64, bX9_both_69, bX9_both_87, o_add, o_ald, o_cge, o_gf, o_ial, o_ic, o_ild, o_inc, o_iret, o_ist, o_v1, o_v2, o_zeq, o_zne, tk, lget, lput, lkill, lmask, ol, flC_0_0, flC_0_1, flC_0_2, flC_0_3, flC_0_4, flC_0_5, flC_0_6, flC_0_7, flC_0_8, flC_0_9, flC_0_10, flC_1_0, flC_1_1, flC_1_2, flC_1_3, flC_1_4, flC_1_5, flC_1_6, flC_1_7, flC_2_0, flC_2_1, flC_2_2, flC_2_3, flC_2_4, flC_2_5, flC_2_6, flC_2_7, flC_2_8, arC_3, arC_4, arC_5, arC_6, arC_7, arC_8, arC_9, flC_10_0, flC_10_1, flC_10_2, flC_10_3, flC_10_4, flC_10_5, flC_10_6, flC_10_7, flC_10_8, arC_11, arC_12, arC_13, arC_14, arC_15, arC_16, flC_17_0, arC_18, flC_19_0, flC_19_1, flC_19_2, arC_20, flC_21_0, flC_21_1, flC_21_2, arC_22, arC_23, flC_24_0, flC_24_1, flC_24_2, arC_25, flC_26_0, flC_26_1, flC_26_2, arC_27, arC_28, flC_29_0, arC_30, flC_31_0, flC_31_1, arC_32, arC_33, arC_34]
            try simp only [up, upL, rp, sf, cpy, Nat.reduceEqDiff, reduceIte, Int.reduceNeg, Int.reduceLE, Int.reduceLT, Int.reduceEq, Int.reduceAdd, Int.reduceSub, Int.reduceMul, ne_eq, not_true_eq_false, not_false_eq_true, true_and, and_true, and_self, false_implies, true_implies, implies_true, forall_const, Nat.reduceAdd, Int.add_zero, Int.zero_add, true_or, or_true, false_or, or_false, List.length_nil, List.length_cons]
            rw [ex.1]
            exact ⟨by omega, ih (k + 1) (n + f 1 x) (by omega) (by omega) (by omega) (by omega) hq⟩
      refine EX9_both rfl ?_
      (first | refine BX9_both_0 ?_ | refine BX9_both_6 ?_ | refine BX9_both_12 ?_ | refine BX9_both_25 ?_ | refine BX9_both_28 ?_ | refine BX9_both_32 ?_ | refine BX9_both_59 ?_ | refine BX9_both_64 ?_ | refine BX9_both_69 ?_ | refine BX9_both_87 ?_)
      dsimp only [bX9_both_0, bX9_both_6, bX9_both_12, bX9_both_25, bX9_both_28, bX9_both_32, bX9_both_59, bX9_both_64, bX9_both_69, bX9_both_87, o_add, o_ald, o_cge, o_gf, o_ial, o_ic, o_ild, o_inc, o_iret, o_ist, o_v1, o_v2, o_zeq, o_zne, tk, lget, lput, lkill, lmask, ol, lent, flC_0_0, flC_0_1, flC_0_2, flC_0_3, flC_0_4, flC_0_5, flC_0_6, flC_0_7, flC_0_8, flC_0_9, flC_0_10, flC_1_0, flC_1_1, flC_1_2, flC_1_3, flC_1_4, flC_1_5, flC_1_6, flC_1_7, flC_2_0, flC_2_1, flC_2_2, flC_2_3, flC_2_4, flC_2_5, flC_2_6, flC_2_7, flC_2_8, arC_3, arC_4, arC_5, arC_6, arC_7, arC_8, arC_9, flC_10_0, flC_10_1, flC_10_2, flC_10_3, flC_10_4, flC_10_5, flC_10_6, flC_10_7, flC_10_8, arC_11, arC_12, arC_13, arC_14, arC_15, arC_16, flC_17_0, arC_18, flC_19_0, flC_19_1, flC_19_2, arC_20, flC_21_0, flC_21_1, flC_21_2, arC_22, arC_23, flC_24_0, flC_24_1, flC_24_2, arC_25, flC_26_0, flC_26_1, flC_26_2, arC_27, arC_28, flC_29_0, arC_30, flC_31_0, flC_31_1, arC_32, arC_33, arC_34]
      try simp only [up, upL, rp, sf, cpy, Nat.reduceEqDiff, reduceIte, Int.reduceNeg, Int.reduceLE, Int.reduceLT, Int.reduceEq, Int.reduceAdd, Int.reduceSub, Int.reduceMul, ne_eq, not_true_eq_false, not_false_eq_true, true_and, and_true, and_self, false_implies, true_implies, implies_true, forall_const, Nat.reduceAdd, Int.add_zero, Int.zero_add, true_or, or_true, false_or, or_false, List.length_nil, List.length_cons]
      refine ⟨rfl, k_isPair hx hy (by dsimp only; omega) (fun h => ?_) (fun h => absurd ha (by dsimp only at h; rw [eB] at h; exact h))⟩
      (first | refine BX9_both_0 ?_ | refine BX9_both_6 ?_ | refine BX9_both_12 ?_ | refine BX9_both_25 ?_ | refine BX9_both_28 ?_ | refine BX9_both_32 ?_ | refine BX9_both_59 ?_ | refine BX9_both_64 ?_ | refine BX9_both_69 ?_ | refine BX9_both_87 ?_)
      dsimp only [bX9_both_0, bX9_both_6, bX9_both_12, bX9_both_25, bX9_both_28, bX9_both_32, bX9_both_59, bX9_both_64, bX9_both_69, bX9_both_87, o_add, o_ald, o_cge, o_gf, o_ial, o_ic, o_ild, o_inc, o_iret, o_ist, o_v1, o_v2, o_zeq, o_zne, tk, lget, lput, lkill, lmask, ol, flC_0_0, flC_0_1, flC_0_2, flC_0_3, flC_0_4, flC_0_5, flC_0_6, flC_0_7, flC_0_8, flC_0_9, flC_0_10, flC_1_0, flC_1_1, flC_1_2, flC_1_3, flC_1_4, flC_1_5, flC_1_6, flC_1_7, flC_2_0, flC_2_1, flC_2_2, flC_2_3, flC_2_4, flC_2_5, flC_2_6, flC_2_7, flC_2_8, arC_3, arC_4, arC_5, arC_6, arC_7, arC_8, arC_9, flC_10_0, flC_10_1, flC_10_2, flC_10_3, flC_10_4, flC_10_5, flC_10_6, flC_10_7, flC_10_8, arC_11, arC_12, arC_13, arC_14, arC_15, arC_16, flC_17_0, arC_18, flC_19_0, flC_19_1, flC_19_2, arC_20, flC_21_0, flC_21_1, flC_21_2, arC_22, arC_23, flC_24_0, flC_24_1, flC_24_2, arC_25, flC_26_0, flC_26_1, flC_26_2, arC_27, arC_28, flC_29_0, arC_30, flC_31_0, flC_31_1, arC_32, arC_33, arC_34]
      try simp only [up, upL, rp, sf, cpy, Nat.reduceEqDiff, reduceIte, Int.reduceNeg, Int.reduceLE, Int.reduceLT, Int.reduceEq, Int.reduceAdd, Int.reduceSub, Int.reduceMul, ne_eq, not_true_eq_false, not_false_eq_true, true_and, and_true, and_self, false_implies, true_implies, implies_true, forall_const, Nat.reduceAdd, Int.add_zero, Int.zero_add, true_or, or_true, false_or, or_false, List.length_nil, List.length_cons]
      (first | refine BX9_both_0 ?_ | refine BX9_both_6 ?_ | refine BX9_both_12 ?_ | refine BX9_both_25 ?_ | refine BX9_both_28 ?_ | refine BX9_both_32 ?_ | refine BX9_both_59 ?_ | refine BX9_both_64 ?_ | refine BX9_both_69 ?_ | refine BX9_both_87 ?_)
      dsimp only [bX9_both_0, bX9_both_6, bX9_both_12, bX9_both_25, bX9_both_28, bX9_both_32, bX9_both_59, bX9_both_64, bX9_both_69, bX9_both_87, o_add, o_ald, o_cge, o_gf, o_ial, o_ic, o_ild, o_inc, o_iret, o_ist, o_v1, o_v2, o_zeq, o_zne, tk, lget, lput, lkill, lmask, ol, flC_0_0, flC_0_1, flC_0_2, flC_0_3, flC_0_4, flC_0_5, flC_0_6, flC_0_7, flC_0_8, flC_0_9, flC_0_10, flC_1_0, flC_1_1, flC_1_2, flC_1_3, flC_1_4, flC_1_5, flC_1_6, flC_1_7, flC_2_0, flC_2_1, flC_2_2, flC_2_3, flC_2_4, flC_2_5, flC_2_6, flC_2_7, flC_2_8, arC_3, arC_4, arC_5, arC_6, arC_7, arC_8, arC_9, flC_10_0, flC_10_1, flC_10_2, flC_10_3, flC_10_4, flC_10_5, flC_10_6, flC_10_7, flC_10_8, arC_11, arC_12, arC_13, arC_14, arC_15, arC_16, flC_17_0, arC_18, flC_19_0, flC_19_1, flC_19_2, arC_20, flC_21_0, flC_21_1, flC_21_2, arC_22, arC_23, flC_24_0, flC_24_1, flC_24_2, arC_25, flC_26_0, flC_26_1, flC_26_2, arC_27, arC_28, flC_29_0, arC_30, flC_31_0, flC_31_1, arC_32, arC_33, arC_34]
      try simp only [up, upL, rp, sf, cpy, Nat.reduceEqDiff, reduceIte, Int.reduceNeg, Int.reduceLE, Int.reduceLT, Int.reduceEq, Int.reduceAdd, Int.reduceSub, Int.reduceMul, ne_eq, not_true_eq_false, not_false_eq_true, true_and, and_true, and_self, false_implies, true_implies, implies_true, forall_const, Nat.reduceAdd, Int.add_zero, Int.zero_add, true_or, or_true, false_or, or_false, List.length_nil, List.length_cons]
      refine ⟨rfl, k_at x0 (by omega) ?_⟩
      (first | refine BX9_both_0 ?_ | refine BX9_both_6 ?_ | refine BX9_both_12 ?_ | refine BX9_both_25 ?_ | refine BX9_both_28 ?_ | refine BX9_both_32 ?_ | refine BX9_both_59 ?_ | refine BX9_both_64 ?_ | refine BX9_both_69 ?_ | refine BX9_both_87 ?_)
      dsimp only [bX9_both_0, bX9_both_6, bX9_both_12, bX9_both_25, bX9_both_28, bX9_both_32, bX9_both_59, bX9_both_64, bX9_both_69, bX9_both_87, o_add, o_ald, o_cge, o_gf, o_ial, o_ic, o_ild, o_inc, o_iret, o_ist, o_v1, o_v2, o_zeq, o_zne, tk, lget, lput, lkill, lmask, ol, flC_0_0, flC_0_1, flC_0_2, flC_0_3, flC_0_4, flC_0_5, flC_0_6, flC_0_7, flC_0_8, flC_0_9, flC_0_10, flC_1_0, flC_1_1, flC_1_2, flC_1_3, flC_1_4, flC_1_5, flC_1_6, flC_1_7, flC_2_0, flC_2_1, flC_2_2, flC_2_3, flC_2_4, flC_2_5, flC_2_6, flC_2_7, flC_2_8, arC_3, arC_4, arC_5, arC_6, arC_7, arC_8, arC_9, flC_10_0, flC_10_1, flC_10_2, flC_10_3, flC_10_4, flC_10_5, flC_10_6, flC_10_7, flC_10_8, arC_11, arC_12, arC_13, arC_14, arC_15, arC_16, flC_17_0, arC_18, flC_19_0, flC_19_1, flC_19_2, arC_20, flC_21_0, flC_21_1, flC_21_2, arC_22, arC_23, flC_24_0, flC_24_1, flC_24_2, arC_25, flC_26_0, flC_26_1, flC_26_2, arC_27, arC_28, flC_29_0, arC_30, flC_31_0, flC_31_1, arC_32, arC_33, arC_34]
      try simp only [up, upL, rp, sf, cpy, Nat.reduceEqDiff, reduceIte, Int.reduceNeg, Int.reduceLE, Int.reduceLT, Int.reduceEq, Int.reduceAdd, Int.reduceSub, Int.reduceMul, ne_eq, not_true_eq_false, not_false_eq_true, true_and, and_true, and_self, false_implies, true_implies, implies_true, forall_const, Nat.reduceAdd, Int.add_zero, Int.zero_add, true_or, or_true, false_or, or_false, List.length_nil, List.length_cons]
      rw [nx]
      refine ⟨rfl, k_nextCatch h1.1 hE x0 x1 (by omega) ?_⟩
      (first | refine BX9_both_0 ?_ | refine BX9_both_6 ?_ | refine BX9_both_12 ?_ | refine BX9_both_25 ?_ | refine BX9_both_28 ?_ | refine BX9_both_32 ?_ | refine BX9_both_59 ?_ | refine BX9_both_64 ?_ | refine BX9_both_69 ?_ | refine BX9_both_87 ?_)
      dsimp only [bX9_both_0, bX9_both_6, bX9_both_12, bX9_both_25, bX9_both_28, bX9_both_32, bX9_both_59, bX9_both_64, bX9_both_69, bX9_both_87, o_add, o_ald, o_cge, o_gf, o_ial, o_ic, o_ild, o_inc, o_iret, o_ist, o_v1, o_v2, o_zeq, o_zne, tk, lget, lput, lkill, lmask, ol, flC_0_0, flC_0_1, flC_0_2, flC_0_3, flC_0_4, flC_0_5, flC_0_6, flC_0_7, flC_0_8, flC_0_9, flC_0_10, flC_1_0, flC_1_1, flC_1_2, flC_1_3, flC_1_4, flC_1_5, flC_1_6, flC_1_7, flC_2_0, flC_2_1, flC_2_2, flC_2_3, flC_2_4, flC_2_5, flC_2_6, flC_2_7, flC_2_8, arC_3, arC_4, arC_5, arC_6, arC_7, arC_8, arC_9, flC_10_0, flC_10_1, flC_10_2, flC_10_3, flC_10_4, flC_10_5, flC_10_6, flC_10_7, flC_10_8, arC_11, arC_12, arC_13, arC_14, arC_15, arC_16, flC_17_0, arC_18, flC_19_0, flC_19_1, flC_19_2, arC_20, flC_21_0, flC_21_1, flC_21_2, arC_22, arC_23, flC_24_0, flC_24_1, flC_24_2, arC_25, flC_26_0, flC_26_1, flC_26_2, arC_27, arC_28, flC_29_0, arC_30, flC_31_0, flC_31_1, arC_32, arC_33, arC_34]
      try simp only [up, upL, rp, sf, cpy, Nat.reduceEqDiff, reduceIte, Int.reduceNeg, Int.reduceLE, Int.reduceLT, Int.reduceEq, Int.reduceAdd, Int.reduceSub, Int.reduceMul, ne_eq, not_true_eq_false, not_false_eq_true, true_and, and_true, and_self, false_implies, true_implies, implies_true, forall_const, Nat.reduceAdd, Int.add_zero, Int.zero_add, true_or, or_true, false_or, or_false, List.length_nil, List.length_cons]
      exact L (f 1 y).toNat 0 _ (by omega) (by omega) (by omega) (by omega) hq
    · have L : ∀ (j : Nat) (n : Int), n + j = 3601 → 1 ≤ n → Q (some (vI (bth f x y j n))) (f, u) → Tf l Y shM 3 mX10_both Q 14 [some (vR 0), some (vI x), some (vI y), some (vI n)] [] (f, u) := by
        intro j
        induction j with
        | zero =>
          intro n e0 e1 hq
          (first | refine BX10_both_0 ?_ | refine BX10_both_6 ?_ | refine BX10_both_12 ?_ | refine BX10_both_14 ?_ | refine BX10_both_28 ?_ | refine BX10_both_38 ?_ | refine BX10_both_43 ?_ | refine BX10_both_49 ?_)
          dsimp only [bX10_both_0, bX10_both_6, bX10_both_12, bX10_both_14, bX10_both_28, bX10_both_38, bX10_both_43, bX10_both_49, o_ald, o_cgt, o_ic, o_ild, o_inc, o_iret, o_ist, o_v2, o_v3, o_zeq, o_zne, tk, lget, lput, lkill, lmask, ol]
          try simp only [up, upL, rp, sf, cpy, Nat.reduceEqDiff, reduceIte, Int.reduceNeg, Int.reduceLE, Int.reduceLT, Int.reduceEq, Int.reduceAdd, Int.reduceSub, Int.reduceMul, ne_eq, not_true_eq_false, not_false_eq_true, true_and, and_true, and_self, false_implies, true_implies, implies_true, forall_const, Nat.reduceAdd, Int.add_zero, Int.zero_add, true_or, or_true, false_or, or_false, List.length_nil, List.length_cons]
          refine ⟨by omega, fun h => ?_, fun h => absurd h (by omega)⟩
          (first | refine BX10_both_0 ?_ | refine BX10_both_6 ?_ | refine BX10_both_12 ?_ | refine BX10_both_14 ?_ | refine BX10_both_28 ?_ | refine BX10_both_38 ?_ | refine BX10_both_43 ?_ | refine BX10_both_49 ?_)
          dsimp only [bX10_both_0, bX10_both_6, bX10_both_12, bX10_both_14, bX10_both_28, bX10_both_38, bX10_both_43, bX10_both_49, o_ald, o_cgt, o_ic, o_ild, o_inc, o_iret, o_ist, o_v2, o_v3, o_zeq, o_zne, tk, lget, lput, lkill, lmask, ol]
          try simp only [up, upL, rp, sf, cpy, Nat.reduceEqDiff, reduceIte, Int.reduceNeg, Int.reduceLE, Int.reduceLT, Int.reduceEq, Int.reduceAdd, Int.reduceSub, Int.reduceMul, ne_eq, not_true_eq_false, not_false_eq_true, true_and, and_true, and_self, false_implies, true_implies, implies_true, forall_const, Nat.reduceAdd, Int.add_zero, Int.zero_add, true_or, or_true, false_or, or_false, List.length_nil, List.length_cons]
          exact hq
        | succ j ih =>
          intro n e0 e1 hq
          have hq : Q (some (vI (if two f x y n = true then n else bth f x y j (n + 1)))) (f, u) := hq
          have no : two f x y n = false → Tf l Y shM 3 mX10_both Q 43 [some (vR 0), some (vI x), some (vI y), some (vI n)] [] (f, u) := by
            intro h
            rw [if_neg (by rw [h]; decide)] at hq
            (first | refine BX10_both_0 ?_ | refine BX10_both_6 ?_ | refine BX10_both_12 ?_ | refine BX10_both_14 ?_ | refine BX10_both_28 ?_ | refine BX10_both_38 ?_ | refine BX10_both_43 ?_ | refine BX10_both_49 ?_)
            dsimp only [bX10_both_0, bX10_both_6, bX10_both_12, bX10_both_14, bX10_both_28, bX10_both_38, bX10_both_43, bX10_both_49, o_ald, o_cgt, o_ic, o_ild, o_inc, o_iret, o_ist, o_v2, o_v3, o_zeq, o_zne, tk, lget, lput, lkill, lmask, ol]
            try simp only [up, upL, rp, sf, cpy, Nat.reduceEqDiff, reduceIte, Int.reduceNeg, Int.reduceLE, Int.reduceLT, Int.reduceEq, Int.reduceAdd, Int.reduceSub, Int.reduceMul, ne_eq, not_true_eq_false, not_false_eq_true, true_and, and_true, and_self, false_implies, true_implies, implies_true, forall_const, Nat.reduceAdd, Int.add_zero, Int.zero_add, true_or, or_true, false_or, or_false, List.length_nil, List.length_cons]
            exact ih (n + 1) (by omega) (by omega) hq
          (first | refine BX10_both_0 ?_ | refine BX10_both_6 ?_ | refine BX10_both_12 ?_ | refine BX10_both_14 ?_ | refine BX10_both_28 ?_ | refine BX10_both_38 ?_ | refine BX10_both_43 ?_ | refine BX10_both_49 ?_)
          dsimp only [bX10_both_0, bX10_both_6, bX10_both_12, bX10_both_14, bX10_both_28, bX10_both_38, bX10_both_43, bX10_both_49, o_ald, o_cgt, o_ic, o_ild, o_inc, o_iret, o_ist, o_v2, o_v3, o_zeq, o_zne, tk, lget, lput, lkill, lmask, ol]
          try simp only [up, upL, rp, sf, cpy, Nat.reduceEqDiff, reduceIte, Int.reduceNeg, Int.reduceLE, Int.reduceLT, Int.reduceEq, Int.reduceAdd, Int.reduceSub, Int.reduceMul, ne_eq, not_true_eq_false, not_false_eq_true, true_and, and_true, and_self, false_implies, true_implies, implies_true, forall_const, Nat.reduceAdd, Int.add_zero, Int.zero_add, true_or, or_true, false_or, or_false, List.length_nil, List.length_cons]
          refine ⟨by omega, fun h => absurd h (by omega), fun h => ⟨rfl, c_isCatch hE hO x0 x1 (by omega) (by omega) (fun h5 => ?_) (fun h5 => ?_)⟩⟩
          · dsimp only at h5
            rw [Int.add_zero] at h5
            (first | refine BX10_both_0 ?_ | refine BX10_both_6 ?_ | refine BX10_both_12 ?_ | refine BX10_both_14 ?_ | refine BX10_both_28 ?_ | refine BX10_both_38 ?_ | refine BX10_both_43 ?_ | refine BX10_both_49 ?_)
            dsimp only [bX10_both_0, bX10_both_6, bX10_both_12, bX10_both_14, bX10_both_28, bX10_both_38, bX10_both_43, bX10_both_49, o_ald, o_cgt, o_ic, o_ild, o_inc, o_iret, o_ist, o_v2, o_v3, o_zeq, o_zne, tk, lget, lput, lkill, lmask, ol]
            try simp only [up, upL, rp, sf, cpy, Nat.reduceEqDiff, reduceIte, Int.reduceNeg, Int.reduceLE, Int.reduceLT, Int.reduceEq, Int.reduceAdd, Int.reduceSub, Int.reduceMul, ne_eq, not_true_eq_false, not_false_eq_true, true_and, and_true, and_self, false_implies, true_implies, implies_true, forall_const, Nat.reduceAdd, Int.add_zero, Int.zero_add, true_or, or_true, false_or, or_false, List.length_nil, List.length_cons]
            refine ⟨rfl, c_isCatch hE hO y0 y1 (by omega) (by omega) (fun h6 => ?_) (fun h6 => ?_)⟩
            · dsimp only at h6
              rw [Int.add_zero] at h6
              rw [if_pos (by unfold two; rw [h5, h6]; rfl)] at hq
              (first | refine BX10_both_0 ?_ | refine BX10_both_6 ?_ | refine BX10_both_12 ?_ | refine BX10_both_14 ?_ | refine BX10_both_28 ?_ | refine BX10_both_38 ?_ | refine BX10_both_43 ?_ | refine BX10_both_49 ?_)
              dsimp only [bX10_both_0, bX10_both_6, bX10_both_12, bX10_both_14, bX10_both_28, bX10_both_38, bX10_both_43, bX10_both_49, o_ald, o_cgt, o_ic, o_ild, o_inc, o_iret, o_ist, o_v2, o_v3, o_zeq, o_zne, tk, lget, lput, lkill, lmask, ol]
              try simp only [up, upL, rp, sf, cpy, Nat.reduceEqDiff, reduceIte, Int.reduceNeg, Int.reduceLE, Int.reduceLT, Int.reduceEq, Int.reduceAdd, Int.reduceSub, Int.reduceMul, ne_eq, not_true_eq_false, not_false_eq_true, true_and, and_true, and_self, false_implies, true_implies, implies_true, forall_const, Nat.reduceAdd, Int.add_zero, Int.zero_add, true_or, or_true, false_or, or_false, List.length_nil, List.length_cons]
              exact hq
            · dsimp only at h6
              rw [Int.add_zero] at h6
              (first | refine BX10_both_0 ?_ | refine BX10_both_6 ?_ | refine BX10_both_12 ?_ | refine BX10_both_14 ?_ | refine BX10_both_28 ?_ | refine BX10_both_38 ?_ | refine BX10_both_43 ?_ | refine BX10_both_49 ?_)
              dsimp only [bX10_both_0, bX10_both_6, bX10_both_12, bX10_both_14, bX10_both_28, bX10_both_38, bX10_both_43, bX10_both_49, o_ald, o_cgt, o_ic, o_ild, o_inc, o_iret, o_ist, o_v2, o_v3, o_zeq, o_zne, tk, lget, lput, lkill, lmask, ol]
              try simp only [up, upL, rp, sf, cpy, Nat.reduceEqDiff, reduceIte, Int.reduceNeg, Int.reduceLE, Int.reduceLT, Int.reduceEq, Int.reduceAdd, Int.reduceSub, Int.reduceMul, ne_eq, not_true_eq_false, not_false_eq_true, true_and, and_true, and_self, false_implies, true_implies, implies_true, forall_const, Nat.reduceAdd, Int.add_zero, Int.zero_add, true_or, or_true, false_or, or_false, List.length_nil, List.length_cons]
              exact no (by unfold two; rw [h5, h6]; rfl)
          · dsimp only at h5
            rw [Int.add_zero] at h5
            (first | refine BX10_both_0 ?_ | refine BX10_both_6 ?_ | refine BX10_both_12 ?_ | refine BX10_both_14 ?_ | refine BX10_both_28 ?_ | refine BX10_both_38 ?_ | refine BX10_both_43 ?_ | refine BX10_both_49 ?_)
            dsimp only [bX10_both_0, bX10_both_6, bX10_both_12, bX10_both_14, bX10_both_28, bX10_both_38, bX10_both_43, bX10_both_49, o_ald, o_cgt, o_ic, o_ild, o_inc, o_iret, o_ist, o_v2, o_v3, o_zeq, o_zne, tk, lget, lput, lkill, lmask, ol]
            try simp only [up, upL, rp, sf, cpy, Nat.reduceEqDiff, reduceIte, Int.reduceNeg, Int.reduceLE, Int.reduceLT, Int.reduceEq, Int.reduceAdd, Int.reduceSub, Int.reduceMul, ne_eq, not_true_eq_false, not_false_eq_true, true_and, and_true, and_self, false_implies, true_implies, implies_true, forall_const, Nat.reduceAdd, Int.add_zero, Int.zero_add, true_or, or_true, false_or, or_false, List.length_nil, List.length_cons]
            exact no (by unfold two; rw [h5]; rfl)
      refine EX10_both rfl ?_
      (first | refine BX10_both_0 ?_ | refine BX10_both_6 ?_ | refine BX10_both_12 ?_ | refine BX10_both_14 ?_ | refine BX10_both_28 ?_ | refine BX10_both_38 ?_ | refine BX10_both_43 ?_ | refine BX10_both_49 ?_)
      dsimp only [bX10_both_0, bX10_both_6, bX10_both_12, bX10_both_14, bX10_both_28, bX10_both_38, bX10_both_43, bX10_both_49, o_ald, o_cgt, o_ic, o_ild, o_inc, o_iret, o_ist, o_v2, o_v3, o_zeq, o_zne, tk, lget, lput, lkill, lmask, ol, lent]
      try simp only [up, upL, rp, sf, cpy, Nat.reduceEqDiff, reduceIte, Int.reduceNeg, Int.reduceLE, Int.reduceLT, Int.reduceEq, Int.reduceAdd, Int.reduceSub, Int.reduceMul, ne_eq, not_true_eq_false, not_false_eq_true, true_and, and_true, and_self, false_implies, true_implies, implies_true, forall_const, Nat.reduceAdd, Int.add_zero, Int.zero_add, true_or, or_true, false_or, or_false, List.length_nil, List.length_cons]
      refine ⟨rfl, c_areTwo hx hy hB (fun h => ?_) (fun h => absurd ha h)⟩
      (first | refine BX10_both_0 ?_ | refine BX10_both_6 ?_ | refine BX10_both_12 ?_ | refine BX10_both_14 ?_ | refine BX10_both_28 ?_ | refine BX10_both_38 ?_ | refine BX10_both_43 ?_ | refine BX10_both_49 ?_)
      dsimp only [bX10_both_0, bX10_both_6, bX10_both_12, bX10_both_14, bX10_both_28, bX10_both_38, bX10_both_43, bX10_both_49, o_ald, o_cgt, o_ic, o_ild, o_inc, o_iret, o_ist, o_v2, o_v3, o_zeq, o_zne, tk, lget, lput, lkill, lmask, ol]
      try simp only [up, upL, rp, sf, cpy, Nat.reduceEqDiff, reduceIte, Int.reduceNeg, Int.reduceLE, Int.reduceLT, Int.reduceEq, Int.reduceAdd, Int.reduceSub, Int.reduceMul, ne_eq, not_true_eq_false, not_false_eq_true, true_and, and_true, and_self, false_implies, true_implies, implies_true, forall_const, Nat.reduceAdd, Int.add_zero, Int.zero_add, true_or, or_true, false_or, or_false, List.length_nil, List.length_cons]
      (first | refine BX10_both_0 ?_ | refine BX10_both_6 ?_ | refine BX10_both_12 ?_ | refine BX10_both_14 ?_ | refine BX10_both_28 ?_ | refine BX10_both_38 ?_ | refine BX10_both_43 ?_ | refine BX10_both_49 ?_)
      dsimp only [bX10_both_0, bX10_both_6, bX10_both_12, bX10_both_14, bX10_both_28, bX10_both_38, bX10_both_43, bX10_both_49, o_ald, o_cgt, o_ic, o_ild, o_inc, o_iret, o_ist, o_v2, o_v3, o_zeq, o_zne, tk, lget, lput, lkill, lmask, ol]
      try simp only [up, upL, rp, sf, cpy, Nat.reduceEqDiff, reduceIte, Int.reduceNeg, Int.reduceLE, Int.reduceLT, Int.reduceEq, Int.reduceAdd, Int.reduceSub, Int.reduceMul, ne_eq, not_true_eq_false, not_false_eq_true, true_and, and_true, and_self, false_implies, true_implies, implies_true, forall_const, Nat.reduceAdd, Int.add_zero, Int.zero_add, true_or, or_true, false_or, or_false, List.length_nil, List.length_cons]
      exact L 3600 1 (by omega) (by omega) hq
  · refine ⟨-1000000001, f, by omega, fun w Q hq => ?_, fun u Q hq => ?_⟩
    · refine EX9_both rfl ?_
      (first | refine BX9_both_0 ?_ | refine BX9_both_6 ?_ | refine BX9_both_12 ?_ | refine BX9_both_25 ?_ | refine BX9_both_28 ?_ | refine BX9_both_32 ?_ | refine BX9_both_59 ?_ | refine BX9_both_64 ?_ | refine BX9_both_69 ?_ | refine BX9_both_87 ?_)
      dsimp only [bX9_both_0, bX9_both_6, bX9_both_12, bX9_both_25, bX9_both_28, bX9_both_32, bX9_both_59, bX9_both_64, bX9_both_69, bX9_both_87, o_add, o_ald, o_cge, o_gf, o_ial, o_ic, o_ild, o_inc, o_iret, o_ist, o_v1, o_v2, o_zeq, o_zne, tk, lget, lput, lkill, lmask, ol, lent, flC_0_0, flC_0_1, flC_0_2, flC_0_3, flC_0_4, flC_0_5, flC_0_6, flC_0_7, flC_0_8, flC_0_9, flC_0_10, flC_1_0, flC_1_1, flC_1_2, flC_1_3, flC_1_4, flC_1_5, flC_1_6, flC_1_7, flC_2_0, flC_2_1, flC_2_2, flC_2_3, flC_2_4, flC_2_5, flC_2_6, flC_2_7, flC_2_8, arC_3, arC_4, arC_5, arC_6, arC_7, arC_8, arC_9, flC_10_0, flC_10_1, flC_10_2, flC_10_3, flC_10_4, flC_10_5, flC_10_6, flC_10_7, flC_10_8, arC_11, arC_12, arC_13, arC_14, arC_15, arC_16, flC_17_0, arC_18, flC_19_0, flC_19_1, flC_19_2, arC_20, flC_21_0, flC_21_1, flC_21_2, arC_22, arC_23, flC_24_0, flC_24_1, flC_24_2, arC_25, flC_26_0, flC_26_1, flC_26_2, arC_27, arC_28, flC_29_0, arC_30, flC_31_0, flC_31_1, arC_32, arC_33, arC_34]
      try simp only [up, upL, rp, sf, cpy, Nat.reduceEqDiff, reduceIte, Int.reduceNeg, Int.reduceLE, Int.reduceLT, Int.reduceEq, Int.reduceAdd, Int.reduceSub, Int.reduceMul, ne_eq, not_true_eq_false, not_false_eq_true, true_and, and_true, and_self, false_implies, true_implies, implies_true, forall_const, Nat.reduceAdd, Int.add_zero, Int.zero_add, true_or, or_true, false_or, or_false, List.length_nil, List.length_cons]
      refine ⟨rfl, k_isPair hx hy (by dsimp only; omega) (fun h => absurd h (by dsimp only; omega)) (fun h => ?_)⟩
      (first | refine BX9_both_0 ?_ | refine BX9_both_6 ?_ | refine BX9_both_12 ?_ | refine BX9_both_25 ?_ | refine BX9_both_28 ?_ | refine BX9_both_32 ?_ | refine BX9_both_59 ?_ | refine BX9_both_64 ?_ | refine BX9_both_69 ?_ | refine BX9_both_87 ?_)
      dsimp only [bX9_both_0, bX9_both_6, bX9_both_12, bX9_both_25, bX9_both_28, bX9_both_32, bX9_both_59, bX9_both_64, bX9_both_69, bX9_both_87, o_add, o_ald, o_cge, o_gf, o_ial, o_ic, o_ild, o_inc, o_iret, o_ist, o_v1, o_v2, o_zeq, o_zne, tk, lget, lput, lkill, lmask, ol, flC_0_0, flC_0_1, flC_0_2, flC_0_3, flC_0_4, flC_0_5, flC_0_6, flC_0_7, flC_0_8, flC_0_9, flC_0_10, flC_1_0, flC_1_1, flC_1_2, flC_1_3, flC_1_4, flC_1_5, flC_1_6, flC_1_7, flC_2_0, flC_2_1, flC_2_2, flC_2_3, flC_2_4, flC_2_5, flC_2_6, flC_2_7, flC_2_8, arC_3, arC_4, arC_5, arC_6, arC_7, arC_8, arC_9, flC_10_0, flC_10_1, flC_10_2, flC_10_3, flC_10_4, flC_10_5, flC_10_6, flC_10_7, flC_10_8, arC_11, arC_12, arC_13, arC_14, arC_15, arC_16, flC_17_0, arC_18, flC_19_0, flC_19_1, flC_19_2, arC_20, flC_21_0, flC_21_1, flC_21_2, arC_22, arC_23, flC_24_0, flC_24_1, flC_24_2, arC_25, flC_26_0, flC_26_1, flC_26_2, arC_27, arC_28, flC_29_0, arC_30, flC_31_0, flC_31_1, arC_32, arC_33, arC_34]
      try simp only [up, upL, rp, sf, cpy, Nat.reduceEqDiff, reduceIte, Int.reduceNeg, Int.reduceLE, Int.reduceLT, Int.reduceEq, Int.reduceAdd, Int.reduceSub, Int.reduceMul, ne_eq, not_true_eq_false, not_false_eq_true, true_and, and_true, and_self, false_implies, true_implies, implies_true, forall_const, Nat.reduceAdd, Int.add_zero, Int.zero_add, true_or, or_true, false_or, or_false, List.length_nil, List.length_cons]
      exact hq (C, w) hI
    · refine EX10_both rfl ?_
      (first | refine BX10_both_0 ?_ | refine BX10_both_6 ?_ | refine BX10_both_12 ?_ | refine BX10_both_14 ?_ | refine BX10_both_28 ?_ | refine BX10_both_38 ?_ | refine BX10_both_43 ?_ | refine BX10_both_49 ?_)
      dsimp only [bX10_both_0, bX10_both_6, bX10_both_12, bX10_both_14, bX10_both_28, bX10_both_38, bX10_both_43, bX10_both_49, o_ald, o_cgt, o_ic, o_ild, o_inc, o_iret, o_ist, o_v2, o_v3, o_zeq, o_zne, tk, lget, lput, lkill, lmask, ol, lent]
      try simp only [up, upL, rp, sf, cpy, Nat.reduceEqDiff, reduceIte, Int.reduceNeg, Int.reduceLE, Int.reduceLT, Int.reduceEq, Int.reduceAdd, Int.reduceSub, Int.reduceMul, ne_eq, not_true_eq_false, not_false_eq_true, true_and, and_true, and_self, false_implies, true_implies, implies_true, forall_const, Nat.reduceAdd, Int.add_zero, Int.zero_add, true_or, or_true, false_or, or_false, List.length_nil, List.length_cons]
      refine ⟨rfl, c_areTwo hx hy hB (fun h => absurd h ha) (fun h => ?_)⟩
      (first | refine BX10_both_0 ?_ | refine BX10_both_6 ?_ | refine BX10_both_12 ?_ | refine BX10_both_14 ?_ | refine BX10_both_28 ?_ | refine BX10_both_38 ?_ | refine BX10_both_43 ?_ | refine BX10_both_49 ?_)
      dsimp only [bX10_both_0, bX10_both_6, bX10_both_12, bX10_both_14, bX10_both_28, bX10_both_38, bX10_both_43, bX10_both_49, o_ald, o_cgt, o_ic, o_ild, o_inc, o_iret, o_ist, o_v2, o_v3, o_zeq, o_zne, tk, lget, lput, lkill, lmask, ol]
      try simp only [up, upL, rp, sf, cpy, Nat.reduceEqDiff, reduceIte, Int.reduceNeg, Int.reduceLE, Int.reduceLT, Int.reduceEq, Int.reduceAdd, Int.reduceSub, Int.reduceMul, ne_eq, not_true_eq_false, not_false_eq_true, true_and, and_true, and_self, false_implies, true_implies, implies_true, forall_const, Nat.reduceAdd, Int.add_zero, Int.zero_add, true_or, or_true, false_or, or_false, List.length_nil, List.length_cons]
      exact hq
