/-! the bar that all tunes end on: a search, and a sieve -/
def allz (f : Nat → Int → Int) (n : Int) : Nat → Int → Bool
  | 0, _ => true
  | j + 1, b => decide ((f 7 b + n).tmod (f 1 b) = 0) && allz f n j (b + 1)
def GG (f : Nat → Int → Int) (b n : Int) : Prop := ∀ c, 0 ≤ c → c < b → (f 7 c + n) % f 1 c = 0
theorem allz_iff {f : Nat → Int → Int} {n : Int} : ∀ (j : Nat) (b : Int), (∀ c, b ≤ c → c < b + j → 0 ≤ f 7 c + n) → (allz f n j b = true ↔ ∀ c, b ≤ c → c < b + j → (f 7 c + n) % f 1 c = 0)
  | 0, b, _ => ⟨fun _ c c0 c1 => by omega, fun _ => rfl⟩
  | j + 1, b, h => by
    have ih := allz_iff (f := f) (n := n) j (b + 1) (fun c c0 c1 => h c (by omega) (by omega))
    have hb := h b (by omega) (by omega)
    unfold allz
    rw [Bool.and_eq_true, decide_eq_true_eq, ih, Int.tmod_eq_emod_of_nonneg hb]
    constructor
    · intro q c c0 c1
      by_cases hc : c = b
      · rw [hc]; exact q.1
      · exact q.2 c (by omega) (by omega)
    · intro q
      exact ⟨q b (by omega) (by omega), fun c c0 c1 => q c (by omega) (by omega)⟩
def ens (f : Nat → Int → Int) : Nat → Int → Int
  | 0, _ => -1
  | j + 1, n => if allz f n (f 0 1).toNat 0 = true then n else ens f j (n + 1)
def endM (f : Nat → Int → Int) : Int := if f 0 1 = 0 then -1 else ens f 9999 1
theorem ens_some {f : Nat → Int → Int} (hE : OkE f) (hO : OkR f (f 7)) : ∀ (j : Nat) (n m : Int), 0 ≤ n → n ≤ m → m < n + j → GG f (f 0 1) m → (∀ k, n ≤ k → k < m → ¬ GG f (f 0 1) k) → ens f j n = m
  | 0, n, m, _, h0, h1, _, _ => by omega
  | j + 1, n, m, hn, h0, h1, h2, h3 => by
    have hB := hE.2.1
    have hi : allz f n (f 0 1).toNat 0 = true ↔ GG f (f 0 1) n := by
      have := allz_iff (f := f) (n := n) (f 0 1).toNat 0 (fun c c0 c1 => by have := (hO.1 c c0 (by omega)).1; omega)
      rw [this, show (0 : Int) + ((f 0 1).toNat : Int) = f 0 1 by omega]
      exact Iff.rfl
    unfold ens
    by_cases h : n = m
    · subst h; rw [if_pos (hi.mpr h2)]
    · rw [if_neg (fun q => h3 n (by omega) (by omega) (hi.mp q))]
      exact ens_some hE hO j (n + 1) m (by omega) (by omega) (by omega) h2 (fun k k0 k1 => h3 k (by omega) k1)
theorem ens_none {f : Nat → Int → Int} (hE : OkE f) (hO : OkR f (f 7)) : ∀ (j : Nat) (n : Int), 0 ≤ n → (∀ k, n ≤ k → k < n + j → ¬ GG f (f 0 1) k) → ens f j n = -1
  | 0, n, _, _ => rfl
  | j + 1, n, hn, h => by
    have hB := hE.2.1
    have hi : allz f n (f 0 1).toNat 0 = true ↔ GG f (f 0 1) n := by
      have := allz_iff (f := f) (n := n) (f 0 1).toNat 0 (fun c c0 c1 => by have := (hO.1 c c0 (by omega)).1; omega)
      rw [this, show (0 : Int) + ((f 0 1).toNat : Int) = f 0 1 by omega]
      exact Iff.rfl
    unfold ens
    rw [if_neg (fun q => h n (by omega) (by omega) (hi.mp q))]
    exact ens_none hE hO j (n + 1) (by omega) (fun k k0 k1 => h k (by omega) (by omega))
theorem ens_bd {f : Nat → Int → Int} : ∀ (j : Nat) (n : Int), 0 ≤ n → -1 ≤ ens f j n ∧ ens f j n < n + j
  | 0, n, h => ⟨by simp [ens], by simp [ens]; omega⟩
  | j + 1, n, h => by
    have := ens_bd (f := f) j (n + 1) (by omega)
    unfold ens
    split <;> omega
theorem endM_bd {f : Nat → Int → Int} : -1 ≤ endM f ∧ endM f ≤ 9999 := by
  have := ens_bd (f := f) 9999 1 (by omega)
  unfold endM
  split <;> omega
theorem c_end {l : Launch} {X : Cx} {Q : Qt} {f : Nat → Int → Int} {u : Int → Int} (hE : OkE f) (hO : OkR f (f 7)) (hq : Q (some (vI (endM f))) (f, u)) : TM l X shM 0 mX10_end [vR 0] (f, u) Q := by
  have hB := hE.2.1
  have L1 : ∀ (j : Nat) (b n : Int) (a : Bool), b + j = f 0 1 → 0 ≤ b → 1 ≤ n → n ≤ 9999 → Tf l X shM 0 mX10_end Q 62 [some (vR 0), some (vI n), some (vI (if (a && allz f n j b) = true then 1 else 0)), none] [] (f, u) → Tf l X shM 0 mX10_end Q 20 [some (vR 0), some (vI n), some (vI (if a = true then 1 else 0)), some (vI b)] [] (f, u) := by
    intro j
    induction j with
    | zero =>
      intro b n a e0 e1 n0 n1 hq
      rw [show (a && allz f n 0 b) = a from by cases a <;> rfl] at hq
      (first | refine BX10_end_0 ?_ | refine BX10_end_2 ?_ | refine BX10_end_20 ?_ | refine BX10_end_54 ?_ | refine BX10_end_55 ?_ | refine BX10_end_62 ?_ | refine BX10_end_68 ?_ | refine BX10_end_74 ?_)
      dsimp only [bX10_end_0, bX10_end_2, bX10_end_20, bX10_end_54, bX10_end_55, bX10_end_62, bX10_end_68, bX10_end_74, o_add, o_ald, o_cge, o_cgt, o_gf, o_ial, o_ic, o_ild, o_inc, o_iret, o_ist, o_rem, o_zeq, o_zle, o_zne, tk, lget, lput, lkill, lmask, ol, flM_0_0, flM_0_1, flM_0_2, flM_0_3, flM_0_4, flM_0_5, flM_0_6, flM_0_7, flM_0_8, flM_0_9, flM_0_10, flM_0_11, flM_0_12, flM_0_13, flM_0_14, flM_0_15, flM_0_16, flM_0_17, flM_0_18, flM_0_19, flM_0_20, flM_0_21, flM_0_22, flM_0_23, flM_0_24, flM_0_25, flM_0_26, flM_0_27, flM_0_28, flM_0_29, flM_0_30, flM_0_31, flM_0_32, flM_0_33, flM_0_34, flM_0_35, flM_0_36, flM_0_37, flM_0_38, flM_0_39, flM_0_40, flM_0_41, arM_1, arM_2, arM_3, arM_4, arM_5, arM_6, arM_7, arM_8, arM_9, arM_10, arM_11, arM_12, arM_13, arM_14, arM_15, arM_16, arM_17, arM_18, arM_19, arM_20, arM_21, arM_22, arM_23, arM_24, arM_25]
      try simp only [up, upL, rp, sf, cpy, Nat.reduceEqDiff, reduceIte, Int.reduceNeg, Int.reduceLE, Int.reduceLT, Int.reduceEq, Int.reduceAdd, Int.reduceSub, Int.reduceMul, ne_eq, not_true_eq_false, not_false_eq_true, true_and, and_true, and_self, false_implies, true_implies, implies_true, forall_const, Nat.reduceAdd, Int.add_zero, Int.zero_add, true_or, or_true, false_or, or_false, List.length_nil, List.length_cons]
      exact ⟨by omega, by omega, fun h => hq, fun h => absurd h (by omega)⟩
    | succ j ih =>
      intro b n a e0 e1 n0 n1 hq
      have hq : Tf l X shM 0 mX10_end Q 62 [some (vR 0), some (vI n), some (vI (if (a && (decide ((f 7 b + n).tmod (f 1 b) = 0) && allz f n j (b + 1))) = true then 1 else 0)), none] [] (f, u) := hq
      have ht := hE.2.2.2.2.2.1 b e1 (by omega)
      have hg := (hO.1 b e1 (by omega)).1
      have hm := tmod_rng (a := f 7 b + n) (by omega) (by omega) (show 0 < f 1 b by omega)
      cases a with
      | false =>
        (first | refine BX10_end_0 ?_ | refine BX10_end_2 ?_ | refine BX10_end_20 ?_ | refine BX10_end_54 ?_ | refine BX10_end_55 ?_ | refine BX10_end_62 ?_ | refine BX10_end_68 ?_ | refine BX10_end_74 ?_)
        dsimp only [bX10_end_0, bX10_end_2, bX10_end_20, bX10_end_54, bX10_end_55, bX10_end_62, bX10_end_68, bX10_end_74, o_add, o_ald, o_cge, o_cgt, o_gf, o_ial, o_ic, o_ild, o_inc, o_iret, o_ist, o_rem, o_zeq, o_zle, o_zne, tk, lget, lput, lkill, lmask, ol, flM_0_0, flM_0_1, flM_0_2, flM_0_3, flM_0_4, flM_0_5, flM_0_6, flM_0_7, flM_0_8, flM_0_9, flM_0_10, flM_0_11, flM_0_12, flM_0_13, flM_0_14, flM_0_15, flM_0_16, flM_0_17, flM_0_18, flM_0_19, flM_0_20, flM_0_21, flM_0_22, flM_0_23, flM_0_24, flM_0_25, flM_0_26, flM_0_27, flM_0_28, flM_0_29, flM_0_30, flM_0_31, flM_0_32, flM_0_33, flM_0_34, flM_0_35, flM_0_36, flM_0_37, flM_0_38, flM_0_39, flM_0_40, flM_0_41, arM_1, arM_2, arM_3, arM_4, arM_5, arM_6, arM_7, arM_8, arM_9, arM_10, arM_11, arM_12, arM_13, arM_14, arM_15, arM_16, arM_17, arM_18, arM_19, arM_20, arM_21, arM_22, arM_23, arM_24, arM_25]
        try simp only [up, upL, rp, sf, cpy, Nat.reduceEqDiff, reduceIte, Int.reduceNeg, Int.reduceLE, Int.reduceLT, Int.reduceEq, Int.reduceAdd, Int.reduceSub, Int.reduceMul, ne_eq, not_true_eq_false, not_false_eq_true, true_and, and_true, and_self, false_implies, true_implies, implies_true, forall_const, Nat.reduceAdd, Int.add_zero, Int.zero_add, true_or, or_true, false_or, or_false, List.length_nil, List.length_cons]
        exact ⟨by omega, by omega, fun h => absurd h (by omega), fun h => ⟨by decide, fun _ => hq, fun h => absurd rfl h⟩⟩
      | true =>
        rw [Bool.true_and] at hq
        (first | refine BX10_end_0 ?_ | refine BX10_end_2 ?_ | refine BX10_end_20 ?_ | refine BX10_end_54 ?_ | refine BX10_end_55 ?_ | refine BX10_end_62 ?_ | refine BX10_end_68 ?_ | refine BX10_end_74 ?_)
        dsimp only [bX10_end_0, bX10_end_2, bX10_end_20, bX10_end_54, bX10_end_55, bX10_end_62, bX10_end_68, bX10_end_74, o_add, o_ald, o_cge, o_cgt, o_gf, o_ial, o_ic, o_ild, o_inc, o_iret, o_ist, o_rem, o_zeq, o_zle, o_zne, tk, lget, lput, lkill, lmask, ol, flM_0_0, flM_0_1, flM_0_2, flM_0_3, flM_0_4, flM_0_5, flM_0_6, flM_0_7, flM_0_8, flM_0_9, flM_0_10, flM_0_11, flM_0_12, flM_0_13, flM_0_14, flM_0_15, flM_0_16, flM_0_17, flM_0_18, flM_0_19, flM_0_20, flM_0_21, flM_0_22, flM_0_23, flM_0_24, flM_0_25, flM_0_26, flM_0_27, flM_0_28, flM_0_29, flM_0_30, flM_0_31, flM_0_32, flM_0_33, flM_0_34, flM_0_35, flM_0_36, flM_0_37, flM_0_38, flM_0_39, flM_0_40, flM_0_41, arM_1, arM_2, arM_3, arM_4, arM_5, arM_6, arM_7, arM_8, arM_9, arM_10, arM_11, arM_12, arM_13, arM_14, arM_15, arM_16, arM_17, arM_18, arM_19, arM_20, arM_21, arM_22, arM_23, arM_24, arM_25]
        try simp only [up, upL, rp, sf, cpy, Nat.reduceEqDiff, reduceIte, Int.reduceNeg, Int.reduceLE, Int.reduceLT, Int.reduceEq, Int.reduceAdd, Int.reduceSub, Int.reduceMul, ne_eq, not_true_eq_false, not_false_eq_true, true_and, and_true, and_self, false_implies, true_implies, implies_true, forall_const, Nat.reduceAdd, Int.add_zero, Int.zero_add, true_or, or_true, false_or, or_false, List.length_nil, List.length_cons]
        refine ⟨by omega, by omega, fun h => absurd h (by omega), fun h => ⟨by omega, by omega, by omega, by omega, by omega, by omega, fun h5 => ?_, fun h5 => ?_⟩⟩
        · rw [decide_eq_false h5] at hq
          (first | refine BX10_end_0 ?_ | refine BX10_end_2 ?_ | refine BX10_end_20 ?_ | refine BX10_end_54 ?_ | refine BX10_end_55 ?_ | refine BX10_end_62 ?_ | refine BX10_end_68 ?_ | refine BX10_end_74 ?_)
          dsimp only [bX10_end_0, bX10_end_2, bX10_end_20, bX10_end_54, bX10_end_55, bX10_end_62, bX10_end_68, bX10_end_74, o_add, o_ald, o_cge, o_cgt, o_gf, o_ial, o_ic, o_ild, o_inc, o_iret, o_ist, o_rem, o_zeq, o_zle, o_zne, tk, lget, lput, lkill, lmask, ol, flM_0_0, flM_0_1, flM_0_2, flM_0_3, flM_0_4, flM_0_5, flM_0_6, flM_0_7, flM_0_8, flM_0_9, flM_0_10, flM_0_11, flM_0_12, flM_0_13, flM_0_14, flM_0_15, flM_0_16, flM_0_17, flM_0_18, flM_0_19, flM_0_20, flM_0_21, flM_0_22, flM_0_23, flM_0_24, flM_0_25, flM_0_26, flM_0_27, flM_0_28, flM_0_29, flM_0_30, flM_0_31, flM_0_32, flM_0_33, flM_0_34, flM_0_35, flM_0_36, flM_0_37, flM_0_38, flM_0_39, flM_0_40, flM_0_41, arM_1, arM_2, arM_3, arM_4, arM_5, arM_6, arM_7, arM_8, arM_9, arM_10, arM_11, arM_12, arM_13, arM_14, arM_15, arM_16, arM_17, arM_18, arM_19, arM_20, arM_21, arM_22, arM_23, arM_24, arM_25]
          try simp only [up, upL, rp, sf, cpy, Nat.reduceEqDiff, reduceIte, Int.reduceNeg, Int.reduceLE, Int.reduceLT, Int.reduceEq, Int.reduceAdd, Int.reduceSub, Int.reduceMul, ne_eq, not_true_eq_false, not_false_eq_true, true_and, and_true, and_self, false_implies, true_implies, implies_true, forall_const, Nat.reduceAdd, Int.add_zero, Int.zero_add, true_or, or_true, false_or, or_false, List.length_nil, List.length_cons]
          (first | refine BX10_end_0 ?_ | refine BX10_end_2 ?_ | refine BX10_end_20 ?_ | refine BX10_end_54 ?_ | refine BX10_end_55 ?_ | refine BX10_end_62 ?_ | refine BX10_end_68 ?_ | refine BX10_end_74 ?_)
          dsimp only [bX10_end_0, bX10_end_2, bX10_end_20, bX10_end_54, bX10_end_55, bX10_end_62, bX10_end_68, bX10_end_74, o_add, o_ald, o_cge, o_cgt, o_gf, o_ial, o_ic, o_ild, o_inc, o_iret, o_ist, o_rem, o_zeq, o_zle, o_zne, tk, lget, lput, lkill, lmask, ol, flM_0_0, flM_0_1, flM_0_2, flM_0_3, flM_0_4, flM_0_5, flM_0_6, flM_0_7, flM_0_8, flM_0_9, flM_0_10, flM_0_11, flM_0_12, flM_0_13, flM_0_14, flM_0_15, flM_0_16, flM_0_17, flM_0_18, flM_0_19, flM_0_20, flM_0_21, flM_0_22, flM_0_23, flM_0_24, flM_0_25, flM_0_26, flM_0_27, flM_0_28, flM_0_29, flM_0_30, flM_0_31, flM_0_32, flM_0_33, flM_0_34, flM_0_35, flM_0_36, flM_0_37, flM_0_38, flM_0_39, flM_0_40, flM_0_41, arM_1, arM_2, arM_3, arM_4, arM_5, arM_6, arM_7, arM_8, arM_9, arM_10, arM_11, arM_12, arM_13, arM_14, arM_15, arM_16, arM_17, arM_18, arM_19, arM_20, arM_21, arM_22, arM_23, arM_24, arM_25]
          try simp only [up, upL, rp, sf, cpy, Nat.reduceEqDiff, reduceIte, Int.reduceNeg, Int.reduceLE, Int.reduceLT, Int.reduceEq, Int.reduceAdd, Int.reduceSub, Int.reduceMul, ne_eq, not_true_eq_false, not_false_eq_true, true_and, and_true, and_self, false_implies, true_implies, implies_true, forall_const, Nat.reduceAdd, Int.add_zero, Int.zero_add, true_or, or_true, false_or, or_false, List.length_nil, List.length_cons]
          exact ih (b + 1) n false (by omega) (by omega) n0 n1 hq
        · rw [decide_eq_true h5] at hq
          (first | refine BX10_end_0 ?_ | refine BX10_end_2 ?_ | refine BX10_end_20 ?_ | refine BX10_end_54 ?_ | refine BX10_end_55 ?_ | refine BX10_end_62 ?_ | refine BX10_end_68 ?_ | refine BX10_end_74 ?_)
          dsimp only [bX10_end_0, bX10_end_2, bX10_end_20, bX10_end_54, bX10_end_55, bX10_end_62, bX10_end_68, bX10_end_74, o_add, o_ald, o_cge, o_cgt, o_gf, o_ial, o_ic, o_ild, o_inc, o_iret, o_ist, o_rem, o_zeq, o_zle, o_zne, tk, lget, lput, lkill, lmask, ol, flM_0_0, flM_0_1, flM_0_2, flM_0_3, flM_0_4, flM_0_5, flM_0_6, flM_0_7, flM_0_8, flM_0_9, flM_0_10, flM_0_11, flM_0_12, flM_0_13, flM_0_14, flM_0_15, flM_0_16, flM_0_17, flM_0_18, flM_0_19, flM_0_20, flM_0_21, flM_0_22, flM_0_23, flM_0_24, flM_0_25, flM_0_26, flM_0_27, flM_0_28, flM_0_29, flM_0_30, flM_0_31, flM_0_32, flM_0_33, flM_0_34, flM_0_35, flM_0_36, flM_0_37, flM_0_38, flM_0_39, flM_0_40, flM_0_41, arM_1, arM_2, arM_3, arM_4, arM_5, arM_6, arM_7, arM_8, arM_9, arM_10, arM_11, arM_12, arM_13, arM_14, arM_15, arM_16, arM_17, arM_18, arM_19, arM_20, arM_21, arM_22, arM_23, arM_24, arM_25]
          try simp only [up, upL, rp, sf, cpy, Nat.reduceEqDiff, reduceIte, Int.reduceNeg, Int.reduceLE, Int.reduceLT, Int.reduceEq, Int.reduceAdd, Int.reduceSub, Int.reduceMul, ne_eq, not_true_eq_false, not_false_eq_true, true_and, and_true, and_self, false_implies, true_implies, implies_true, forall_const, Nat.reduceAdd, Int.add_zero, Int.zero_add, true_or, or_true, false_or, or_false, List.length_nil, List.length_cons]
          exact ih (b + 1) n true (by omega) (by omega) n0 n1 hq
  have L2 : ∀ (j : Nat) (n : Int), n + j = 10000 → 1 ≤ n → 0 < f 0 1 → Q (some (vI (ens f j n))) (f, u) → Tf l X shM 0 mX10_end Q 2 [some (vR 0), some (vI n), none, none] [] (f, u) := by
    intro j
    induction j with
    | zero =>
      intro n e0 e1 hp hq
      (first | refine BX10_end_0 ?_ | refine BX10_end_2 ?_ | refine BX10_end_20 ?_ | refine BX10_end_54 ?_ | refine BX10_end_55 ?_ | refine BX10_end_62 ?_ | refine BX10_end_68 ?_ | refine BX10_end_74 ?_)
      dsimp only [bX10_end_0, bX10_end_2, bX10_end_20, bX10_end_54, bX10_end_55, bX10_end_62, bX10_end_68, bX10_end_74, o_add, o_ald, o_cge, o_cgt, o_gf, o_ial, o_ic, o_ild, o_inc, o_iret, o_ist, o_rem, o_zeq, o_zle, o_zne, tk, lget, lput, lkill, lmask, ol, flM_0_0, flM_0_1, flM_0_2, flM_0_3, flM_0_4, flM_0_5, flM_0_6, flM_0_7, flM_0_8, flM_0_9, flM_0_10, flM_0_11, flM_0_12, flM_0_13, flM_0_14, flM_0_15, flM_0_16, flM_0_17, flM_0_18, flM_0_19, flM_0_20, flM_0_21, flM_0_22, flM_0_23, flM_0_24, flM_0_25, flM_0_26, flM_0_27, flM_0_28, flM_0_29, flM_0_30, flM_0_31, flM_0_32, flM_0_33, flM_0_34, flM_0_35, flM_0_36, flM_0_37, flM_0_38, flM_0_39, flM_0_40, flM_0_41, arM_1, arM_2, arM_3, arM_4, arM_5, arM_6, arM_7, arM_8, arM_9, arM_10, arM_11, arM_12, arM_13, arM_14, arM_15, arM_16, arM_17, arM_18, arM_19, arM_20, arM_21, arM_22, arM_23, arM_24, arM_25]
      try simp only [up, upL, rp, sf, cpy, Nat.reduceEqDiff, reduceIte, Int.reduceNeg, Int.reduceLE, Int.reduceLT, Int.reduceEq, Int.reduceAdd, Int.reduceSub, Int.reduceMul, ne_eq, not_true_eq_false, not_false_eq_true, true_and, and_true, and_self, false_implies, true_implies, implies_true, forall_const, Nat.reduceAdd, Int.add_zero, Int.zero_add, true_or, or_true, false_or, or_false, List.length_nil, List.length_cons]
      refine ⟨by omega, fun h => ?_, fun h => absurd h (by omega)⟩
      (first | refine BX10_end_0 ?_ | refine BX10_end_2 ?_ | refine BX10_end_20 ?_ | refine BX10_end_54 ?_ | refine BX10_end_55 ?_ | refine BX10_end_62 ?_ | refine BX10_end_68 ?_ | refine BX10_end_74 ?_)
      dsimp only [bX10_end_0, bX10_end_2, bX10_end_20, bX10_end_54, bX10_end_55, bX10_end_62, bX10_end_68, bX10_end_74, o_add, o_ald, o_cge, o_cgt, o_gf, o_ial, o_ic, o_ild, o_inc, o_iret, o_ist, o_rem, o_zeq, o_zle, o_zne, tk, lget, lput, lkill, lmask, ol, flM_0_0, flM_0_1, flM_0_2, flM_0_3, flM_0_4, flM_0_5, flM_0_6, flM_0_7, flM_0_8, flM_0_9, flM_0_10, flM_0_11, flM_0_12, flM_0_13, flM_0_14, flM_0_15, flM_0_16, flM_0_17, flM_0_18, flM_0_19, flM_0_20, flM_0_21, flM_0_22, flM_0_23, flM_0_24, flM_0_25, flM_0_26, flM_0_27, flM_0_28, flM_0_29, flM_0_30, flM_0_31, flM_0_32, flM_0_33, flM_0_34, flM_0_35, flM_0_36, flM_0_37, flM_0_38, flM_0_39, flM_0_40, flM_0_41, arM_1, arM_2, arM_3, arM_4, arM_5, arM_6, arM_7, arM_8, arM_9, arM_10, arM_11, arM_12, arM_13, arM_14, arM_15, arM_16, arM_17, arM_18, arM_19, arM_20, arM_21, arM_22, arM_23, arM_24, arM_25]
      try simp only [up, upL, rp, sf, cpy, Nat.reduceEqDiff, reduceIte, Int.reduceNeg, Int.reduceLE, Int.reduceLT, Int.reduceEq, Int.reduceAdd, Int.reduceSub, Int.reduceMul, ne_eq, not_true_eq_false, not_false_eq_true, true_and, and_true, and_self, false_implies, true_implies, implies_true, forall_const, Nat.reduceAdd, Int.add_zero, Int.zero_add, true_or, or_true, false_or, or_false, List.length_nil, List.length_cons]
      exact hq
    | succ j ih =>
      intro n e0 e1 hp hq
      have hq : Q (some (vI (if allz f n (f 0 1).toNat 0 = true then n else ens f j (n + 1)))) (f, u) := hq
      (first | refine BX10_end_0 ?_ | refine BX10_end_2 ?_ | refine BX10_end_20 ?_ | refine BX10_end_54 ?_ | refine BX10_end_55 ?_ | refine BX10_end_62 ?_ | refine BX10_end_68 ?_ | refine BX10_end_74 ?_)
      dsimp only [bX10_end_0, bX10_end_2, bX10_end_20, bX10_end_54, bX10_end_55, bX10_end_62, bX10_end_68, bX10_end_74, o_add, o_ald, o_cge, o_cgt, o_gf, o_ial, o_ic, o_ild, o_inc, o_iret, o_ist, o_rem, o_zeq, o_zle, o_zne, tk, lget, lput, lkill, lmask, ol, flM_0_0, flM_0_1, flM_0_2, flM_0_3, flM_0_4, flM_0_5, flM_0_6, flM_0_7, flM_0_8, flM_0_9, flM_0_10, flM_0_11, flM_0_12, flM_0_13, flM_0_14, flM_0_15, flM_0_16, flM_0_17, flM_0_18, flM_0_19, flM_0_20, flM_0_21, flM_0_22, flM_0_23, flM_0_24, flM_0_25, flM_0_26, flM_0_27, flM_0_28, flM_0_29, flM_0_30, flM_0_31, flM_0_32, flM_0_33, flM_0_34, flM_0_35, flM_0_36, flM_0_37, flM_0_38, flM_0_39, flM_0_40, flM_0_41, arM_1, arM_2, arM_3, arM_4, arM_5, arM_6, arM_7, arM_8, arM_9, arM_10, arM_11, arM_12, arM_13, arM_14, arM_15, arM_16, arM_17, arM_18, arM_19, arM_20, arM_21, arM_22, arM_23, arM_24, arM_25]
      try simp only [up, upL, rp, sf, cpy, Nat.reduceEqDiff, reduceIte, Int.reduceNeg, Int.reduceLE, Int.reduceLT, Int.reduceEq, Int.reduceAdd, Int.reduceSub, Int.reduceMul, ne_eq, not_true_eq_false, not_false_eq_true, true_and, and_true, and_self, false_implies, true_implies, implies_true, forall_const, Nat.reduceAdd, Int.add_zero, Int.zero_add, true_or, or_true, false_or, or_false, List.length_nil, List.length_cons]
      refine ⟨by omega, fun h => absurd h (by omega), fun h => ⟨by omega, fun h5 => absurd h5 (by omega), fun h5 => ?_⟩⟩
      refine L1 (f 0 1).toNat 0 n true (by omega) (by omega) e1 (by omega) ?_
      rw [Bool.true_and]
      cases hz : allz f n (f 0 1).toNat 0
      · rw [hz, if_neg (by decide)] at hq
        rw [if_neg (by decide)]
        (first | refine BX10_end_0 ?_ | refine BX10_end_2 ?_ | refine BX10_end_20 ?_ | refine BX10_end_54 ?_ | refine BX10_end_55 ?_ | refine BX10_end_62 ?_ | refine BX10_end_68 ?_ | refine BX10_end_74 ?_)
        dsimp only [bX10_end_0, bX10_end_2, bX10_end_20, bX10_end_54, bX10_end_55, bX10_end_62, bX10_end_68, bX10_end_74, o_add, o_ald, o_cge, o_cgt, o_gf, o_ial, o_ic, o_ild, o_inc, o_iret, o_ist, o_rem, o_zeq, o_zle, o_zne, tk, lget, lput, lkill, lmask, ol, flM_0_0, flM_0_1, flM_0_2, flM_0_3, flM_0_4, flM_0_5, flM_0_6, flM_0_7, flM_0_8, flM_0_9, flM_0_10, flM_0_11, flM_0_12, flM_0_13, flM_0_14, flM_0_15, flM_0_16, flM_0_17, flM_0_18, flM_0_19, flM_0_20, flM_0_21, flM_0_22, flM_0_23, flM_0_24, flM_0_25, flM_0_26, flM_0_27, flM_0_28, flM_0_29, flM_0_30, flM_0_31, flM_0_32, flM_0_33, flM_0_34, flM_0_35, flM_0_36, flM_0_37, flM_0_38, flM_0_39, flM_0_40, flM_0_41, arM_1, arM_2, arM_3, arM_4, arM_5, arM_6, arM_7, arM_8, arM_9, arM_10, arM_11, arM_12, arM_13, arM_14, arM_15, arM_16, arM_17, arM_18, arM_19, arM_20, arM_21, arM_22, arM_23, arM_24, arM_25]
        try simp only [up, upL, rp, sf, cpy, Nat.reduceEqDiff, reduceIte, Int.reduceNeg, Int.reduceLE, Int.reduceLT, Int.reduceEq, Int.reduceAdd, Int.reduceSub, Int.reduceMul, ne_eq, not_true_eq_false, not_false_eq_true, true_and, and_true, and_self, false_implies, true_implies, implies_true, forall_const, Nat.reduceAdd, Int.add_zero, Int.zero_add, true_or, or_true, false_or, or_false, List.length_nil, List.length_cons]
        (first | refine BX10_end_0 ?_ | refine BX10_end_2 ?_ | refine BX10_end_20 ?_ | refine BX10_end_54 ?_ | refine BX10_end_55 ?_ | refine BX10_end_62 ?_ | refine BX10_end_68 ?_ | refine BX10_end_74 ?_)
        dsimp only [bX10_end_0, bX10_end_2, bX10_end_20, bX10_end_54, bX10_end_55, bX10_end_62, bX10_end_68, bX10_end_74, o_add, o_ald, o_cge, o_cgt, o_gf, o_ial, o_ic, o_ild, o_inc, o_iret, o_ist, o_rem, o_zeq, o_zle, o_zne, tk, lget, lput, lkill, lmask, ol, flM_0_0, flM_0_1, flM_0_2, flM_0_3, flM_0_4, flM_0_5, flM_0_6, flM_0_7, flM_0_8, flM_0_9, flM_0_10, flM_0_11, flM_0_12, flM_0_13, flM_0_14, flM_0_15, flM_0_16, flM_0_17, flM_0_18, flM_0_19, flM_0_20, flM_0_21, flM_0_22, flM_0_23, flM_0_24, flM_0_25, flM_0_26, flM_0_27, flM_0_28, flM_0_29, flM_0_30, flM_0_31, flM_0_32, flM_0_33, flM_0_34, flM_0_35, flM_0_36, flM_0_37, flM_0_38, flM_0_39, flM_0_40, flM_0_41, arM_1, arM_2, arM_3, arM_4, arM_5, arM_6, arM_7, arM_8, arM_9, arM_10, arM_11, arM_12, arM_13, arM_14, arM_15, arM_16, arM_17, arM_18, arM_19, arM_20, arM_21, arM_22, arM_23, arM_24, arM_25]
        try simp only [up, upL, rp, sf, cpy, Nat.reduceEqDiff, reduceIte, Int.reduceNeg, Int.reduceLE, Int.reduceLT, Int.reduceEq, Int.reduceAdd, Int.reduceSub, Int.reduceMul, ne_eq, not_true_eq_false, not_false_eq_true, true_and, and_true, and_self, false_implies, true_implies, implies_true, forall_const, Nat.reduceAdd, Int.add_zero, Int.zero_add, true_or, or_true, false_or, or_false, List.length_nil, List.length_cons]
        exact ih (n + 1) (by omega) (by omega) hp hq
      · rw [hz, if_pos rfl] at hq
        rw [if_pos rfl]
        (first | refine BX10_end_0 ?_ | refine BX10_end_2 ?_ | refine BX10_end_20 ?_ | refine BX10_end_54 ?_ | refine BX10_end_55 ?_ | refine BX10_end_62 ?_ | refine BX10_end_68 ?_ | refine BX10_end_74 ?_)
        dsimp only [bX10_end_0, bX10_end_2, bX10_end_20, bX10_end_54, bX10_end_55, bX10_end_62, bX10_end_68, bX10_end_74, o_add, o_ald, o_cge, o_cgt, o_gf, o_ial, o_ic, o_ild, o_inc, o_iret, o_ist, o_rem, o_zeq, o_zle, o_zne, tk, lget, lput, lkill, lmask, ol, flM_0_0, flM_0_1, flM_0_2, flM_0_3, flM_0_4, flM_0_5, flM_0_6, flM_0_7, flM_0_8, flM_0_9, flM_0_10, flM_0_11, flM_0_12, flM_0_13, flM_0_14, flM_0_15, flM_0_16, flM_0_17, flM_0_18, flM_0_19, flM_0_20, flM_0_21, flM_0_22, flM_0_23, flM_0_24, flM_0_25, flM_0_26, flM_0_27, flM_0_28, flM_0_29, flM_0_30, flM_0_31, flM_0_32, flM_0_33, flM_0_34, flM_0_35, flM_0_36, flM_0_37, flM_0_38, flM_0_39, flM_0_40, flM_0_41, arM_1, arM_2, arM_3, arM_4, arM_5, arM_6, arM_7, arM_8, arM_9, arM_10, arM_11, arM_12, arM_13, arM_14, arM_15, arM_16, arM_17, arM_18, arM_19, arM_20, arM_21, arM_22, arM_23, arM_24, arM_25]
        try simp only [up, upL, rp, sf, cpy, Nat.reduceEqDiff, reduceIte, Int.reduceNeg, Int.reduceLE, Int.reduceLT, Int.reduceEq, Int.reduceAdd, Int.reduceSub, Int.reduceMul, ne_eq, not_true_eq_false, not_false_eq_true, true_and, and_true, and_self, false_implies, true_implies, implies_true, forall_const, Nat.reduceAdd, Int.add_zero, Int.zero_add, true_or, or_true, false_or, or_false, List.length_nil, List.length_cons]
        exact hq
  refine EX10_end rfl ?_
  (first | refine BX10_end_0 ?_ | refine BX10_end_2 ?_ | refine BX10_end_20 ?_ | refine BX10_end_54 ?_ | refine BX10_end_55 ?_ | refine BX10_end_62 ?_ | refine BX10_end_68 ?_ | refine BX10_end_74 ?_)
  dsimp only [bX10_end_0, bX10_end_2, bX10_end_20, bX10_end_54, bX10_end_55, bX10_end_62, bX10_end_68, bX10_end_74, o_add, o_ald, o_cge, o_cgt, o_gf, o_ial, o_ic, o_ild, o_inc, o_iret, o_ist, o_rem, o_zeq, o_zle, o_zne, tk, lget, lput, lkill, lmask, ol, lent, flM_0_0, flM_0_1, flM_0_2, flM_0_3, flM_0_4, flM_0_5, flM_0_6, flM_0_7, flM_0_8, flM_0_9, flM_0_10, flM_0_11, flM_0_12, flM_0_13, flM_0_14, flM_0_15, flM_0_16, flM_0_17, flM_0_18, flM_0_19, flM_0_20, flM_0_21, flM_0_22, flM_0_23, flM_0_24, flM_0_25, flM_0_26, flM_0_27, flM_0_28, flM_0_29, flM_0_30, flM_0_31, flM_0_32, flM_0_33, flM_0_34, flM_0_35, flM_0_36, flM_0_37, flM_0_38, flM_0_39, flM_0_40, flM_0_41, arM_1, arM_2, arM_3, arM_4, arM_5, arM_6, arM_7, arM_8, arM_9, arM_10, arM_11, arM_12, arM_13, arM_14, arM_15, arM_16, arM_17, arM_18, arM_19, arM_20, arM_21, arM_22, arM_23, arM_24, arM_25]
  try simp only [up, upL, rp, sf, cpy, Nat.reduceEqDiff, reduceIte, Int.reduceNeg, Int.reduceLE, Int.reduceLT, Int.reduceEq, Int.reduceAdd, Int.reduceSub, Int.reduceMul, ne_eq, not_true_eq_false, not_false_eq_true, true_and, and_true, and_self, false_implies, true_implies, implies_true, forall_const, Nat.reduceAdd, Int.add_zero, Int.zero_add, true_or, or_true, false_or, or_false, List.length_nil, List.length_cons]
  by_cases hp : 0 < f 0 1
  · unfold endM at hq
    rw [if_neg (by omega)] at hq
    exact L2 9999 1 (by omega) (by omega) hp hq
  · unfold endM at hq
    rw [if_pos (by omega)] at hq
    (first | refine BX10_end_0 ?_ | refine BX10_end_2 ?_ | refine BX10_end_20 ?_ | refine BX10_end_54 ?_ | refine BX10_end_55 ?_ | refine BX10_end_62 ?_ | refine BX10_end_68 ?_ | refine BX10_end_74 ?_)
    dsimp only [bX10_end_0, bX10_end_2, bX10_end_20, bX10_end_54, bX10_end_55, bX10_end_62, bX10_end_68, bX10_end_74, o_add, o_ald, o_cge, o_cgt, o_gf, o_ial, o_ic, o_ild, o_inc, o_iret, o_ist, o_rem, o_zeq, o_zle, o_zne, tk, lget, lput, lkill, lmask, ol, flM_0_0, flM_0_1, flM_0_2, flM_0_3, flM_0_4, flM_0_5, flM_0_6, flM_0_7, flM_0_8, flM_0_9, flM_0_10, flM_0_11, flM_0_12, flM_0_13, flM_0_14, flM_0_15, flM_0_16, flM_0_17, flM_0_18, flM_0_19, flM_0_20, flM_0_21, flM_0_22, flM_0_23, flM_0_24, flM_0_25, flM_0_26, flM_0_27, flM_0_28, flM_0_29, flM_0_30, flM_0_31, flM_0_32, flM_0_33, flM_0_34, flM_0_35, flM_0_36, flM_0_37, flM_0_38, flM_0_39, flM_0_40, flM_0_41, arM_1, arM_2, arM_3, arM_4, arM_5, arM_6, arM_7, arM_8, arM_9, arM_10, arM_11, arM_12, arM_13, arM_14, arM_15, arM_16, arM_17, arM_18, arM_19, arM_20, arM_21, arM_22, arM_23, arM_24, arM_25]
    try simp only [up, upL, rp, sf, cpy, Nat.reduceEqDiff, reduceIte, Int.reduceNeg, Int.reduceLE, Int.reduceLT, Int.reduceEq, Int.reduceAdd, Int.reduceSub, Int.reduceMul, ne_eq, not_true_eq_false, not_false_eq_true, true_and, and_true, and_self, false_implies, true_implies, implies_true, forall_const, Nat.reduceAdd, Int.add_zero, Int.zero_add, true_or, or_true, false_or, or_false, List.length_nil, List.length_cons]
    refine ⟨by omega, fun h5 => ?_, fun h5 => absurd h5 (by omega)⟩
    (first | refine BX10_end_0 ?_ | refine BX10_end_2 ?_ | refine BX10_end_20 ?_ | refine BX10_end_54 ?_ | refine BX10_end_55 ?_ | refine BX10_end_62 ?_ | refine BX10_end_68 ?_ | refine BX10_end_74 ?_)
    dsimp only [bX10_end_0, bX10_end_2, bX10_end_20, bX10_end_54, bX10_end_55, bX10_end_62, bX10_end_68, bX10_end_74, o_add, o_ald, o_cge, o_cgt, o_gf, o_ial, o_ic, o_ild, o_inc, o_iret, o_ist, o_rem, o_zeq, o_zle, o_zne, tk, lget, lput, lkill, lmask, ol, flM_0_0, flM_0_1, flM_0_2, flM_0_3, flM_0_4, flM_0_5, flM_0_6, flM_0_7, flM_0_8, flM_0_9, flM_0_10, flM_0_11, flM_0_12, flM_0_13, flM_0_14, flM_0_15, flM_0_16, flM_0_17, flM_0_18, flM_0_19, flM_0_20, flM_0_21, flM_0_22, flM_0_23, flM_0_24, flM_0_25, flM_0_26, flM_0_27, flM_0_28, flM_0_29, flM_0_30, flM_0_31, flM_0_32, flM_0_33, flM_0_34, flM_0_35, flM_0_36, flM_0_37, flM_0_38, flM_0_39, flM_0_40, flM_0_41, arM_1, arM_2, arM_3, arM_4, arM_5, arM_6, arM_7, arM_8, arM_9, arM_10, arM_11, arM_12, arM_13, arM_14, arM_15, arM_16, arM_17, arM_18, arM_19, arM_20, arM_21, arM_22, arM_23, arM_24, arM_25]
    try simp only [up, upL, rp, sf, cpy, Nat.reduceEqDiff, reduceIte, Int.reduceNeg, Int.reduceLE, Int.reduceLT, Int.reduceEq, Int.reduceAdd, Int.reduceSub, Int.reduceMul, ne_eq, not_true_eq_false, not_false_eq_true, true_and, and_true, and_self, false_implies, true_implies, implies_true, forall_const, Nat.reduceAdd, Int.add_zero, Int.zero_add, true_or, or_true, false_or, or_false, List.length_nil, List.length_cons]
    exact hq
theorem k_lcm {l : Launch} {X : Cx} {Q : Qt} {M : Me} {a b : Int} (ha : 1 ≤ a ∧ a ≤ 10000) (hb : 2 ≤ b ∧ b ≤ 60) (hq : ∀ m, 1 ≤ m → m ≤ 600000 → b ∣ m → a ∣ m → (∀ x, a ∣ x → b ∣ x → m ∣ x) → Q (some (vI m)) M) : TM l X shC 0 mX9_leastCommonMultiple [vI a, vI b] M Q := by
  -- the least j with b dividing j * a
  have fin : ∀ j : Int, 1 ≤ j → j ≤ b → b ∣ j * a → (∀ k, 1 ≤ k → k < j → ¬ b ∣ k * a) → Q (some (vI (j * a))) M := by
    intro j j0 j1 hd hk
    have p1 : 1 * a ≤ j * a := Int.mul_le_mul_of_nonneg_right j0 (by omega)
    have p2 : j * a ≤ 60 * a := Int.mul_le_mul_of_nonneg_right (by omega) (by omega)
    refine hq (j * a) (by omega) (by omega) hd ⟨j, Int.mul_comm j a⟩ (fun x ax bx => ?_)
    obtain ⟨q, rfl⟩ := ax
    have h1 := Int.emod_nonneg q (show j ≠ 0 by omega)
    have h2 := Int.emod_lt_of_pos q (show 0 < j by omega)
    have h3 := Int.mul_ediv_add_emod q j
    have h4 : b ∣ (q % j) * a := by
      have e : (q % j) * a = a * q - (q / j) * (j * a) := by
        rw [show q % j = q - j * (q / j) by omega, Int.sub_mul, Int.mul_comm q a, Int.mul_comm j (q / j), Int.mul_assoc]
      rw [e]
      exact Int.dvd_sub bx (Int.dvd_trans hd ⟨q / j, Int.mul_comm _ _⟩)
    have h5 : q % j = 0 := by
      rcases Int.lt_or_le 0 (q % j) with z | z
      · exact absurd h4 (hk _ (by omega) h2)
      · omega
    refine ⟨q / j, ?_⟩
    rw [h5, Int.add_zero] at h3
    rw [← h3, Int.mul_ediv_cancel_left _ (by omega), Int.mul_comm j a, Int.mul_assoc]
  have L : ∀ (n : Nat) (i : Int), i + n = b → 1 ≤ i → (∀ k, 1 ≤ k → k < i → ¬ b ∣ k * a) → Tf l X shC 0 mX9_leastCommonMultiple Q 4 [some (vI a), some (vI b), some (vI (i * a)), some (vI i)] [] M := by
    intro n
    induction n with
    | zero =>
      intro i e0 e1 hk
      (first | refine BX9_leastCommonMultiple_0 ?_ | refine BX9_leastCommonMultiple_4 ?_ | refine BX9_leastCommonMultiple_25 ?_)
      dsimp only [bX9_leastCommonMultiple_0, bX9_leastCommonMultiple_4, bX9_leastCommonMultiple_25, o_add, o_cge, o_ic, o_ild, o_inc, o_iret, o_ist, o_rem, o_zeq, tk, lget, lput, lkill, lmask, ol]
      try simp only [up, upL, rp, sf, cpy, Nat.reduceEqDiff, reduceIte, Int.reduceNeg, Int.reduceLE, Int.reduceLT, Int.reduceEq, Int.reduceAdd, Int.reduceSub, Int.reduceMul, ne_eq, not_true_eq_false, not_false_eq_true, true_and, and_true, and_self, false_implies, true_implies, implies_true, forall_const, Nat.reduceAdd, Int.add_zero, Int.zero_add, true_or, or_true, false_or, or_false, List.length_nil, List.length_cons]
      refine ⟨by omega, by omega, fun h => ?_, fun h => absurd h (by omega)⟩
      (first | refine BX9_leastCommonMultiple_0 ?_ | refine BX9_leastCommonMultiple_4 ?_ | refine BX9_leastCommonMultiple_25 ?_)
      dsimp only [bX9_leastCommonMultiple_0, bX9_leastCommonMultiple_4, bX9_leastCommonMultiple_25, o_add, o_cge, o_ic, o_ild, o_inc, o_iret, o_ist, o_rem, o_zeq, tk, lget, lput, lkill, lmask, ol]
      try simp only [up, upL, rp, sf, cpy, Nat.reduceEqDiff, reduceIte, Int.reduceNeg, Int.reduceLE, Int.reduceLT, Int.reduceEq, Int.reduceAdd, Int.reduceSub, Int.reduceMul, ne_eq, not_true_eq_false, not_false_eq_true, true_and, and_true, and_self, false_implies, true_implies, implies_true, forall_const, Nat.reduceAdd, Int.add_zero, Int.zero_add, true_or, or_true, false_or, or_false, List.length_nil, List.length_cons]
      exact fin i e1 (by omega) ⟨a, by rw [show i = b by omega]⟩ hk
    | succ n ih =>
      intro i e0 e1 hk
      have p1 : 1 * a ≤ i * a := Int.mul_le_mul_of_nonneg_right e1 (by omega)
      have p2 : i * a ≤ 60 * a := Int.mul_le_mul_of_nonneg_right (by omega) (by omega)
      have hm := tmod_rng (a := i * a) (b := b) (by omega) (by omega) (by omega)
      have hm2 : (i * a).tmod b = (i * a) % b := Int.tmod_eq_emod_of_nonneg (by omega)
      (first | refine BX9_leastCommonMultiple_0 ?_ | refine BX9_leastCommonMultiple_4 ?_ | refine BX9_leastCommonMultiple_25 ?_)
      dsimp only [bX9_leastCommonMultiple_0, bX9_leastCommonMultiple_4, bX9_leastCommonMultiple_25, o_add, o_cge, o_ic, o_ild, o_inc, o_iret, o_ist, o_rem, o_zeq, tk, lget, lput, lkill, lmask, ol]
      try simp only [up, upL, rp, sf, cpy, Nat.reduceEqDiff, reduceIte, Int.reduceNeg, Int.reduceLE, Int.reduceLT, Int.reduceEq, Int.reduceAdd, Int.reduceSub, Int.reduceMul, ne_eq, not_true_eq_false, not_false_eq_true, true_and, and_true, and_self, false_implies, true_implies, implies_true, forall_const, Nat.reduceAdd, Int.add_zero, Int.zero_add, true_or, or_true, false_or, or_false, List.length_nil, List.length_cons]
      refine ⟨by omega, by omega, fun h => absurd h (by omega), fun h => ⟨by omega, by omega, by omega, by omega, fun h5 => ?_, fun h5 => ?_⟩⟩
      · (first | refine BX9_leastCommonMultiple_0 ?_ | refine BX9_leastCommonMultiple_4 ?_ | refine BX9_leastCommonMultiple_25 ?_)
        dsimp only [bX9_leastCommonMultiple_0, bX9_leastCommonMultiple_4, bX9_leastCommonMultiple_25, o_add, o_cge, o_ic, o_ild, o_inc, o_iret, o_ist, o_rem, o_zeq, tk, lget, lput, lkill, lmask, ol]
        try simp only [up, upL, rp, sf, cpy, Nat.reduceEqDiff, reduceIte, Int.reduceNeg, Int.reduceLE, Int.reduceLT, Int.reduceEq, Int.reduceAdd, Int.reduceSub, Int.reduceMul, ne_eq, not_true_eq_false, not_false_eq_true, true_and, and_true, and_self, false_implies, true_implies, implies_true, forall_const, Nat.reduceAdd, Int.add_zero, Int.zero_add, true_or, or_true, false_or, or_false, List.length_nil, List.length_cons]
        exact fin i e1 (by omega) (Int.dvd_of_emod_eq_zero (by omega)) hk
      · rw [show i * a + a = (i + 1) * a by rw [Int.add_mul, Int.one_mul]]
        refine ih (i + 1) (by omega) (by omega) (fun k k0 k1 => ?_)
        by_cases hki : k = i
        · rw [hki]
          intro q
          have := Int.emod_eq_zero_of_dvd q
          omega
        · exact hk k k0 (by omega)
  refine EX9_leastCommonMultiple rfl ?_
  (first | refine BX9_leastCommonMultiple_0 ?_ | refine BX9_leastCommonMultiple_4 ?_ | refine BX9_leastCommonMultiple_25 ?_)
  dsimp only [bX9_leastCommonMultiple_0, bX9_leastCommonMultiple_4, bX9_leastCommonMultiple_25, o_add, o_cge, o_ic, o_ild, o_inc, o_iret, o_ist, o_rem, o_zeq, tk, lget, lput, lkill, lmask, ol, lent]
  try simp only [up, upL, rp, sf, cpy, Nat.reduceEqDiff, reduceIte, Int.reduceNeg, Int.reduceLE, Int.reduceLT, Int.reduceEq, Int.reduceAdd, Int.reduceSub, Int.reduceMul, ne_eq, not_true_eq_false, not_false_eq_true, true_and, and_true, and_self, false_implies, true_implies, implies_true, forall_const, Nat.reduceAdd, Int.add_zero, Int.zero_add, true_or, or_true, false_or, or_false, List.length_nil, List.length_cons]
  have := L (b - 1).toNat 1 (by omega) (by omega) (fun k k0 k1 => by omega)
  rw [Int.one_mul] at this
  exact this
/-- what stands between two boxes of the sieve -/
def EI (f : Nat → Int → Int) (b h st : Int) : Prop := (1 ≤ h ∧ h ≤ 9999) ∧ (1 ≤ st ∧ st ≤ 10000) ∧ GG f b h ∧ (∀ n, 1 ≤ n → n ≤ 9999 → GG f b n → ∃ k, 0 ≤ k ∧ n = h + k * st) ∧ ((∀ c, 0 ≤ c → c < b → f 1 c ∣ st) ∨ st = 10000)
theorem EI_0 {f : Nat → Int → Int} : EI f 0 1 1 := ⟨by omega, by omega, fun c c0 c1 => by omega, fun n n0 n1 _ => ⟨n - 1, by omega, by omega⟩, Or.inl (fun c c0 c1 => by omega)⟩
theorem GG_up {f : Nat → Int → Int} {b n : Int} (h : GG f (b + 1) n) (b0 : 0 ≤ b) : GG f b n ∧ (f 7 b + n) % f 1 b = 0 := ⟨fun c c0 c1 => h c c0 (by omega), h b b0 (by omega)⟩
theorem GG_le {f : Nat → Int → Int} {b c n : Int} (h : GG f c n) (hb : b ≤ c) : GG f b n := fun d d0 d1 => h d d0 (by omega)
theorem EI_none {f : Nat → Int → Int} {b h st : Int} (hE : OkE f) (b0 : 0 ≤ b) (b1 : b < f 0 1) (hi : EI f b h st) (hn : ∀ k, 0 ≤ k → k < f 1 b → (f 7 b + (h + k * st)) % f 1 b ≠ 0) : ∀ n, 1 ≤ n → n ≤ 9999 → ¬ GG f (b + 1) n := by
  intro n n0 n1 hg
  have ht := hE.2.2.2.2.2.1 b b0 b1
  obtain ⟨g1, g2⟩ := GG_up hg b0
  obtain ⟨k, k0, rfl⟩ := hi.2.2.2.1 n n0 n1 g1
  have h1 := Int.emod_nonneg k (show f 1 b ≠ 0 by omega)
  have h2 := Int.emod_lt_of_pos k (show 0 < f 1 b by omega)
  refine hn (k % f 1 b) h1 h2 ?_
  have e : f 7 b + (h + k * st) = f 7 b + (h + (k % f 1 b) * st) + f 1 b * ((k / f 1 b) * st) := by
    have h3 := Int.mul_ediv_add_emod k (f 1 b)
    have : k * st = (k % f 1 b) * st + f 1 b * ((k / f 1 b) * st) := by
      rw [← Int.mul_assoc, ← Int.add_mul]
      congr 1
      omega
    omega
  rw [e, Int.add_mul_emod_self_left] at g2
  exact g2
theorem EI_far {f : Nat → Int → Int} {b h st i : Int} (b0 : 0 ≤ b) (hi : EI f b h st) (hm : ∀ k, 0 ≤ k → k < i → (f 7 b + (h + k * st)) % f 1 b ≠ 0) : ∀ n, 1 ≤ n → n ≤ 9999 → GG f (b + 1) n → ∃ k, i ≤ k ∧ 0 ≤ k ∧ n = h + k * st ∧ h + i * st ≤ n := by
  intro n n0 n1 hg
  obtain ⟨g1, g2⟩ := GG_up hg b0
  obtain ⟨k, k0, rfl⟩ := hi.2.2.2.1 n n0 n1 g1
  have hik : i ≤ k := by
    rcases Int.lt_or_le k i with z | z
    · exact absurd g2 (hm k k0 z)
    · exact z
  have hs := hi.2.1
  have : i * st ≤ k * st := Int.mul_le_mul_of_nonneg_right hik (by omega)
  exact ⟨k, hik, k0, rfl, by omega⟩
theorem EI_s {f : Nat → Int → Int} {b h st i m : Int} (hE : OkE f) (b0 : 0 ≤ b) (b1 : b < f 0 1) (hi : EI f b h st) (i0 : 0 ≤ i) (hz : (f 7 b + (h + i * st)) % f 1 b = 0) (hm : ∀ k, 0 ≤ k → k < i → (f 7 b + (h + k * st)) % f 1 b ≠ 0) (hl : h + i * st ≤ 9999) (m1 : 1 ≤ m) (md : f 1 b ∣ m) (ms : st ∣ m) (mx : ∀ x, st ∣ x → f 1 b ∣ x → m ∣ x) : EI f (b + 1) (h + i * st) (if 10000 < m then 10000 else m) := by
  have ht := hE.2.2.2.2.2.1 b b0 b1
  have far := EI_far b0 hi hm
  obtain ⟨hh, hs, hg, hn, hd⟩ := hi
  have pz : 0 ≤ i * st := Int.mul_nonneg i0 (by omega)
  have st0 : st = 10000 → i = 0 := by
    intro q
    rw [q] at hl
    omega
  refine ⟨by omega, by split <;> omega, ?_, ?_, ?_⟩
  · intro c c0 c1
    by_cases hc : c = b
    · rw [hc]; exact hz
    · rcases hd with hd | hd
      · obtain ⟨q, hq⟩ := hd c c0 (by omega)
        have := hg c c0 (by omega)
        rw [show f 7 c + (h + i * st) = f 7 c + h + f 1 c * (q * i) by rw [← Int.mul_assoc, ← hq, Int.mul_comm st i]; omega, Int.add_mul_emod_self_left]
        exact this
      · rw [st0 hd, Int.zero_mul, Int.add_zero]
        exact hg c c0 (by omega)
  · intro n n0 n1 hgn
    obtain ⟨k, k0, k1, rfl, k2⟩ := far n n0 n1 hgn
    have g2 := (GG_up hgn b0).2
    have d1 : st ∣ (h + k * st) - (h + i * st) := ⟨k - i, by rw [Int.mul_comm st, Int.sub_mul]; omega⟩
    have d2 : f 1 b ∣ (h + k * st) - (h + i * st) := by
      have e : (h + k * st) - (h + i * st) = (f 7 b + (h + k * st)) - (f 7 b + (h + i * st)) := by omega
      rw [e]
      exact Int.dvd_sub (Int.dvd_of_emod_eq_zero g2) (Int.dvd_of_emod_eq_zero hz)
    obtain ⟨v, hv⟩ := mx _ d1 d2
    have v0 : 0 ≤ v := by
      rcases Int.lt_or_le v 0 with z | z
      · exfalso
        have : m * v ≤ m * (-1) := Int.mul_le_mul_of_nonneg_left (by omega) (by omega)
        omega
      · exact z
    split
    · refine ⟨0, by omega, ?_⟩
      rcases Int.lt_or_le 0 v with z | z
      · exfalso
        have : m * 1 ≤ m * v := Int.mul_le_mul_of_nonneg_left (by omega) (by omega)
        omega
      · rw [show v = 0 by omega, Int.mul_zero] at hv
        omega
    · refine ⟨v, v0, ?_⟩
      rw [Int.mul_comm v m]
      omega
  · split
    · exact Or.inr rfl
    · rename_i hlt
      rcases hd with hd | hd
      · refine Or.inl (fun c c0 c1 => ?_)
        by_cases hc : c = b
        · rw [hc]; exact md
        · exact Int.dvd_trans (hd c c0 (by omega)) ms
      · right
        obtain ⟨q, hq⟩ := ms
        rw [hd] at hq
        omega
theorem k_endOfAll {l : Launch} {X : Cx} {Q : Qt} {C f : Nat → Int → Int} {w : Int → Int} (hS : SimE C f) (hE : OkE f) (hN : SimN f (C 18) (f 7)) (hO : OkR f (f 7)) (hq : Q (some (vI (endM f))) (C, w)) : TM l X shC 1 mX9_endOfAll [vR 10, vR 17] (C, w) Q := by
  have hB := hE.2.1
  have eB := hS.2.1
  have nul : 0 < f 0 1 → (∀ n, 1 ≤ n → n ≤ 9999 → ¬ GG f (f 0 1) n) → Tf l X shC 1 mX9_endOfAll Q 93 [none, none, none, none, none, none, none] [] (C, w) := by
    intro hp h
    have : endM f = -1 := by
      unfold endM
      rw [if_neg (by omega)]
      exact ens_none hE hO 9999 1 (by omega) (fun k k0 k1 => h k k0 (by omega))
    rw [this] at hq
    (first | refine BX9_endOfAll_0 ?_ | refine BX9_endOfAll_9 ?_ | refine BX9_endOfAll_16 ?_ | refine BX9_endOfAll_41 ?_ | refine BX9_endOfAll_54 ?_ | refine BX9_endOfAll_72 ?_ | refine BX9_endOfAll_85 ?_ | refine BX9_endOfAll_93 ?_ | refine BX9_endOfAll_95 ?_ | refine BX9_endOfAll_101 ?_ | refine BX9_endOfAll_114 ?_)
    dsimp only [bX9_endOfAll_0, bX9_endOfAll_9, bX9_endOfAll_16, bX9_endOfAll_41, bX9_endOfAll_54, bX9_endOfAll_72, bX9_endOfAll_85, bX9_endOfAll_93, bX9_endOfAll_95, bX9_endOfAll_101, bX9_endOfAll_114, o_add, o_ald, o_cge, o_cgt, o_gf, o_ial, o_ic, o_ild, o_inc, o_iret, o_ist, o_max, o_min, o_rem, o_s2, o_v1, o_zeq, o_zne, tk, lget, lput, lkill, lmask, ol, flC_0_0, flC_0_1, flC_0_2, flC_0_3, flC_0_4, flC_0_5, flC_0_6, flC_0_7, flC_0_8, flC_0_9, flC_0_10, flC_1_0, flC_1_1, flC_1_2, flC_1_3, flC_1_4, flC_1_5, flC_1_6, flC_1_7, flC_2_0, flC_2_1, flC_2_2, flC_2_3, flC_2_4, flC_2_5, flC_2_6, flC_2_7, flC_2_8, arC_3, arC_4, arC_5, arC_6, arC_7, arC_8, arC_9, flC_10_0, flC_10_1, flC_10_2, flC_10_3, flC_10_4, flC_10_5, flC_10_6, flC_10_7, flC_10_8, arC_11, arC_12, arC_13, arC_14, arC_15, arC_16, flC_17_0, arC_18, flC_19_0, flC_19_1, flC_19_2, arC_20, flC_21_0, flC_21_1, flC_21_2, arC_22, arC_23, flC_24_0, flC_24_1, flC_24_2, arC_25, flC_26_0, flC_26_1, flC_26_2, arC_27, arC_28, flC_29_0, arC_30, flC_31_0, flC_31_1, arC_32, arC_33, arC_34]
    try simp only [up, upL, rp, sf, cpy, Nat.reduceEqDiff, reduceIte, Int.reduceNeg, Int.reduceLE, Int.reduceLT, Int.reduceEq, Int.reduceAdd, Int.reduceSub, Int.reduceMul, ne_eq, not_true_eq_false, not_false_eq_true, true_and, and_true, and_self, false_implies, true_implies, implies_true, forall_const, Nat.reduceAdd, Int.add_zero, Int.zero_add, true_or, or_true, false_or, or_false, List.length_nil, List.length_cons]
    exact hq
  have L1 : ∀ (n : Nat) (i b h st : Int), i + n = f 1 b → 0 ≤ i → 0 ≤ b → b < f 0 1 → EI f b h st → (∀ k, 0 ≤ k → k < i → (f 7 b + (h + k * st)) % f 1 b ≠ 0) → (∀ h' st', EI f (b + 1) h' st' → Tf l X shC 1 mX9_endOfAll Q 16 [some (vR 10), some (vR 17), some (vI h'), some (vI st'), some (vI (b + 1)), none, none] [] (C, w)) → Tf l X shC 1 mX9_endOfAll Q 41 [some (vR 10), some (vR 17), some (vI (h + i * st)), some (vI st), some (vI b), some (vI (f 1 b)), some (vI i)] [] (C, w) := by
    intro n
    induction n with
    | zero =>
      intro i b h st e0 e1 b0 b1 hi hk hx
      have ht := hE.2.2.2.2.2.1 b b0 b1
      have hg := (hO.1 b b0 b1).1
      have en := (hN.1 b b0 b1).1
      have hs := hi.2.1
      have hh := hi.1
      have p0 : 0 ≤ i * st := Int.mul_nonneg e1 (by omega)
      have p1 : i * st ≤ 60 * st := Int.mul_le_mul_of_nonneg_right (by omega) (by omega)
      have nn := EI_none hE b0 b1 hi (fun k k0 k1 => hk k k0 (by omega))
      have nu := nul (by omega) (fun n n0 n1 q => nn n n0 n1 (GG_le q (by omega)))
      have hm := tmod_rng (a := f 7 b + (h + i * st)) (by omega) (by omega) (show 0 < f 1 b by omega)
      have hm2 : (f 7 b + (h + i * st)).tmod (f 1 b) = (f 7 b + (h + i * st)) % f 1 b := Int.tmod_eq_emod_of_nonneg (by omega)
      have hne : (f 7 b + (h + i * st)) % f 1 b ≠ 0 := by
        have := hk 0 (by omega) (by omega)
        rw [Int.zero_mul, Int.add_zero] at this
        rw [show i = f 1 b by omega, show f 7 b + (h + f 1 b * st) = f 7 b + h + f 1 b * st by omega, Int.add_mul_emod_self_left]
        exact this
      (first | refine BX9_endOfAll_0 ?_ | refine BX9_endOfAll_9 ?_ | refine BX9_endOfAll_16 ?_ | refine BX9_endOfAll_41 ?_ | refine BX9_endOfAll_54 ?_ | refine BX9_endOfAll_72 ?_ | refine BX9_endOfAll_85 ?_ | refine BX9_endOfAll_93 ?_ | refine BX9_endOfAll_95 ?_ | refine BX9_endOfAll_101 ?_ | refine BX9_endOfAll_114 ?_)
      dsimp only [bX9_endOfAll_0, bX9_endOfAll_9, bX9_endOfAll_16, bX9_endOfAll_41, bX9_endOfAll_54, bX9_endOfAll_72, bX9_endOfAll_85, bX9_endOfAll_93, bX9_endOfAll_95, bX9_endOfAll_101, bX9_endOfAll_114, o_add, o_ald, o_cge, o_cgt, o_gf, o_ial, o_ic, o_ild, o_inc, o_iret, o_ist, o_max, o_min, o_rem, o_s2, o_v1, o_zeq, o_zne, tk, lget, lput, lkill, lmask, ol, flC_0_0, flC_0_1, flC_0_2, flC_0_3, flC_0_4, flC_0_5, flC_0_6, flC_0_7, flC_0_8, flC_0_9, flC_0_10, flC_1_0, flC_1_1, flC_1_2, flC_1_3, flC_1_4, flC_1_5, flC_1_6, flC_1_7, flC_2_0, flC_2_1, flC_2_2, flC_2_3, flC_2_4, flC_2_5, flC_2_6, flC_2_7, flC_2_8, arC_3, arC_4, arC_5, arC_6, arC_7, arC_8, arC_9, flC_10_0, flC_10_1, flC_10_2, flC_10_3, flC_10_4, flC_10_5, flC_10_6, flC_10_7, flC_10_8, arC_11, arC_12, arC_13, arC_14, arC_15, arC_16, flC_17_0, arC_18, flC_19_0, flC_19_1, flC_19_2, arC_20, flC_21_0, flC_21_1, flC_21_2, arC_22, arC_23, flC_24_0, flC_24_1, flC_24_2, arC_25, flC_26_0, flC_26_1, flC_26_2, arC_27, arC_28, flC_29_0, arC_30, flC_31_0, flC_31_1, arC_32, arC_33, arC_34]
      try simp only [up, upL, rp, sf, cpy, Nat.reduceEqDiff, reduceIte, Int.reduceNeg, Int.reduceLE, Int.reduceLT, Int.reduceEq, Int.reduceAdd, Int.reduceSub, Int.reduceMul, ne_eq, not_true_eq_false, not_false_eq_true, true_and, and_true, and_self, false_implies, true_implies, implies_true, forall_const, Nat.reduceAdd, Int.add_zero, Int.zero_add, true_or, or_true, false_or, or_false, List.length_nil, List.length_cons]
      refine ⟨by omega, by omega, fun h5 => ?_, fun h => absurd h (by omega)⟩
      (first | refine BX9_endOfAll_0 ?_ | refine BX9_endOfAll_9 ?_ | refine BX9_endOfAll_16 ?_ | refine BX9_endOfAll_41 ?_ | refine BX9_endOfAll_54 ?_ | refine BX9_endOfAll_72 ?_ | refine BX9_endOfAll_85 ?_ | refine BX9_endOfAll_93 ?_ | refine BX9_endOfAll_95 ?_ | refine BX9_endOfAll_101 ?_ | refine BX9_endOfAll_114 ?_)
      dsimp only [bX9_endOfAll_0, bX9_endOfAll_9, bX9_endOfAll_16, bX9_endOfAll_41, bX9_endOfAll_54, bX9_endOfAll_72, bX9_endOfAll_85, bX9_endOfAll_93, bX9_endOfAll_95, bX9_endOfAll_101, bX9_endOfAll_114, o_add, o_ald, o_cge, o_cgt, o_gf, o_ial, o_ic, o_ild, o_inc, o_iret, o_ist, o_max, o_min, o_rem, o_s2, o_v1, o_zeq, o_zne, tk, lget, lput, lkill, lmask, ol, flC_0_0, flC_0_1, flC_0_2, flC_0_3, flC_0_4, flC_0_5, flC_0_6, flC_0_7, flC_0_8, flC_0_9, flC_0_10, flC_1_0, flC_1_1, flC_1_2, flC_1_3, flC_1_4, flC_1_5, flC_1_6, flC_1_7, flC_2_0, flC_2_1, flC_2_2, flC_2_3, flC_2_4, flC_2_5, flC_2_6, flC_2_7, flC_2_8, arC_3, arC_4, arC_5, arC_6, arC_7, arC_8, arC_9, flC_10_0, flC_10_1, flC_10_2, flC_10_3, flC_10_4, flC_10_5, flC_10_6, flC_10_7, flC_10_8, arC_11, arC_12, arC_13, arC_14, arC_15, arC_16, flC_17_0, arC_18, flC_19_0, flC_19_1, flC_19_2, arC_20, flC_21_0, flC_21_1, flC_21_2, arC_22, arC_23, flC_24_0, flC_24_1, flC_24_2, arC_25, flC_26_0, flC_26_1, flC_26_2, arC_27, arC_28, flC_29_0, arC_30, flC_31_0, flC_31_1, arC_32, arC_33, arC_34]
      try simp only [up, upL, rp, sf, cpy, Nat.reduceEqDiff, reduceIte, Int.reduceNeg, Int.reduceLE, Int.reduceLT, Int.reduceEq, Int.reduceAdd, Int.reduceSub, Int.reduceMul, ne_eq, not_true_eq_false, not_false_eq_true, true_and, and_true, and_self, false_implies, true_implies, implies_true, forall_const, Nat.reduceAdd, Int.add_zero, Int.zero_add, true_or, or_true, false_or, or_false, List.length_nil, List.length_cons]
      refine ⟨by omega, fun h6 => nu, fun h6 => ⟨rfl, k_at b0 (by omega) ?_⟩⟩
      (first | refine BX9_endOfAll_0 ?_ | refine BX9_endOfAll_9 ?_ | refine BX9_endOfAll_16 ?_ | refine BX9_endOfAll_41 ?_ | refine BX9_endOfAll_54 ?_ | refine BX9_endOfAll_72 ?_ | refine BX9_endOfAll_85 ?_ | refine BX9_endOfAll_93 ?_ | refine BX9_endOfAll_95 ?_ | refine BX9_endOfAll_101 ?_ | refine BX9_endOfAll_114 ?_)
      dsimp only [bX9_endOfAll_0, bX9_endOfAll_9, bX9_endOfAll_16, bX9_endOfAll_41, bX9_endOfAll_54, bX9_endOfAll_72, bX9_endOfAll_85, bX9_endOfAll_93, bX9_endOfAll_95, bX9_endOfAll_101, bX9_endOfAll_114, o_add, o_ald, o_cge, o_cgt, o_gf, o_ial, o_ic, o_ild, o_inc, o_iret, o_ist, o_max, o_min, o_rem, o_s2, o_v1, o_zeq, o_zne, tk, lget, lput, lkill, lmask, ol, flC_0_0, flC_0_1, flC_0_2, flC_0_3, flC_0_4, flC_0_5, flC_0_6, flC_0_7, flC_0_8, flC_0_9, flC_0_10, flC_1_0, flC_1_1, flC_1_2, flC_1_3, flC_1_4, flC_1_5, flC_1_6, flC_1_7, flC_2_0, flC_2_1, flC_2_2, flC_2_3, flC_2_4, flC_2_5, flC_2_6, flC_2_7, flC_2_8, arC_3, arC_4, arC_5, arC_6, arC_7, arC_8, arC_9, flC_10_0, flC_10_1, flC_10_2, flC_10_3, flC_10_4, flC_10_5, flC_10_6, flC_10_7, flC_10_8, arC_11, arC_12, arC_13, arC_14, arC_15, arC_16, flC_17_0, arC_18, flC_19_0, flC_19_1, flC_19_2, arC_20, flC_21_0, flC_21_1, flC_21_2, arC_22, arC_23, flC_24_0, flC_24_1, flC_24_2, arC_25, flC_26_0, flC_26_1, flC_26_2, arC_27, arC_28, flC_29_0, arC_30, flC_31_0, flC_31_1, arC_32, arC_33, arC_34]
      try simp only [up, upL, rp, sf, cpy, Nat.reduceEqDiff, reduceIte, Int.reduceNeg, Int.reduceLE, Int.reduceLT, Int.reduceEq, Int.reduceAdd, Int.reduceSub, Int.reduceMul, ne_eq, not_true_eq_false, not_false_eq_true, true_and, and_true, and_self, false_implies, true_implies, implies_true, forall_const, Nat.reduceAdd, Int.add_zero, Int.zero_add, true_or, or_true, false_or, or_false, List.length_nil, List.length_cons]
      rw [en]
      refine ⟨by omega, by omega, by omega, by omega, fun h7 => absurd h7 (by omega), fun h7 => nu⟩
    | succ n ih =>
      intro i b h st e0 e1 b0 b1 hi hk hx
      have ht := hE.2.2.2.2.2.1 b b0 b1
      have hg := (hO.1 b b0 b1).1
      have en := (hN.1 b b0 b1).1
      have hs := hi.2.1
      have hh := hi.1
      have p0 : 0 ≤ i * st := Int.mul_nonneg e1 (by omega)
      have p1 : i * st ≤ 60 * st := Int.mul_le_mul_of_nonneg_right (by omega) (by omega)
      have hm := tmod_rng (a := f 7 b + (h + i * st)) (by omega) (by omega) (show 0 < f 1 b by omega)
      have hm2 : (f 7 b + (h + i * st)).tmod (f 1 b) = (f 7 b + (h + i * st)) % f 1 b := Int.tmod_eq_emod_of_nonneg (by omega)
      (first | refine BX9_endOfAll_0 ?_ | refine BX9_endOfAll_9 ?_ | refine BX9_endOfAll_16 ?_ | refine BX9_endOfAll_41 ?_ | refine BX9_endOfAll_54 ?_ | refine BX9_endOfAll_72 ?_ | refine BX9_endOfAll_85 ?_ | refine BX9_endOfAll_93 ?_ | refine BX9_endOfAll_95 ?_ | refine BX9_endOfAll_101 ?_ | refine BX9_endOfAll_114 ?_)
      dsimp only [bX9_endOfAll_0, bX9_endOfAll_9, bX9_endOfAll_16, bX9_endOfAll_41, bX9_endOfAll_54, bX9_endOfAll_72, bX9_endOfAll_85, bX9_endOfAll_93, bX9_endOfAll_95, bX9_endOfAll_101, bX9_endOfAll_114, o_add, o_ald, o_cge, o_cgt, o_gf, o_ial, o_ic, o_ild, o_inc, o_iret, o_ist, o_max, o_min, o_rem, o_s2, o_v1, o_zeq, o_zne, tk, lget, lput, lkill, lmask, ol, flC_0_0, flC_0_1, flC_0_2, flC_0_3, flC_0_4, flC_0_5, flC_0_6, flC_0_7, flC_0_8, flC_0_9, flC_0_10, flC_1_0, flC_1_1, flC_1_2, flC_1_3, flC_1_4, flC_1_5, flC_1_6, flC_1_7, flC_2_0, flC_2_1, flC_2_2, flC_2_3, flC_2_4, flC_2_5, flC_2_6, flC_2_7, flC_2_8, arC_3, arC_4, arC_5, arC_6, arC_7, arC_8, arC_9, flC_10_0, flC_10_1, flC_10_2, flC_10_3, flC_10_4, flC_10_5, flC_10_6, flC_10_7, flC_10_8, arC_11, arC_12, arC_13, arC_14, arC_15, arC_16, flC_17_0, arC_18, flC_19_0, flC_19_1, flC_19_2, arC_20, flC_21_0, flC_21_1, flC_21_2, arC_22, arC_23, flC_24_0, flC_24_1, flC_24_2, arC_25, flC_26_0, flC_26_1, flC_26_2, arC_27, arC_28, flC_29_0, arC_30, flC_31_0, flC_31_1, arC_32, arC_33, arC_34]
      try simp only [up, upL, rp, sf, cpy, Nat.reduceEqDiff, reduceIte, Int.reduceNeg, Int.reduceLE, Int.reduceLT, Int.reduceEq, Int.reduceAdd, Int.reduceSub, Int.reduceMul, ne_eq, not_true_eq_false, not_false_eq_true, true_and, and_true, and_self, false_implies, true_implies, implies_true, forall_const, Nat.reduceAdd, Int.add_zero, Int.zero_add, true_or, or_true, false_or, or_false, List.length_nil, List.length_cons]
      refine ⟨by omega, by omega, fun h5 => absurd h5 (by omega), fun h5 => ⟨rfl, k_at b0 (by omega) ?_⟩⟩
      (first | refine BX9_endOfAll_0 ?_ | refine BX9_endOfAll_9 ?_ | refine BX9_endOfAll_16 ?_ | refine BX9_endOfAll_41 ?_ | refine BX9_endOfAll_54 ?_ | refine BX9_endOfAll_72 ?_ | refine BX9_endOfAll_85 ?_ | refine BX9_endOfAll_93 ?_ | refine BX9_endOfAll_95 ?_ | refine BX9_endOfAll_101 ?_ | refine BX9_endOfAll_114 ?_)
      dsimp only [bX9_endOfAll_0, bX9_endOfAll_9, bX9_endOfAll_16, bX9_endOfAll_41, bX9_endOfAll_54, bX9_endOfAll_72, bX9_endOfAll_85, bX9_endOfAll_93, bX9_endOfAll_95, bX9_endOfAll_101, bX9_endOfAll_114, o_add, o_ald, o_cge, o_cgt, o_gf, o_ial, o_ic, o_ild, o_inc, o_iret, o_ist, o_max, o_min, o_rem, o_s2, o_v1, o_zeq, o_zne, tk, lget, lput, lkill, lmask, ol, flC_0_0, flC_0_1, flC_0_2, flC_0_3, flC_0_4, flC_0_5, flC_0_6, flC_0_7, flC_0_8, flC_0_9, flC_0_10, flC_1_0, flC_1_1, flC_1_2, flC_1_3, flC_1_4, flC_1_5, flC_1_6, flC_1_7, flC_2_0, flC_2_1, flC_2_2, flC_2_3, flC_2_4, flC_2_5, flC_2_6, flC_2_7, flC_2_8, arC_3, arC_4, arC_5, arC_6, arC_7, arC_8, arC_9, flC_10_0, flC_10_1, flC_10_2, flC_10_3, flC_10_4, flC_10_5, flC_10_6, flC_10_7, flC_10_8, arC_11, arC_12, arC_13, arC_14, arC_15, arC_16, flC_17_0, arC_18, flC_19_0, flC_19_1, flC_19_2, arC_20, flC_21_0, flC_21_1, flC_21_2, arC_22, arC_23, flC_24_0, flC_24_1, flC_24_2, arC_25, flC_26_0, flC_26_1, flC_26_2, arC_27, arC_28, flC_29_0, arC_30, flC_31_0, flC_31_1, arC_32, arC_33, arC_34]
      try simp only [up, upL, rp, sf, cpy, Nat.reduceEqDiff, reduceIte, Int.reduceNeg, Int.reduceLE, Int.reduceLT, Int.reduceEq, Int.reduceAdd, Int.reduceSub, Int.reduceMul, ne_eq, not_true_eq_false, not_false_eq_true, true_and, and_true, and_self, false_implies, true_implies, implies_true, forall_const, Nat.reduceAdd, Int.add_zero, Int.zero_add, true_or, or_true, false_or, or_false, List.length_nil, List.length_cons]
      rw [en]
      refine ⟨by omega, by omega, by omega, by omega, fun h7 => ?_, fun h7 => ?_⟩
      · (first | refine BX9_endOfAll_0 ?_ | refine BX9_endOfAll_9 ?_ | refine BX9_endOfAll_16 ?_ | refine BX9_endOfAll_41 ?_ | refine BX9_endOfAll_54 ?_ | refine BX9_endOfAll_72 ?_ | refine BX9_endOfAll_85 ?_ | refine BX9_endOfAll_93 ?_ | refine BX9_endOfAll_95 ?_ | refine BX9_endOfAll_101 ?_ | refine BX9_endOfAll_114 ?_)
        dsimp only [bX9_endOfAll_0, bX9_endOfAll_9, bX9_endOfAll_16, bX9_endOfAll_41, bX9_endOfAll_54, bX9_endOfAll_72, bX9_endOfAll_85, bX9_endOfAll_93, bX9_endOfAll_95, bX9_endOfAll_101, bX9_endOfAll_114, o_add, o_ald, o_cge, o_cgt, o_gf, o_ial, o_ic, o_ild, o_inc, o_iret, o_ist, o_max, o_min, o_rem, o_s2, o_v1, o_zeq, o_zne, tk, lget, lput, lkill, lmask, ol, flC_0_0, flC_0_1, flC_0_2, flC_0_3, flC_0_4, flC_0_5, flC_0_6, flC_0_7, flC_0_8, flC_0_9, flC_0_10, flC_1_0, flC_1_1, flC_1_2, flC_1_3, flC_1_4, flC_1_5, flC_1_6, flC_1_7, flC_2_0, flC_2_1, flC_2_2, flC_2_3, flC_2_4, flC_2_5, flC_2_6, flC_2_7, flC_2_8, arC_3, arC_4, arC_5, arC_6, arC_7, arC_8, arC_9, flC_10_0, flC_10_1, flC_10_2, flC_10_3, flC_10_4, flC_10_5, flC_10_6, flC_10_7, flC_10_8, arC_11, arC_12, arC_13, arC_14, arC_15, arC_16, flC_17_0, arC_18, flC_19_0, flC_19_1, flC_19_2, arC_20, flC_21_0, flC_21_1, flC_21_2, arC_22, arC_23, flC_24_0, flC_24_1, flC_24_2, arC_25, flC_26_0, flC_26_1, flC_26_2, arC_27, arC_28, flC_29_0, arC_30, flC_31_0, flC_31_1, arC_32, arC_33, arC_34]
        try simp only [up, upL, rp, sf, cpy, Nat.reduceEqDiff, reduceIte, Int.reduceNeg, Int.reduceLE, Int.reduceLT, Int.reduceEq, Int.reduceAdd, Int.reduceSub, Int.reduceMul, ne_eq, not_true_eq_false, not_false_eq_true, true_and, and_true, and_self, false_implies, true_implies, implies_true, forall_const, Nat.reduceAdd, Int.add_zero, Int.zero_add, true_or, or_true, false_or, or_false, List.length_nil, List.length_cons]
        refine ⟨by omega, fun h6 => nul (by omega) (fun n n0 n1 q => ?_), fun h6 => ⟨rfl, k_at b0 (by omega) ?_⟩⟩
        · obtain ⟨k, -, -, -, k3⟩ := EI_far b0 hi hk n n0 n1 (GG_le q (by omega))
          omega
        · (first | refine BX9_endOfAll_0 ?_ | refine BX9_endOfAll_9 ?_ | refine BX9_endOfAll_16 ?_ | refine BX9_endOfAll_41 ?_ | refine BX9_endOfAll_54 ?_ | refine BX9_endOfAll_72 ?_ | refine BX9_endOfAll_85 ?_ | refine BX9_endOfAll_93 ?_ | refine BX9_endOfAll_95 ?_ | refine BX9_endOfAll_101 ?_ | refine BX9_endOfAll_114 ?_)
          dsimp only [bX9_endOfAll_0, bX9_endOfAll_9, bX9_endOfAll_16, bX9_endOfAll_41, bX9_endOfAll_54, bX9_endOfAll_72, bX9_endOfAll_85, bX9_endOfAll_93, bX9_endOfAll_95, bX9_endOfAll_101, bX9_endOfAll_114, o_add, o_ald, o_cge, o_cgt, o_gf, o_ial, o_ic, o_ild, o_inc, o_iret, o_ist, o_max, o_min, o_rem, o_s2, o_v1, o_zeq, o_zne, tk, lget, lput, lkill, lmask, ol, flC_0_0, flC_0_1, flC_0_2, flC_0_3, flC_0_4, flC_0_5, flC_0_6, flC_0_7, flC_0_8, flC_0_9, flC_0_10, flC_1_0, flC_1_1, flC_1_2, flC_1_3, flC_1_4, flC_1_5, flC_1_6, flC_1_7, flC_2_0, flC_2_1, flC_2_2, flC_2_3, flC_2_4, flC_2_5, flC_2_6, flC_2_7, flC_2_8, arC_3, arC_4, arC_5, arC_6, arC_7, arC_8, arC_9, flC_10_0, flC_10_1, flC_10_2, flC_10_3, flC_10_4, flC_10_5, flC_10_6, flC_10_7, flC_10_8, arC_11, arC_12, arC_13, arC_14, arC_15, arC_16, flC_17_0, arC_18, flC_19_0, flC_19_1, flC_19_2, arC_20, flC_21_0, flC_21_1, flC_21_2, arC_22, arC_23, flC_24_0, flC_24_1, flC_24_2, arC_25, flC_26_0, flC_26_1, flC_26_2, arC_27, arC_28, flC_29_0, arC_30, flC_31_0, flC_31_1, arC_32, arC_33, arC_34]
          try simp only [up, upL, rp, sf, cpy, Nat.reduceEqDiff, reduceIte, Int.reduceNeg, Int.reduceLE, Int.reduceLT, Int.reduceEq, Int.reduceAdd, Int.reduceSub, Int.reduceMul, ne_eq, not_true_eq_false, not_false_eq_true, true_and, and_true, and_self, false_implies, true_implies, implies_true, forall_const, Nat.reduceAdd, Int.add_zero, Int.zero_add, true_or, or_true, false_or, or_false, List.length_nil, List.length_cons]
          rw [en]
          refine ⟨by omega, by omega, by omega, by omega, fun _ => ?_, fun h8 => absurd h7 h8⟩
          (first | refine BX9_endOfAll_0 ?_ | refine BX9_endOfAll_9 ?_ | refine BX9_endOfAll_16 ?_ | refine BX9_endOfAll_41 ?_ | refine BX9_endOfAll_54 ?_ | refine BX9_endOfAll_72 ?_ | refine BX9_endOfAll_85 ?_ | refine BX9_endOfAll_93 ?_ | refine BX9_endOfAll_95 ?_ | refine BX9_endOfAll_101 ?_ | refine BX9_endOfAll_114 ?_)
          dsimp only [bX9_endOfAll_0, bX9_endOfAll_9, bX9_endOfAll_16, bX9_endOfAll_41, bX9_endOfAll_54, bX9_endOfAll_72, bX9_endOfAll_85, bX9_endOfAll_93, bX9_endOfAll_95, bX9_endOfAll_101, bX9_endOfAll_114, o_add, o_ald, o_cge, o_cgt, o_gf, o_ial, o_ic, o_ild, o_inc, o_iret, o_ist, o_max, o_min, o_rem, o_s2, o_v1, o_zeq, o_zne, tk, lget, lput, lkill, lmask, ol, flC_0_0, flC_0_1, flC_0_2, flC_0_3, flC_0_4, flC_0_5, flC_0_6, flC_0_7, flC_0_8, flC_0_9, flC_0_10, flC_1_0, flC_1_1, flC_1_2, flC_1_3, flC_1_4, flC_1_5, flC_1_6, flC_1_7, flC_2_0, flC_2_1, flC_2_2, flC_2_3, flC_2_4, flC_2_5, flC_2_6, flC_2_7, flC_2_8, arC_3, arC_4, arC_5, arC_6, arC_7, arC_8, arC_9, flC_10_0, flC_10_1, flC_10_2, flC_10_3, flC_10_4, flC_10_5, flC_10_6, flC_10_7, flC_10_8, arC_11, arC_12, arC_13, arC_14, arC_15, arC_16, flC_17_0, arC_18, flC_19_0, flC_19_1, flC_19_2, arC_20, flC_21_0, flC_21_1, flC_21_2, arC_22, arC_23, flC_24_0, flC_24_1, flC_24_2, arC_25, flC_26_0, flC_26_1, flC_26_2, arC_27, arC_28, flC_29_0, arC_30, flC_31_0, flC_31_1, arC_32, arC_33, arC_34]
          try simp only [up, upL, rp, sf, cpy, Nat.reduceEqDiff, reduceIte, Int.reduceNeg, Int.reduceLE, Int.reduceLT, Int.reduceEq, Int.reduceAdd, Int.reduceSub, Int.reduceMul, ne_eq, not_true_eq_false, not_false_eq_true, true_and, and_true, and_self, false_implies, true_implies, implies_true, forall_const, Nat.reduceAdd, Int.add_zero, Int.zero_add, true_or, or_true, false_or, or_false, List.length_nil, List.length_cons]
          refine ⟨rfl, k_lcm hs ht.1 (fun m m0 m1 m2 m3 m4 => ?_)⟩
          (first | refine BX9_endOfAll_0 ?_ | refine BX9_endOfAll_9 ?_ | refine BX9_endOfAll_16 ?_ | refine BX9_endOfAll_41 ?_ | refine BX9_endOfAll_54 ?_ | refine BX9_endOfAll_72 ?_ | refine BX9_endOfAll_85 ?_ | refine BX9_endOfAll_93 ?_ | refine BX9_endOfAll_95 ?_ | refine BX9_endOfAll_101 ?_ | refine BX9_endOfAll_114 ?_)
          dsimp only [bX9_endOfAll_0, bX9_endOfAll_9, bX9_endOfAll_16, bX9_endOfAll_41, bX9_endOfAll_54, bX9_endOfAll_72, bX9_endOfAll_85, bX9_endOfAll_93, bX9_endOfAll_95, bX9_endOfAll_101, bX9_endOfAll_114, o_add, o_ald, o_cge, o_cgt, o_gf, o_ial, o_ic, o_ild, o_inc, o_iret, o_ist, o_max, o_min, o_rem, o_s2, o_v1, o_zeq, o_zne, tk, lget, lput, lkill, lmask, ol, flC_0_0, flC_0_1, flC_0_2, flC_0_3, flC_0_4, flC_0_5, flC_0_6, flC_0_7, flC_0_8, flC_0_9, flC_0_10, flC_1_0, flC_1_1, flC_1_2, flC_1_3, flC_1_4, flC_1_5, flC_1_6, flC_1_7, flC_2_0, flC_2_1, flC_2_2, flC_2_3, flC_2_4, flC_2_5, flC_2_6, flC_2_7, flC_2_8, arC_3, arC_4, arC_5, arC_6, arC_7, arC_8, arC_9, flC_10_0, flC_10_1, flC_10_2, flC_10_3, flC_10_4, flC_10_5, flC_10_6, flC_10_7, flC_10_8, arC_11, arC_12, arC_13, arC_14, arC_15, arC_16, flC_17_0, arC_18, flC_19_0, flC_19_1, flC_19_2, arC_20, flC_21_0, flC_21_1, flC_21_2, arC_22, arC_23, flC_24_0, flC_24_1, flC_24_2, arC_25, flC_26_0, flC_26_1, flC_26_2, arC_27, arC_28, flC_29_0, arC_30, flC_31_0, flC_31_1, arC_32, arC_33, arC_34]
          try simp only [up, upL, rp, sf, cpy, Nat.reduceEqDiff, reduceIte, Int.reduceNeg, Int.reduceLE, Int.reduceLT, Int.reduceEq, Int.reduceAdd, Int.reduceSub, Int.reduceMul, ne_eq, not_true_eq_false, not_false_eq_true, true_and, and_true, and_self, false_implies, true_implies, implies_true, forall_const, Nat.reduceAdd, Int.add_zero, Int.zero_add, true_or, or_true, false_or, or_false, List.length_nil, List.length_cons]
          refine ⟨by omega, rfl, ?_⟩
          exact hx _ _ (EI_s hE b0 b1 hi e1 (by omega) hk (by omega) m0 m2 m3 m4)
      · rw [show h + i * st + st = h + (i + 1) * st by rw [Int.add_mul, Int.one_mul]; omega]
        refine ih (i + 1) b h st (by omega) (by omega) b0 b1 hi (fun k k0 k1 => ?_) hx
        by_cases hki : k = i
        · rw [hki]; omega
        · exact hk k k0 (by omega)
  have L2 : ∀ (n : Nat) (b h st : Int), b + n = f 0 1 → 0 ≤ b → 0 < f 0 1 → EI f b h st → Tf l X shC 1 mX9_endOfAll Q 16 [some (vR 10), some (vR 17), some (vI h), some (vI st), some (vI b), none, none] [] (C, w) := by
    intro n
    induction n with
    | zero =>
      intro b h st e0 e1 hp hi
      have e : endM f = h := by
        unfold endM
        rw [if_neg (by omega)]
        have hi2 := hi
        rw [show b = f 0 1 by omega] at hi2
        obtain ⟨hh, hs, hg, hn, hd⟩ := hi2
        refine ens_some hE hO 9999 1 h (by omega) (by omega) (by omega) hg (fun k k0 k1 q => ?_)
        obtain ⟨v, v0, v1⟩ := hn k k0 (by omega) q
        have := Int.mul_nonneg v0 (show 0 ≤ st by omega)
        omega
      rw [e] at hq
      (first | refine BX9_endOfAll_0 ?_ | refine BX9_endOfAll_9 ?_ | refine BX9_endOfAll_16 ?_ | refine BX9_endOfAll_41 ?_ | refine BX9_endOfAll_54 ?_ | refine BX9_endOfAll_72 ?_ | refine BX9_endOfAll_85 ?_ | refine BX9_endOfAll_93 ?_ | refine BX9_endOfAll_95 ?_ | refine BX9_endOfAll_101 ?_ | refine BX9_endOfAll_114 ?_)
      dsimp only [bX9_endOfAll_0, bX9_endOfAll_9, bX9_endOfAll_16, bX9_endOfAll_41, bX9_endOfAll_54, bX9_endOfAll_72, bX9_endOfAll_85, bX9_endOfAll_93, bX9_endOfAll_95, bX9_endOfAll_101, bX9_endOfAll_114, o_add, o_ald, o_cge, o_cgt, o_gf, o_ial, o_ic, o_ild, o_inc, o_iret, o_ist, o_max, o_min, o_rem, o_s2, o_v1, o_zeq, o_zne, tk, lget, lput, lkill, lmask, ol, flC_0_0, flC_0_1, flC_0_2, flC_0_3, flC_0_4, flC_0_5, flC_0_6, flC_0_7, flC_0_8, flC_0_9, flC_0_10, flC_1_0, flC_1_1, flC_1_2, flC_1_3, flC_1_4, flC_1_5, flC_1_6, flC_1_7, flC_2_0, flC_2_1, flC_2_2, flC_2_3, flC_2_4, flC_2_5, flC_2_6, flC_2_7, flC_2_8, arC_3, arC_4, arC_5, arC_6, arC_7, arC_8, arC_9, flC_10_0, flC_10_1, flC_10_2, flC_10_3, flC_10_4, flC_10_5, flC_10_6, flC_10_7, flC_10_8, arC_11, arC_12, arC_13, arC_14, arC_15, arC_16, flC_17_0, arC_18, flC_19_0, flC_19_1, flC_19_2, arC_20, flC_21_0, flC_21_1, flC_21_2, arC_22, arC_23, flC_24_0, flC_24_1, flC_24_2, arC_25, flC_26_0, flC_26_1, flC_26_2, arC_27, arC_28, flC_29_0, arC_30, flC_31_0, flC_31_1, arC_32, arC_33, arC_34]
      try simp only [up, upL, rp, sf, cpy, Nat.reduceEqDiff, reduceIte, Int.reduceNeg, Int.reduceLE, Int.reduceLT, Int.reduceEq, Int.reduceAdd, Int.reduceSub, Int.reduceMul, ne_eq, not_true_eq_false, not_false_eq_true, true_and, and_true, and_self, false_implies, true_implies, implies_true, forall_const, Nat.reduceAdd, Int.add_zero, Int.zero_add, true_or, or_true, false_or, or_false, List.length_nil, List.length_cons]
      rw [eB]
      refine ⟨by omega, by omega, fun h5 => ?_, fun h5 => absurd h5 (by omega)⟩
      (first | refine BX9_endOfAll_0 ?_ | refine BX9_endOfAll_9 ?_ | refine BX9_endOfAll_16 ?_ | refine BX9_endOfAll_41 ?_ | refine BX9_endOfAll_54 ?_ | refine BX9_endOfAll_72 ?_ | refine BX9_endOfAll_85 ?_ | refine BX9_endOfAll_93 ?_ | refine BX9_endOfAll_95 ?_ | refine BX9_endOfAll_101 ?_ | refine BX9_endOfAll_114 ?_)
      dsimp only [bX9_endOfAll_0, bX9_endOfAll_9, bX9_endOfAll_16, bX9_endOfAll_41, bX9_endOfAll_54, bX9_endOfAll_72, bX9_endOfAll_85, bX9_endOfAll_93, bX9_endOfAll_95, bX9_endOfAll_101, bX9_endOfAll_114, o_add, o_ald, o_cge, o_cgt, o_gf, o_ial, o_ic, o_ild, o_inc, o_iret, o_ist, o_max, o_min, o_rem, o_s2, o_v1, o_zeq, o_zne, tk, lget, lput, lkill, lmask, ol, flC_0_0, flC_0_1, flC_0_2, flC_0_3, flC_0_4, flC_0_5, flC_0_6, flC_0_7, flC_0_8, flC_0_9, flC_0_10, flC_1_0, flC_1_1, flC_1_2, flC_1_3, flC_1_4, flC_1_5, flC_1_6, flC_1_7, flC_2_0, flC_2_1, flC_2_2, flC_2_3, flC_2_4, flC_2_5, flC_2_6, flC_2_7, flC_2_8, arC_3, arC_4, arC_5, arC_6, arC_7, arC_8, arC_9, flC_10_0, flC_10_1, flC_10_2, flC_10_3, flC_10_4, flC_10_5, flC_10_6, flC_10_7, flC_10_8, arC_11, arC_12, arC_13, arC_14, arC_15, arC_16, flC_17_0, arC_18, flC_19_0, flC_19_1, flC_19_2, arC_20, flC_21_0, flC_21_1, flC_21_2, arC_22, arC_23, flC_24_0, flC_24_1, flC_24_2, arC_25, flC_26_0, flC_26_1, flC_26_2, arC_27, arC_28, flC_29_0, arC_30, flC_31_0, flC_31_1, arC_32, arC_33, arC_34]
      try simp only [up, upL, rp, sf, cpy, Nat.reduceEqDiff, reduceIte, Int.reduceNeg, Int.reduceLE, Int.reduceLT, Int.reduceEq, Int.reduceAdd, Int.reduceSub, Int.reduceMul, ne_eq, not_true_eq_false, not_false_eq_true, true_and, and_true, and_self, false_implies, true_implies, implies_true, forall_const, Nat.reduceAdd, Int.add_zero, Int.zero_add, true_or, or_true, false_or, or_false, List.length_nil, List.length_cons]
      exact hq
    | succ n ih =>
      intro b h st e0 e1 hp hi
      have ht := hE.2.2.2.2.2.1 b e1 (by omega)
      have et := (hS.2.2.2.1 b e1 (by omega)).1
      (first | refine BX9_endOfAll_0 ?_ | refine BX9_endOfAll_9 ?_ | refine BX9_endOfAll_16 ?_ | refine BX9_endOfAll_41 ?_ | refine BX9_endOfAll_54 ?_ | refine BX9_endOfAll_72 ?_ | refine BX9_endOfAll_85 ?_ | refine BX9_endOfAll_93 ?_ | refine BX9_endOfAll_95 ?_ | refine BX9_endOfAll_101 ?_ | refine BX9_endOfAll_114 ?_)
      dsimp only [bX9_endOfAll_0, bX9_endOfAll_9, bX9_endOfAll_16, bX9_endOfAll_41, bX9_endOfAll_54, bX9_endOfAll_72, bX9_endOfAll_85, bX9_endOfAll_93, bX9_endOfAll_95, bX9_endOfAll_101, bX9_endOfAll_114, o_add, o_ald, o_cge, o_cgt, o_gf, o_ial, o_ic, o_ild, o_inc, o_iret, o_ist, o_max, o_min, o_rem, o_s2, o_v1, o_zeq, o_zne, tk, lget, lput, lkill, lmask, ol, flC_0_0, flC_0_1, flC_0_2, flC_0_3, flC_0_4, flC_0_5, flC_0_6, flC_0_7, flC_0_8, flC_0_9, flC_0_10, flC_1_0, flC_1_1, flC_1_2, flC_1_3, flC_1_4, flC_1_5, flC_1_6, flC_1_7, flC_2_0, flC_2_1, flC_2_2, flC_2_3, flC_2_4, flC_2_5, flC_2_6, flC_2_7, flC_2_8, arC_3, arC_4, arC_5, arC_6, arC_7, arC_8, arC_9, flC_10_0, flC_10_1, flC_10_2, flC_10_3, flC_10_4, flC_10_5, flC_10_6, flC_10_7, flC_10_8, arC_11, arC_12, arC_13, arC_14, arC_15, arC_16, flC_17_0, arC_18, flC_19_0, flC_19_1, flC_19_2, arC_20, flC_21_0, flC_21_1, flC_21_2, arC_22, arC_23, flC_24_0, flC_24_1, flC_24_2, arC_25, flC_26_0, flC_26_1, flC_26_2, arC_27, arC_28, flC_29_0, arC_30, flC_31_0, flC_31_1, arC_32, arC_33, arC_34]
      try simp only [up, upL, rp, sf, cpy, Nat.reduceEqDiff, reduceIte, Int.reduceNeg, Int.reduceLE, Int.reduceLT, Int.reduceEq, Int.reduceAdd, Int.reduceSub, Int.reduceMul, ne_eq, not_true_eq_false, not_false_eq_true, true_and, and_true, and_self, false_implies, true_implies, implies_true, forall_const, Nat.reduceAdd, Int.add_zero, Int.zero_add, true_or, or_true, false_or, or_false, List.length_nil, List.length_cons]
      rw [eB, et, if_neg (by omega)]
      refine ⟨by omega, by omega, fun h5 => absurd h5 (by omega), fun h5 => ⟨by omega, by omega, rfl, ?_⟩⟩
      have := L1 (f 1 b).toNat 0 b h st (by omega) (by omega) e1 (by omega) hi (fun k k0 k1 => by omega) (fun h' st' q => ih (b + 1) h' st' (by omega) (by omega) hp q)
      rw [Int.zero_mul, Int.add_zero] at this
      exact this
  refine EX9_endOfAll rfl ?_
  (first | refine BX9_endOfAll_0 ?_ | refine BX9_endOfAll_9 ?_ | refine BX9_endOfAll_16 ?_ | refine BX9_endOfAll_41 ?_ | refine BX9_endOfAll_54 ?_ | refine BX9_endOfAll_72 ?_ | refine BX9_endOfAll_85 ?_ | refine BX9_endOfAll_93 ?_ | refine BX9_endOfAll_95 ?_ | refine BX9_endOfAll_101 ?_ | refine BX9_endOfAll_114 ?_)
  dsimp only [bX9_endOfAll_0, bX9_endOfAll_9, bX9_endOfAll_16, bX9_endOfAll_41, bX9_endOfAll_54, bX9_endOfAll_72, bX9_endOfAll_85, bX9_endOfAll_93, bX9_endOfAll_95, bX9_endOfAll_101, bX9_endOfAll_114, o_add, o_ald, o_cge, o_cgt, o_gf, o_ial, o_ic, o_ild, o_inc, o_iret, o_ist, o_max, o_min, o_rem, o_s2, o_v1, o_zeq, o_zne, tk, lget, lput, lkill, lmask, ol, lent, flC_0_0, flC_0_1, flC_0_2, flC_0_3, flC_0_4, flC_0_5, flC_0_6, flC_0_7, flC_0_8, flC_0_9, flC_0_10, flC_1_0, flC_1_1, flC_1_2, flC_1_3, flC_1_4, flC_1_5, flC_1_6, flC_1_7, flC_2_0, flC_2_1, flC_2_2, flC_2_3, flC_2_4, flC_2_5, flC_2_6, flC_2_7, flC_2_8, arC_3, arC_4, arC_5, arC_6, arC_7, arC_8, arC_9, flC_10_0, flC_10_1, flC_10_2, flC_10_3, flC_10_4, flC_10_5, flC_10_6, flC_10_7, flC_10_8, arC_11, arC_12, arC_13, arC_14, arC_15, arC_16, flC_17_0, arC_18, flC_19_0, flC_19_1, flC_19_2, arC_20, flC_21_0, flC_21_1, flC_21_2, arC_22, arC_23, flC_24_0, flC_24_1, flC_24_2, arC_25, flC_26_0, flC_26_1, flC_26_2, arC_27, arC_28, flC_29_0, arC_30, flC_31_0, flC_31_1, arC_32, arC_33, arC_34]
  try simp only [up, upL, rp, sf, cpy, Nat.reduceEqDiff, reduceIte, Int.reduceNeg, Int.reduceLE, Int.reduceLT, Int.reduceEq, Int.reduceAdd, Int.reduceSub, Int.reduceMul, ne_eq, not_true_eq_false, not_false_eq_true, true_and, and_true, and_self, false_implies, true_implies, implies_true, forall_const, Nat.reduceAdd, Int.add_zero, Int.zero_add, true_or, or_true, false_or, or_false, List.length_nil, List.length_cons]
  rw [eB]
  refine ⟨by omega, fun h => ?_, fun h => ?_⟩
  · (first | refine BX9_endOfAll_0 ?_ | refine BX9_endOfAll_9 ?_ | refine BX9_endOfAll_16 ?_ | refine BX9_endOfAll_41 ?_ | refine BX9_endOfAll_54 ?_ | refine BX9_endOfAll_72 ?_ | refine BX9_endOfAll_85 ?_ | refine BX9_endOfAll_93 ?_ | refine BX9_endOfAll_95 ?_ | refine BX9_endOfAll_101 ?_ | refine BX9_endOfAll_114 ?_)
    dsimp only [bX9_endOfAll_0, bX9_endOfAll_9, bX9_endOfAll_16, bX9_endOfAll_41, bX9_endOfAll_54, bX9_endOfAll_72, bX9_endOfAll_85, bX9_endOfAll_93, bX9_endOfAll_95, bX9_endOfAll_101, bX9_endOfAll_114, o_add, o_ald, o_cge, o_cgt, o_gf, o_ial, o_ic, o_ild, o_inc, o_iret, o_ist, o_max, o_min, o_rem, o_s2, o_v1, o_zeq, o_zne, tk, lget, lput, lkill, lmask, ol, flC_0_0, flC_0_1, flC_0_2, flC_0_3, flC_0_4, flC_0_5, flC_0_6, flC_0_7, flC_0_8, flC_0_9, flC_0_10, flC_1_0, flC_1_1, flC_1_2, flC_1_3, flC_1_4, flC_1_5, flC_1_6, flC_1_7, flC_2_0, flC_2_1, flC_2_2, flC_2_3, flC_2_4, flC_2_5, flC_2_6, flC_2_7, flC_2_8, arC_3, arC_4, arC_5, arC_6, arC_7, arC_8, arC_9, flC_10_0, flC_10_1, flC_10_2, flC_10_3, flC_10_4, flC_10_5, flC_10_6, flC_10_7, flC_10_8, arC_11, arC_12, arC_13, arC_14, arC_15, arC_16, flC_17_0, arC_18, flC_19_0, flC_19_1, flC_19_2, arC_20, flC_21_0, flC_21_1, flC_21_2, arC_22, arC_23, flC_24_0, flC_24_1, flC_24_2, arC_25, flC_26_0, flC_26_1, flC_26_2, arC_27, arC_28, flC_29_0, arC_30, flC_31_0, flC_31_1, arC_32, arC_33, arC_34]
    try simp only [up, upL, rp, sf, cpy, Nat.reduceEqDiff, reduceIte, Int.reduceNeg, Int.reduceLE, Int.reduceLT, Int.reduceEq, Int.reduceAdd, Int.reduceSub, Int.reduceMul, ne_eq, not_true_eq_false, not_false_eq_true, true_and, and_true, and_self, false_implies, true_implies, implies_true, forall_const, Nat.reduceAdd, Int.add_zero, Int.zero_add, true_or, or_true, false_or, or_false, List.length_nil, List.length_cons]
    exact L2 (f 0 1).toNat 0 1 1 (by omega) (by omega) (by omega) EI_0
  · unfold endM at hq
    rw [if_pos h] at hq
    exact hq
