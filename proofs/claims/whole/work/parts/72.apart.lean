/-! the reference: figures, sums, which shifts meet -/
def fgl : Nat → Int → Int
  | 0, c => c
  | j + 1, c => fgl j (c / 10)
theorem c_figure {l : Launch} {X : Cx} {Q : Qt} {M : Me} {code k n : Int} (hc : 0 ≤ code ∧ code ≤ 9999) (hk : 0 ≤ k) (hkn : k < n) (hn : n ≤ 4) (hq : Q (some (vI (fgl (n - 1 - k).toNat code % 10))) M) : TM l X shM 0 mX10_figure [vI code, vI k, vI n] M Q := by
  have L : ∀ (j : Nat) (c i : Int), i + j = n → 0 ≤ i → (0 ≤ c ∧ c ≤ 9999) → Q (some (vI (fgl j c % 10))) M → Tf l X shM 0 mX10_figure Q 7 [none, none, some (vI n), some (vI c), some (vI i)] [] M := by
    intro j
    induction j with
    | zero =>
      intro c i e0 e1 e2 hq
      (first | refine BX10_figure_0 ?_ | refine BX10_figure_7 ?_ | refine BX10_figure_24 ?_)
      dsimp only [bX10_figure_0, bX10_figure_7, bX10_figure_24, o_add, o_cge, o_div, o_ic, o_ild, o_inc, o_iret, o_ist, o_rem, tk, lget, lput, lkill, lmask, ol]
      try simp only [up, upL, rp, sf, cpy, Nat.reduceEqDiff, reduceIte, Int.reduceNeg, Int.reduceLE, Int.reduceLT, Int.reduceEq, Int.reduceAdd, Int.reduceSub, Int.reduceMul, ne_eq, not_true_eq_false, not_false_eq_true, true_and, and_true, and_self, false_implies, true_implies, implies_true, forall_const, Nat.reduceAdd, Int.add_zero, Int.zero_add, true_or, or_true, false_or, or_false, List.length_nil, List.length_cons]
      refine ⟨by omega, by omega, fun h => ?_, fun h => absurd h (by omega)⟩
      (first | refine BX10_figure_0 ?_ | refine BX10_figure_7 ?_ | refine BX10_figure_24 ?_)
      dsimp only [bX10_figure_0, bX10_figure_7, bX10_figure_24, o_add, o_cge, o_div, o_ic, o_ild, o_inc, o_iret, o_ist, o_rem, tk, lget, lput, lkill, lmask, ol]
      try simp only [up, upL, rp, sf, cpy, Nat.reduceEqDiff, reduceIte, Int.reduceNeg, Int.reduceLE, Int.reduceLT, Int.reduceEq, Int.reduceAdd, Int.reduceSub, Int.reduceMul, ne_eq, not_true_eq_false, not_false_eq_true, true_and, and_true, and_self, false_implies, true_implies, implies_true, forall_const, Nat.reduceAdd, Int.add_zero, Int.zero_add, true_or, or_true, false_or, or_false, List.length_nil, List.length_cons]
      rw [Int.tmod_eq_emod_of_nonneg (by omega)]
      exact ⟨by omega, hq⟩
    | succ j ih =>
      intro c i e0 e1 e2 hq
      (first | refine BX10_figure_0 ?_ | refine BX10_figure_7 ?_ | refine BX10_figure_24 ?_)
      dsimp only [bX10_figure_0, bX10_figure_7, bX10_figure_24, o_add, o_cge, o_div, o_ic, o_ild, o_inc, o_iret, o_ist, o_rem, tk, lget, lput, lkill, lmask, ol]
      try simp only [up, upL, rp, sf, cpy, Nat.reduceEqDiff, reduceIte, Int.reduceNeg, Int.reduceLE, Int.reduceLT, Int.reduceEq, Int.reduceAdd, Int.reduceSub, Int.reduceMul, ne_eq, not_true_eq_false, not_false_eq_true, true_and, and_true, and_self, false_implies, true_implies, implies_true, forall_const, Nat.reduceAdd, Int.add_zero, Int.zero_add, true_or, or_true, false_or, or_false, List.length_nil, List.length_cons]
      refine ⟨by omega, by omega, fun h => absurd h (by omega), fun h => ⟨by omega, ?_⟩⟩
      rw [Int.tdiv_eq_ediv_of_nonneg (by omega)]
      exact ih (c / 10) (i + 1) (by omega) (by omega) (by omega) hq
  refine EX10_figure rfl ?_
  (first | refine BX10_figure_0 ?_ | refine BX10_figure_7 ?_ | refine BX10_figure_24 ?_)
  dsimp only [bX10_figure_0, bX10_figure_7, bX10_figure_24, o_add, o_cge, o_div, o_ic, o_ild, o_inc, o_iret, o_ist, o_rem, tk, lget, lput, lkill, lmask, ol, lent]
  try simp only [up, upL, rp, sf, cpy, Nat.reduceEqDiff, reduceIte, Int.reduceNeg, Int.reduceLE, Int.reduceLT, Int.reduceEq, Int.reduceAdd, Int.reduceSub, Int.reduceMul, ne_eq, not_true_eq_false, not_false_eq_true, true_and, and_true, and_self, false_implies, true_implies, implies_true, forall_const, Nat.reduceAdd, Int.add_zero, Int.zero_add, true_or, or_true, false_or, or_false, List.length_nil, List.length_cons]
  exact L (n - 1 - k).toNat code (k + 1) (by omega) (by omega) hc hq
theorem fgl_bd : ∀ (j : Nat) (c : Int), 0 ≤ c → 0 ≤ fgl j c
  | 0, c, h => h
  | j + 1, c, h => fgl_bd j (c / 10) (by omega)
def smo : Nat → Int → Int → Int
  | 0, _, s => s
  | j + 1, c, s => if c ≤ 0 then s else smo j (c / 10) (s + c % 10)
theorem smo_eq {c : Int} (h0 : 0 ≤ c) (h1 : c < 10000) : smo 4 c 0 = c % 10 + c / 10 % 10 + c / 100 % 10 + c / 1000 % 10 := by
  simp only [smo]
  repeat' split
  all_goals omega
theorem c_sumOf {l : Launch} {X : Cx} {Q : Qt} {M : Me} {code : Int} (h0 : 0 ≤ code) (h1 : code < 10000) (hq : Q (some (vI (smo 4 code 0))) M) : TM l X shM 0 mX10_sumOf [vI code] M Q := by
  have L : ∀ (j : Nat) (c s : Int), 0 ≤ c → c ≤ 10000 → c < p10 j → Q (some (vI (smo j c s))) M → Tf l X shM 0 mX10_sumOf Q 4 [none, some (vI s), some (vI c)] [] M := by
    intro j
    induction j with
    | zero =>
      intro c s e0 e1 e2 hq
      have e2 : c < 1 := e2
      (first | refine BX10_sumOf_0 ?_ | refine BX10_sumOf_4 ?_ | refine BX10_sumOf_23 ?_)
      dsimp only [bX10_sumOf_0, bX10_sumOf_4, bX10_sumOf_23, o_add, o_div, o_ic, o_ild, o_iret, o_ist, o_rem, o_zle, tk, lget, lput, lkill, lmask, ol]
      try simp only [up, upL, rp, sf, cpy, Nat.reduceEqDiff, reduceIte, Int.reduceNeg, Int.reduceLE, Int.reduceLT, Int.reduceEq, Int.reduceAdd, Int.reduceSub, Int.reduceMul, ne_eq, not_true_eq_false, not_false_eq_true, true_and, and_true, and_self, false_implies, true_implies, implies_true, forall_const, Nat.reduceAdd, Int.add_zero, Int.zero_add, true_or, or_true, false_or, or_false, List.length_nil, List.length_cons]
      refine ⟨by omega, fun h => ?_, fun h => absurd h (by omega)⟩
      (first | refine BX10_sumOf_0 ?_ | refine BX10_sumOf_4 ?_ | refine BX10_sumOf_23 ?_)
      dsimp only [bX10_sumOf_0, bX10_sumOf_4, bX10_sumOf_23, o_add, o_div, o_ic, o_ild, o_iret, o_ist, o_rem, o_zle, tk, lget, lput, lkill, lmask, ol]
      try simp only [up, upL, rp, sf, cpy, Nat.reduceEqDiff, reduceIte, Int.reduceNeg, Int.reduceLE, Int.reduceLT, Int.reduceEq, Int.reduceAdd, Int.reduceSub, Int.reduceMul, ne_eq, not_true_eq_false, not_false_eq_true, true_and, and_true, and_self, false_implies, true_implies, implies_true, forall_const, Nat.reduceAdd, Int.add_zero, Int.zero_add, true_or, or_true, false_or, or_false, List.length_nil, List.length_cons]
      exact hq
    | succ j ih =>
      intro c s e0 e1 e2 hq
      have e2 : c < 10 * p10 j := e2
      have hq : Q (some (vI (if c ≤ 0 then s else smo j (c / 10) (s + c % 10)))) M := hq
      (first | refine BX10_sumOf_0 ?_ | refine BX10_sumOf_4 ?_ | refine BX10_sumOf_23 ?_)
      dsimp only [bX10_sumOf_0, bX10_sumOf_4, bX10_sumOf_23, o_add, o_div, o_ic, o_ild, o_iret, o_ist, o_rem, o_zle, tk, lget, lput, lkill, lmask, ol]
      try simp only [up, upL, rp, sf, cpy, Nat.reduceEqDiff, reduceIte, Int.reduceNeg, Int.reduceLE, Int.reduceLT, Int.reduceEq, Int.reduceAdd, Int.reduceSub, Int.reduceMul, ne_eq, not_true_eq_false, not_false_eq_true, true_and, and_true, and_self, false_implies, true_implies, implies_true, forall_const, Nat.reduceAdd, Int.add_zero, Int.zero_add, true_or, or_true, false_or, or_false, List.length_nil, List.length_cons]
      refine ⟨by omega, fun h => ?_, fun h => ⟨by omega, by omega, ?_⟩⟩
      · rw [if_pos h] at hq
        (first | refine BX10_sumOf_0 ?_ | refine BX10_sumOf_4 ?_ | refine BX10_sumOf_23 ?_)
        dsimp only [bX10_sumOf_0, bX10_sumOf_4, bX10_sumOf_23, o_add, o_div, o_ic, o_ild, o_iret, o_ist, o_rem, o_zle, tk, lget, lput, lkill, lmask, ol]
        try simp only [up, upL, rp, sf, cpy, Nat.reduceEqDiff, reduceIte, Int.reduceNeg, Int.reduceLE, Int.reduceLT, Int.reduceEq, Int.reduceAdd, Int.reduceSub, Int.reduceMul, ne_eq, not_true_eq_false, not_false_eq_true, true_and, and_true, and_self, false_implies, true_implies, implies_true, forall_const, Nat.reduceAdd, Int.add_zero, Int.zero_add, true_or, or_true, false_or, or_false, List.length_nil, List.length_cons]
        exact hq
      · rw [if_neg (by omega)] at hq
        rw [Int.tmod_eq_emod_of_nonneg e0, Int.tdiv_eq_ediv_of_nonneg e0]
        exact ih (c / 10) (s + c % 10) (by omega) (by omega) (by omega) hq
  refine EX10_sumOf rfl ?_
  (first | refine BX10_sumOf_0 ?_ | refine BX10_sumOf_4 ?_ | refine BX10_sumOf_23 ?_)
  dsimp only [bX10_sumOf_0, bX10_sumOf_4, bX10_sumOf_23, o_add, o_div, o_ic, o_ild, o_iret, o_ist, o_rem, o_zle, tk, lget, lput, lkill, lmask, ol, lent]
  try simp only [up, upL, rp, sf, cpy, Nat.reduceEqDiff, reduceIte, Int.reduceNeg, Int.reduceLE, Int.reduceLT, Int.reduceEq, Int.reduceAdd, Int.reduceSub, Int.reduceMul, ne_eq, not_true_eq_false, not_false_eq_true, true_and, and_true, and_self, false_implies, true_implies, implies_true, forall_const, Nat.reduceAdd, Int.add_zero, Int.zero_add, true_or, or_true, false_or, or_false, List.length_nil, List.length_cons]
  exact L 4 code 0 h0 (by omega) h1 hq
theorem idx_bd {n x y : Int} (hn : 2 ≤ n ∧ n ≤ 4) (x0 : 0 ≤ x) (x1 : x < n) (y0 : 0 ≤ y) (y1 : y < n) : 0 ≤ n * x ∧ 0 ≤ n * x + y ∧ n * x + y ≤ 15 ∧ n * x + y < n * n := by
  rcases (show n = 2 ∨ n = 3 ∨ n = 4 by omega) with rfl | rfl | rfl <;> omega
def fgr (code n k : Int) : Int := fgl (n - 1 - k).toNat code % 10
def Aok (g : Int → Int) (code n x y : Int) : Prop := g (100 * (n * x + y) + 10 * fgr code n x + fgr code n y) = 0
def Aup (g : Int → Int) (code n x y : Int) : Prop := ∀ x' y', 0 ≤ x' → x' < y' → y' < n → (x' < x ∨ (x' = x ∧ y' < y)) → Aok g code n x' y'
/-- the shifts of a code keep all of them apart -/
def Apt (g : Int → Int) (n code : Int) : Prop := ∀ x y, 0 ≤ x → x < y → y < n → Aok g code n x y
theorem c_isApart {l : Launch} {X : Cx} {Q : Qt} {M : Me} {code n : Int} (hc : 0 ≤ code ∧ code ≤ 9999) (hn : 2 ≤ n ∧ n ≤ 4) (hg : ∀ i, 0 ≤ i → i < 100 * (n * n) → M.1 17 i = 0 ∨ M.1 17 i = 1) (h1 : Apt (M.1 17) n code → Q (some (vI 1)) M) (h0 : ¬ Apt (M.1 17) n code → Q (some (vI 0)) M) : TM l X shM 1 mX10_isApart [vR 0, vI code, vI n] M Q := by
  have Li : ∀ (x : Int), 0 ≤ x → x < n → (∀ a : Int, (a = 0 ∨ a = 1) → (a = 1 ↔ Aup (M.1 17) code n (x + 1) 0) → Tf l X shM 1 mX10_isApart Q 76 [some (vR 0), some (vI code), some (vI n), some (vI a), some (vI x), none] [] M) → ∀ (j : Nat) (y a : Int), y + j = n → x < y → (a = 0 ∨ a = 1) → (a = 1 ↔ Aup (M.1 17) code n x y) → Tf l X shM 1 mX10_isApart Q 17 [some (vR 0), some (vI code), some (vI n), some (vI a), some (vI x), some (vI y)] [] M := by
    intro x x0 x1 K j
    induction j with
    | zero =>
      intro y a e0 e1 e2 e3
      (first | refine BX10_isApart_0 ?_ | refine BX10_isApart_5 ?_ | refine BX10_isApart_17 ?_ | refine BX10_isApart_50 ?_ | refine BX10_isApart_59 ?_ | refine BX10_isApart_68 ?_ | refine BX10_isApart_69 ?_ | refine BX10_isApart_76 ?_ | refine BX10_isApart_82 ?_)
      dsimp only [bX10_isApart_0, bX10_isApart_5, bX10_isApart_17, bX10_isApart_50, bX10_isApart_59, bX10_isApart_68, bX10_isApart_69, bX10_isApart_76, bX10_isApart_82, o_add, o_ald, o_cge, o_gf, o_ic, o_ild, o_inc, o_ist, o_mul, o_s3, o_zal, o_zeq, o_zne, o_zret, tk, lget, lput, lkill, lmask, ol, flM_0_0, flM_0_1, flM_0_2, flM_0_3, flM_0_4, flM_0_5, flM_0_6, flM_0_7, flM_0_8, flM_0_9, flM_0_10, flM_0_11, flM_0_12, flM_0_13, flM_0_14, flM_0_15, flM_0_16, flM_0_17, flM_0_18, flM_0_19, flM_0_20, flM_0_21, flM_0_22, flM_0_23, flM_0_24, flM_0_25, flM_0_26, flM_0_27, flM_0_28, flM_0_29, flM_0_30, flM_0_31, flM_0_32, flM_0_33, flM_0_34, flM_0_35, flM_0_36, flM_0_37, flM_0_38, flM_0_39, flM_0_40, flM_0_41, arM_1, arM_2, arM_3, arM_4, arM_5, arM_6, arM_7, arM_8, arM_9, arM_10, arM_11, arM_12, arM_13, arM_14, arM_15, arM_16, arM_17, arM_18, arM_19, arM_20, arM_21, arM_22, arM_23, arM_24, arM_25]
      try simp only [up, upL, rp, sf, cpy, Nat.reduceEqDiff, reduceIte, Int.reduceNeg, Int.reduceLE, Int.reduceLT, Int.reduceEq, Int.reduceAdd, Int.reduceSub, Int.reduceMul, ne_eq, not_true_eq_false, not_false_eq_true, true_and, and_true, and_self, false_implies, true_implies, implies_true, forall_const, Nat.reduceAdd, Int.add_zero, Int.zero_add, true_or, or_true, false_or, or_false, List.length_nil, List.length_cons]
      refine ⟨by omega, by omega, fun h => K a e2 ?_, fun h => absurd h (by omega)⟩
      rw [e3]
      constructor
      · intro q x' y' a0 a1 a2 a3
        exact q x' y' a0 a1 a2 (by omega)
      · intro q x' y' a0 a1 a2 a3
        exact q x' y' a0 a1 a2 (by omega)
    | succ j ih =>
      intro y a e0 e1 e2 e3
      have hi := idx_bd hn x0 x1 (show 0 ≤ y by omega) (show y < n by omega)
      have f1 : 0 ≤ fgr code n x ∧ fgr code n x < 10 := by
        unfold fgr
        omega
      have f2 : 0 ≤ fgr code n y ∧ fgr code n y < 10 := by
        unfold fgr
        omega
      have hv := hg (100 * (n * x + y) + 10 * fgr code n x + fgr code n y) (by omega) (by omega)
      (first | refine BX10_isApart_0 ?_ | refine BX10_isApart_5 ?_ | refine BX10_isApart_17 ?_ | refine BX10_isApart_50 ?_ | refine BX10_isApart_59 ?_ | refine BX10_isApart_68 ?_ | refine BX10_isApart_69 ?_ | refine BX10_isApart_76 ?_ | refine BX10_isApart_82 ?_)
      dsimp only [bX10_isApart_0, bX10_isApart_5, bX10_isApart_17, bX10_isApart_50, bX10_isApart_59, bX10_isApart_68, bX10_isApart_69, bX10_isApart_76, bX10_isApart_82, o_add, o_ald, o_cge, o_gf, o_ic, o_ild, o_inc, o_ist, o_mul, o_s3, o_zal, o_zeq, o_zne, o_zret, tk, lget, lput, lkill, lmask, ol, flM_0_0, flM_0_1, flM_0_2, flM_0_3, flM_0_4, flM_0_5, flM_0_6, flM_0_7, flM_0_8, flM_0_9, flM_0_10, flM_0_11, flM_0_12, flM_0_13, flM_0_14, flM_0_15, flM_0_16, flM_0_17, flM_0_18, flM_0_19, flM_0_20, flM_0_21, flM_0_22, flM_0_23, flM_0_24, flM_0_25, flM_0_26, flM_0_27, flM_0_28, flM_0_29, flM_0_30, flM_0_31, flM_0_32, flM_0_33, flM_0_34, flM_0_35, flM_0_36, flM_0_37, flM_0_38, flM_0_39, flM_0_40, flM_0_41, arM_1, arM_2, arM_3, arM_4, arM_5, arM_6, arM_7, arM_8, arM_9, arM_10, arM_11, arM_12, arM_13, arM_14, arM_15, arM_16, arM_17, arM_18, arM_19, arM_20, arM_21, arM_22, arM_23, arM_24, arM_25]
      try simp only [up, upL, rp, sf, cpy, Nat.reduceEqDiff, reduceIte, Int.reduceNeg, Int.reduceLE, Int.reduceLT, Int.reduceEq, Int.reduceAdd, Int.reduceSub, Int.reduceMul, ne_eq, not_true_eq_false, not_false_eq_true, true_and, and_true, and_self, false_implies, true_implies, implies_true, forall_const, Nat.reduceAdd, Int.add_zero, Int.zero_add, true_or, or_true, false_or, or_false, List.length_nil, List.length_cons]
      refine ⟨by omega, by omega, fun h => absurd h (by omega), fun h => ⟨by omega, fun h5 => ?_, fun h5 => ⟨rfl, c_figure hc x0 x1 hn.2 ?_⟩⟩⟩
      · refine K a e2 ?_
        constructor
        · intro q
          omega
        · intro q
          refine e3.mpr (fun x' y' a0 a1 a2 a3 => q x' y' a0 a1 a2 (by omega))
      · rw [show fgl (n - 1 - x).toNat code % 10 = fgr code n x from rfl]
        (first | refine BX10_isApart_0 ?_ | refine BX10_isApart_5 ?_ | refine BX10_isApart_17 ?_ | refine BX10_isApart_50 ?_ | refine BX10_isApart_59 ?_ | refine BX10_isApart_68 ?_ | refine BX10_isApart_69 ?_ | refine BX10_isApart_76 ?_ | refine BX10_isApart_82 ?_)
        dsimp only [bX10_isApart_0, bX10_isApart_5, bX10_isApart_17, bX10_isApart_50, bX10_isApart_59, bX10_isApart_68, bX10_isApart_69, bX10_isApart_76, bX10_isApart_82, o_add, o_ald, o_cge, o_gf, o_ic, o_ild, o_inc, o_ist, o_mul, o_s3, o_zal, o_zeq, o_zne, o_zret, tk, lget, lput, lkill, lmask, ol, flM_0_0, flM_0_1, flM_0_2, flM_0_3, flM_0_4, flM_0_5, flM_0_6, flM_0_7, flM_0_8, flM_0_9, flM_0_10, flM_0_11, flM_0_12, flM_0_13, flM_0_14, flM_0_15, flM_0_16, flM_0_17, flM_0_18, flM_0_19, flM_0_20, flM_0_21, flM_0_22, flM_0_23, flM_0_24, flM_0_25, flM_0_26, flM_0_27, flM_0_28, flM_0_29, flM_0_30, flM_0_31, flM_0_32, flM_0_33, flM_0_34, flM_0_35, flM_0_36, flM_0_37, flM_0_38, flM_0_39, flM_0_40, flM_0_41, arM_1, arM_2, arM_3, arM_4, arM_5, arM_6, arM_7, arM_8, arM_9, arM_10, arM_11, arM_12, arM_13, arM_14, arM_15, arM_16, arM_17, arM_18, arM_19, arM_20, arM_21, arM_22, arM_23, arM_24, arM_25]
        try simp only [up, upL, rp, sf, cpy, Nat.reduceEqDiff, reduceIte, Int.reduceNeg, Int.reduceLE, Int.reduceLT, Int.reduceEq, Int.reduceAdd, Int.reduceSub, Int.reduceMul, ne_eq, not_true_eq_false, not_false_eq_true, true_and, and_true, and_self, false_implies, true_implies, implies_true, forall_const, Nat.reduceAdd, Int.add_zero, Int.zero_add, true_or, or_true, false_or, or_false, List.length_nil, List.length_cons]
        refine ⟨rfl, c_figure hc (by omega) (by omega) hn.2 ?_⟩
        rw [show fgl (n - 1 - y).toNat code % 10 = fgr code n y from rfl]
        (first | refine BX10_isApart_0 ?_ | refine BX10_isApart_5 ?_ | refine BX10_isApart_17 ?_ | refine BX10_isApart_50 ?_ | refine BX10_isApart_59 ?_ | refine BX10_isApart_68 ?_ | refine BX10_isApart_69 ?_ | refine BX10_isApart_76 ?_ | refine BX10_isApart_82 ?_)
        dsimp only [bX10_isApart_0, bX10_isApart_5, bX10_isApart_17, bX10_isApart_50, bX10_isApart_59, bX10_isApart_68, bX10_isApart_69, bX10_isApart_76, bX10_isApart_82, o_add, o_ald, o_cge, o_gf, o_ic, o_ild, o_inc, o_ist, o_mul, o_s3, o_zal, o_zeq, o_zne, o_zret, tk, lget, lput, lkill, lmask, ol, flM_0_0, flM_0_1, flM_0_2, flM_0_3, flM_0_4, flM_0_5, flM_0_6, flM_0_7, flM_0_8, flM_0_9, flM_0_10, flM_0_11, flM_0_12, flM_0_13, flM_0_14, flM_0_15, flM_0_16, flM_0_17, flM_0_18, flM_0_19, flM_0_20, flM_0_21, flM_0_22, flM_0_23, flM_0_24, flM_0_25, flM_0_26, flM_0_27, flM_0_28, flM_0_29, flM_0_30, flM_0_31, flM_0_32, flM_0_33, flM_0_34, flM_0_35, flM_0_36, flM_0_37, flM_0_38, flM_0_39, flM_0_40, flM_0_41, arM_1, arM_2, arM_3, arM_4, arM_5, arM_6, arM_7, arM_8, arM_9, arM_10, arM_11, arM_12, arM_13, arM_14, arM_15, arM_16, arM_17, arM_18, arM_19, arM_20, arM_21, arM_22, arM_23, arM_24, arM_25]
        try simp only [up, upL, rp, sf, cpy, Nat.reduceEqDiff, reduceIte, Int.reduceNeg, Int.reduceLE, Int.reduceLT, Int.reduceEq, Int.reduceAdd, Int.reduceSub, Int.reduceMul, ne_eq, not_true_eq_false, not_false_eq_true, true_and, and_true, and_self, false_implies, true_implies, implies_true, forall_const, Nat.reduceAdd, Int.add_zero, Int.zero_add, true_or, or_true, false_or, or_false, List.length_nil, List.length_cons]
        have ha : Aup (M.1 17) code n x y := e3.mp (by omega)
        refine ⟨by omega, by omega, fun h6 => ?_, fun h6 => ?_⟩
        · (first | refine BX10_isApart_0 ?_ | refine BX10_isApart_5 ?_ | refine BX10_isApart_17 ?_ | refine BX10_isApart_50 ?_ | refine BX10_isApart_59 ?_ | refine BX10_isApart_68 ?_ | refine BX10_isApart_69 ?_ | refine BX10_isApart_76 ?_ | refine BX10_isApart_82 ?_)
          dsimp only [bX10_isApart_0, bX10_isApart_5, bX10_isApart_17, bX10_isApart_50, bX10_isApart_59, bX10_isApart_68, bX10_isApart_69, bX10_isApart_76, bX10_isApart_82, o_add, o_ald, o_cge, o_gf, o_ic, o_ild, o_inc, o_ist, o_mul, o_s3, o_zal, o_zeq, o_zne, o_zret, tk, lget, lput, lkill, lmask, ol, flM_0_0, flM_0_1, flM_0_2, flM_0_3, flM_0_4, flM_0_5, flM_0_6, flM_0_7, flM_0_8, flM_0_9, flM_0_10, flM_0_11, flM_0_12, flM_0_13, flM_0_14, flM_0_15, flM_0_16, flM_0_17, flM_0_18, flM_0_19, flM_0_20, flM_0_21, flM_0_22, flM_0_23, flM_0_24, flM_0_25, flM_0_26, flM_0_27, flM_0_28, flM_0_29, flM_0_30, flM_0_31, flM_0_32, flM_0_33, flM_0_34, flM_0_35, flM_0_36, flM_0_37, flM_0_38, flM_0_39, flM_0_40, flM_0_41, arM_1, arM_2, arM_3, arM_4, arM_5, arM_6, arM_7, arM_8, arM_9, arM_10, arM_11, arM_12, arM_13, arM_14, arM_15, arM_16, arM_17, arM_18, arM_19, arM_20, arM_21, arM_22, arM_23, arM_24, arM_25]
          try simp only [up, upL, rp, sf, cpy, Nat.reduceEqDiff, reduceIte, Int.reduceNeg, Int.reduceLE, Int.reduceLT, Int.reduceEq, Int.reduceAdd, Int.reduceSub, Int.reduceMul, ne_eq, not_true_eq_false, not_false_eq_true, true_and, and_true, and_self, false_implies, true_implies, implies_true, forall_const, Nat.reduceAdd, Int.add_zero, Int.zero_add, true_or, or_true, false_or, or_false, List.length_nil, List.length_cons]
          (first | refine BX10_isApart_0 ?_ | refine BX10_isApart_5 ?_ | refine BX10_isApart_17 ?_ | refine BX10_isApart_50 ?_ | refine BX10_isApart_59 ?_ | refine BX10_isApart_68 ?_ | refine BX10_isApart_69 ?_ | refine BX10_isApart_76 ?_ | refine BX10_isApart_82 ?_)
          dsimp only [bX10_isApart_0, bX10_isApart_5, bX10_isApart_17, bX10_isApart_50, bX10_isApart_59, bX10_isApart_68, bX10_isApart_69, bX10_isApart_76, bX10_isApart_82, o_add, o_ald, o_cge, o_gf, o_ic, o_ild, o_inc, o_ist, o_mul, o_s3, o_zal, o_zeq, o_zne, o_zret, tk, lget, lput, lkill, lmask, ol, flM_0_0, flM_0_1, flM_0_2, flM_0_3, flM_0_4, flM_0_5, flM_0_6, flM_0_7, flM_0_8, flM_0_9, flM_0_10, flM_0_11, flM_0_12, flM_0_13, flM_0_14, flM_0_15, flM_0_16, flM_0_17, flM_0_18, flM_0_19, flM_0_20, flM_0_21, flM_0_22, flM_0_23, flM_0_24, flM_0_25, flM_0_26, flM_0_27, flM_0_28, flM_0_29, flM_0_30, flM_0_31, flM_0_32, flM_0_33, flM_0_34, flM_0_35, flM_0_36, flM_0_37, flM_0_38, flM_0_39, flM_0_40, flM_0_41, arM_1, arM_2, arM_3, arM_4, arM_5, arM_6, arM_7, arM_8, arM_9, arM_10, arM_11, arM_12, arM_13, arM_14, arM_15, arM_16, arM_17, arM_18, arM_19, arM_20, arM_21, arM_22, arM_23, arM_24, arM_25]
          try simp only [up, upL, rp, sf, cpy, Nat.reduceEqDiff, reduceIte, Int.reduceNeg, Int.reduceLE, Int.reduceLT, Int.reduceEq, Int.reduceAdd, Int.reduceSub, Int.reduceMul, ne_eq, not_true_eq_false, not_false_eq_true, true_and, and_true, and_self, false_implies, true_implies, implies_true, forall_const, Nat.reduceAdd, Int.add_zero, Int.zero_add, true_or, or_true, false_or, or_false, List.length_nil, List.length_cons]
          refine ih (y + 1) 0 (by omega) (by omega) (Or.inl rfl) ?_
          constructor
          · intro q
            exact absurd q (by decide)
          · intro q
            exact absurd (q x y x0 e1 (by omega) (Or.inr ⟨rfl, by omega⟩)) h6
        · (first | refine BX10_isApart_0 ?_ | refine BX10_isApart_5 ?_ | refine BX10_isApart_17 ?_ | refine BX10_isApart_50 ?_ | refine BX10_isApart_59 ?_ | refine BX10_isApart_68 ?_ | refine BX10_isApart_69 ?_ | refine BX10_isApart_76 ?_ | refine BX10_isApart_82 ?_)
          dsimp only [bX10_isApart_0, bX10_isApart_5, bX10_isApart_17, bX10_isApart_50, bX10_isApart_59, bX10_isApart_68, bX10_isApart_69, bX10_isApart_76, bX10_isApart_82, o_add, o_ald, o_cge, o_gf, o_ic, o_ild, o_inc, o_ist, o_mul, o_s3, o_zal, o_zeq, o_zne, o_zret, tk, lget, lput, lkill, lmask, ol, flM_0_0, flM_0_1, flM_0_2, flM_0_3, flM_0_4, flM_0_5, flM_0_6, flM_0_7, flM_0_8, flM_0_9, flM_0_10, flM_0_11, flM_0_12, flM_0_13, flM_0_14, flM_0_15, flM_0_16, flM_0_17, flM_0_18, flM_0_19, flM_0_20, flM_0_21, flM_0_22, flM_0_23, flM_0_24, flM_0_25, flM_0_26, flM_0_27, flM_0_28, flM_0_29, flM_0_30, flM_0_31, flM_0_32, flM_0_33, flM_0_34, flM_0_35, flM_0_36, flM_0_37, flM_0_38, flM_0_39, flM_0_40, flM_0_41, arM_1, arM_2, arM_3, arM_4, arM_5, arM_6, arM_7, arM_8, arM_9, arM_10, arM_11, arM_12, arM_13, arM_14, arM_15, arM_16, arM_17, arM_18, arM_19, arM_20, arM_21, arM_22, arM_23, arM_24, arM_25]
          try simp only [up, upL, rp, sf, cpy, Nat.reduceEqDiff, reduceIte, Int.reduceNeg, Int.reduceLE, Int.reduceLT, Int.reduceEq, Int.reduceAdd, Int.reduceSub, Int.reduceMul, ne_eq, not_true_eq_false, not_false_eq_true, true_and, and_true, and_self, false_implies, true_implies, implies_true, forall_const, Nat.reduceAdd, Int.add_zero, Int.zero_add, true_or, or_true, false_or, or_false, List.length_nil, List.length_cons]
          refine ih (y + 1) 1 (by omega) (by omega) (Or.inr rfl) ?_
          constructor
          · intro _ x' y' a0 a1 a2 a3
            by_cases hh : x' = x ∧ y' = y
            · rw [hh.1, hh.2]
              exact h6
            · exact ha x' y' a0 a1 a2 (by omega)
          · exact fun _ => rfl
  have L : ∀ (j : Nat) (x a : Int), x + j = n → 0 ≤ x → (a = 0 ∨ a = 1) → (a = 1 ↔ Aup (M.1 17) code n x 0) → Tf l X shM 1 mX10_isApart Q 5 [some (vR 0), some (vI code), some (vI n), some (vI a), some (vI x), none] [] M := by
    intro j
    induction j with
    | zero =>
      intro x a e0 e1 e2 e3
      have e4 : Aup (M.1 17) code n x 0 ↔ Apt (M.1 17) n code := by
        constructor
        · intro q x' y' a0 a1 a2
          exact q x' y' a0 a1 a2 (by omega)
        · intro q x' y' a0 a1 a2 a3
          exact q x' y' a0 a1 a2
      (first | refine BX10_isApart_0 ?_ | refine BX10_isApart_5 ?_ | refine BX10_isApart_17 ?_ | refine BX10_isApart_50 ?_ | refine BX10_isApart_59 ?_ | refine BX10_isApart_68 ?_ | refine BX10_isApart_69 ?_ | refine BX10_isApart_76 ?_ | refine BX10_isApart_82 ?_)
      dsimp only [bX10_isApart_0, bX10_isApart_5, bX10_isApart_17, bX10_isApart_50, bX10_isApart_59, bX10_isApart_68, bX10_isApart_69, bX10_isApart_76, bX10_isApart_82, o_add, o_ald, o_cge, o_gf, o_ic, o_ild, o_inc, o_ist, o_mul, o_s3, o_zal, o_zeq, o_zne, o_zret, tk, lget, lput, lkill, lmask, ol, flM_0_0, flM_0_1, flM_0_2, flM_0_3, flM_0_4, flM_0_5, flM_0_6, flM_0_7, flM_0_8, flM_0_9, flM_0_10, flM_0_11, flM_0_12, flM_0_13, flM_0_14, flM_0_15, flM_0_16, flM_0_17, flM_0_18, flM_0_19, flM_0_20, flM_0_21, flM_0_22, flM_0_23, flM_0_24, flM_0_25, flM_0_26, flM_0_27, flM_0_28, flM_0_29, flM_0_30, flM_0_31, flM_0_32, flM_0_33, flM_0_34, flM_0_35, flM_0_36, flM_0_37, flM_0_38, flM_0_39, flM_0_40, flM_0_41, arM_1, arM_2, arM_3, arM_4, arM_5, arM_6, arM_7, arM_8, arM_9, arM_10, arM_11, arM_12, arM_13, arM_14, arM_15, arM_16, arM_17, arM_18, arM_19, arM_20, arM_21, arM_22, arM_23, arM_24, arM_25]
      try simp only [up, upL, rp, sf, cpy, Nat.reduceEqDiff, reduceIte, Int.reduceNeg, Int.reduceLE, Int.reduceLT, Int.reduceEq, Int.reduceAdd, Int.reduceSub, Int.reduceMul, ne_eq, not_true_eq_false, not_false_eq_true, true_and, and_true, and_self, false_implies, true_implies, implies_true, forall_const, Nat.reduceAdd, Int.add_zero, Int.zero_add, true_or, or_true, false_or, or_false, List.length_nil, List.length_cons]
      refine ⟨by omega, by omega, fun h => ?_, fun h => absurd h (by omega)⟩
      (first | refine BX10_isApart_0 ?_ | refine BX10_isApart_5 ?_ | refine BX10_isApart_17 ?_ | refine BX10_isApart_50 ?_ | refine BX10_isApart_59 ?_ | refine BX10_isApart_68 ?_ | refine BX10_isApart_69 ?_ | refine BX10_isApart_76 ?_ | refine BX10_isApart_82 ?_)
      dsimp only [bX10_isApart_0, bX10_isApart_5, bX10_isApart_17, bX10_isApart_50, bX10_isApart_59, bX10_isApart_68, bX10_isApart_69, bX10_isApart_76, bX10_isApart_82, o_add, o_ald, o_cge, o_gf, o_ic, o_ild, o_inc, o_ist, o_mul, o_s3, o_zal, o_zeq, o_zne, o_zret, tk, lget, lput, lkill, lmask, ol, flM_0_0, flM_0_1, flM_0_2, flM_0_3, flM_0_4, flM_0_5, flM_0_6, flM_0_7, flM_0_8, flM_0_9, flM_0_10, flM_0_11, flM_0_12, flM_0_13, flM_0_14, flM_0_15, flM_0_16, flM_0_17, flM_0_18, flM_0_19, flM_0_20, flM_0_21, flM_0_22, flM_0_23, flM_0_24, flM_0_25, flM_0_26, flM_0_27, flM_0_28, flM_0_29, flM_0_30, flM_0_31, flM_0_32, flM_0_33, flM_0_34, flM_0_35, flM_0_36, flM_0_37, flM_0_38, flM_0_39, flM_0_40, flM_0_41, arM_1, arM_2, arM_3, arM_4, arM_5, arM_6, arM_7, arM_8, arM_9, arM_10, arM_11, arM_12, arM_13, arM_14, arM_15, arM_16, arM_17, arM_18, arM_19, arM_20, arM_21, arM_22, arM_23, arM_24, arM_25]
      try simp only [up, upL, rp, sf, cpy, Nat.reduceEqDiff, reduceIte, Int.reduceNeg, Int.reduceLE, Int.reduceLT, Int.reduceEq, Int.reduceAdd, Int.reduceSub, Int.reduceMul, ne_eq, not_true_eq_false, not_false_eq_true, true_and, and_true, and_self, false_implies, true_implies, implies_true, forall_const, Nat.reduceAdd, Int.add_zero, Int.zero_add, true_or, or_true, false_or, or_false, List.length_nil, List.length_cons]
      refine ⟨e2, ?_⟩
      rcases e2 with q | q
      · rw [q]
        exact h0 (fun z => by have := e3.mpr (e4.mpr z); omega)
      · rw [q]
        exact h1 (e4.mp (e3.mp q))
    | succ j ih =>
      intro x a e0 e1 e2 e3
      (first | refine BX10_isApart_0 ?_ | refine BX10_isApart_5 ?_ | refine BX10_isApart_17 ?_ | refine BX10_isApart_50 ?_ | refine BX10_isApart_59 ?_ | refine BX10_isApart_68 ?_ | refine BX10_isApart_69 ?_ | refine BX10_isApart_76 ?_ | refine BX10_isApart_82 ?_)
      dsimp only [bX10_isApart_0, bX10_isApart_5, bX10_isApart_17, bX10_isApart_50, bX10_isApart_59, bX10_isApart_68, bX10_isApart_69, bX10_isApart_76, bX10_isApart_82, o_add, o_ald, o_cge, o_gf, o_ic, o_ild, o_inc, o_ist, o_mul, o_s3, o_zal, o_zeq, o_zne, o_zret, tk, lget, lput, lkill, lmask, ol, flM_0_0, flM_0_1, flM_0_2, flM_0_3, flM_0_4, flM_0_5, flM_0_6, flM_0_7, flM_0_8, flM_0_9, flM_0_10, flM_0_11, flM_0_12, flM_0_13, flM_0_14, flM_0_15, flM_0_16, flM_0_17, flM_0_18, flM_0_19, flM_0_20, flM_0_21, flM_0_22, flM_0_23, flM_0_24, flM_0_25, flM_0_26, flM_0_27, flM_0_28, flM_0_29, flM_0_30, flM_0_31, flM_0_32, flM_0_33, flM_0_34, flM_0_35, flM_0_36, flM_0_37, flM_0_38, flM_0_39, flM_0_40, flM_0_41, arM_1, arM_2, arM_3, arM_4, arM_5, arM_6, arM_7, arM_8, arM_9, arM_10, arM_11, arM_12, arM_13, arM_14, arM_15, arM_16, arM_17, arM_18, arM_19, arM_20, arM_21, arM_22, arM_23, arM_24, arM_25]
      try simp only [up, upL, rp, sf, cpy, Nat.reduceEqDiff, reduceIte, Int.reduceNeg, Int.reduceLE, Int.reduceLT, Int.reduceEq, Int.reduceAdd, Int.reduceSub, Int.reduceMul, ne_eq, not_true_eq_false, not_false_eq_true, true_and, and_true, and_self, false_implies, true_implies, implies_true, forall_const, Nat.reduceAdd, Int.add_zero, Int.zero_add, true_or, or_true, false_or, or_false, List.length_nil, List.length_cons]
      refine ⟨by omega, by omega, fun h => absurd h (by omega), fun h => ?_⟩
      refine Li x e1 (by omega) (fun a' q1 q2 => ?_) (n - (x + 1)).toNat (x + 1) a (by omega) (by omega) e2 ?_
      · (first | refine BX10_isApart_0 ?_ | refine BX10_isApart_5 ?_ | refine BX10_isApart_17 ?_ | refine BX10_isApart_50 ?_ | refine BX10_isApart_59 ?_ | refine BX10_isApart_68 ?_ | refine BX10_isApart_69 ?_ | refine BX10_isApart_76 ?_ | refine BX10_isApart_82 ?_)
        dsimp only [bX10_isApart_0, bX10_isApart_5, bX10_isApart_17, bX10_isApart_50, bX10_isApart_59, bX10_isApart_68, bX10_isApart_69, bX10_isApart_76, bX10_isApart_82, o_add, o_ald, o_cge, o_gf, o_ic, o_ild, o_inc, o_ist, o_mul, o_s3, o_zal, o_zeq, o_zne, o_zret, tk, lget, lput, lkill, lmask, ol, flM_0_0, flM_0_1, flM_0_2, flM_0_3, flM_0_4, flM_0_5, flM_0_6, flM_0_7, flM_0_8, flM_0_9, flM_0_10, flM_0_11, flM_0_12, flM_0_13, flM_0_14, flM_0_15, flM_0_16, flM_0_17, flM_0_18, flM_0_19, flM_0_20, flM_0_21, flM_0_22, flM_0_23, flM_0_24, flM_0_25, flM_0_26, flM_0_27, flM_0_28, flM_0_29, flM_0_30, flM_0_31, flM_0_32, flM_0_33, flM_0_34, flM_0_35, flM_0_36, flM_0_37, flM_0_38, flM_0_39, flM_0_40, flM_0_41, arM_1, arM_2, arM_3, arM_4, arM_5, arM_6, arM_7, arM_8, arM_9, arM_10, arM_11, arM_12, arM_13, arM_14, arM_15, arM_16, arM_17, arM_18, arM_19, arM_20, arM_21, arM_22, arM_23, arM_24, arM_25]
        try simp only [up, upL, rp, sf, cpy, Nat.reduceEqDiff, reduceIte, Int.reduceNeg, Int.reduceLE, Int.reduceLT, Int.reduceEq, Int.reduceAdd, Int.reduceSub, Int.reduceMul, ne_eq, not_true_eq_false, not_false_eq_true, true_and, and_true, and_self, false_implies, true_implies, implies_true, forall_const, Nat.reduceAdd, Int.add_zero, Int.zero_add, true_or, or_true, false_or, or_false, List.length_nil, List.length_cons]
        exact ih (x + 1) a' (by omega) (by omega) q1 q2
      · rw [e3]
        constructor
        · intro q x' y' a0 a1 a2 a3
          exact q x' y' a0 a1 a2 (by omega)
        · intro q x' y' a0 a1 a2 a3
          exact q x' y' a0 a1 a2 (by omega)
  refine EX10_isApart rfl ?_
  (first | refine BX10_isApart_0 ?_ | refine BX10_isApart_5 ?_ | refine BX10_isApart_17 ?_ | refine BX10_isApart_50 ?_ | refine BX10_isApart_59 ?_ | refine BX10_isApart_68 ?_ | refine BX10_isApart_69 ?_ | refine BX10_isApart_76 ?_ | refine BX10_isApart_82 ?_)
  dsimp only [bX10_isApart_0, bX10_isApart_5, bX10_isApart_17, bX10_isApart_50, bX10_isApart_59, bX10_isApart_68, bX10_isApart_69, bX10_isApart_76, bX10_isApart_82, o_add, o_ald, o_cge, o_gf, o_ic, o_ild, o_inc, o_ist, o_mul, o_s3, o_zal, o_zeq, o_zne, o_zret, tk, lget, lput, lkill, lmask, ol, lent, flM_0_0, flM_0_1, flM_0_2, flM_0_3, flM_0_4, flM_0_5, flM_0_6, flM_0_7, flM_0_8, flM_0_9, flM_0_10, flM_0_11, flM_0_12, flM_0_13, flM_0_14, flM_0_15, flM_0_16, flM_0_17, flM_0_18, flM_0_19, flM_0_20, flM_0_21, flM_0_22, flM_0_23, flM_0_24, flM_0_25, flM_0_26, flM_0_27, flM_0_28, flM_0_29, flM_0_30, flM_0_31, flM_0_32, flM_0_33, flM_0_34, flM_0_35, flM_0_36, flM_0_37, flM_0_38, flM_0_39, flM_0_40, flM_0_41, arM_1, arM_2, arM_3, arM_4, arM_5, arM_6, arM_7, arM_8, arM_9, arM_10, arM_11, arM_12, arM_13, arM_14, arM_15, arM_16, arM_17, arM_18, arM_19, arM_20, arM_21, arM_22, arM_23, arM_24, arM_25]
  try simp only [up, upL, rp, sf, cpy, Nat.reduceEqDiff, reduceIte, Int.reduceNeg, Int.reduceLE, Int.reduceLT, Int.reduceEq, Int.reduceAdd, Int.reduceSub, Int.reduceMul, ne_eq, not_true_eq_false, not_false_eq_true, true_and, and_true, and_self, false_implies, true_implies, implies_true, forall_const, Nat.reduceAdd, Int.add_zero, Int.zero_add, true_or, or_true, false_or, or_false, List.length_nil, List.length_cons]
  exact L n.toNat 0 1 (by omega) (by omega) (Or.inr rfl) ⟨fun _ x' y' a0 a1 a2 a3 => by omega, fun _ => rfl⟩
def anm (f : Nat → Int → Int) (a sa b sb : Int) : Nat → Int → Bool
  | 0, _ => false
  | j + 1, n => (catz f a (f 7 a + sa + n) && catz f b (f 7 b + sb + n)) || anm f a sa b sb j (n + 1)
theorem anm_spec {f : Nat → Int → Int} {a sa b sb : Int} : ∀ (j : Nat) (n : Int), anm f a sa b sb j n = false ↔ ∀ k, n ≤ k → k < n + j → ¬ (catz f a (f 7 a + sa + k) = true ∧ catz f b (f 7 b + sb + k) = true)
  | 0, n => ⟨fun _ k k0 k1 => by omega, fun _ => rfl⟩
  | j + 1, n => by
    unfold anm
    rw [Bool.or_eq_false_iff, anm_spec j (n + 1)]
    constructor
    · rintro ⟨q1, q2⟩ k k0 k1 ⟨z1, z2⟩
      by_cases hk : k = n
      · rw [hk] at z1 z2
        rw [z1, z2] at q1
        cases q1
      · exact q2 k (by omega) (by omega) ⟨z1, z2⟩
    · intro q
      refine ⟨?_, fun k k0 k1 => q k (by omega) (by omega)⟩
      have := q n (by omega) (by omega)
      cases h1 : catz f a (f 7 a + sa + n) with
      | false => rfl
      | true =>
        cases h2 : catz f b (f 7 b + sb + n) with
        | false => rfl
        | true => exact absurd ⟨h1, h2⟩ this
/-- whether two of them meet, by the number under which it is kept -/
def mtv (f : Nat → Int → Int) (n k : Int) : Int := if k / 100 / n < k / 100 % n ∧ anm f (f 18 (k / 100 / n)) (k / 10 % 10) (f 18 (k / 100 % n)) (k % 10) 60 1 = true then 1 else 0
theorem mtv_01 (f : Nat → Int → Int) (n k : Int) : mtv f n k = 0 ∨ mtv f n k = 1 := by
  unfold mtv
  split
  · exact Or.inr rfl
  · exact Or.inl rfl
theorem c_findMeets {l : Launch} {X : Cx} {Q : Qt} {f : Nat → Int → Int} {u : Int → Int} {n : Int} (hE : OkE f) (hO : OkR f (f 7)) (hn : 2 ≤ n ∧ n ≤ 4) (hm : ∀ i, 0 ≤ i → i < n → 0 ≤ f 18 i ∧ f 18 i < f 0 1) (hq : Q none (rp f 17 (rowc (mtv f n) (f 17) (100 * n * n)), u)) : TM l X shM 1 mX10_findMeets [vR 0, vI n] (f, u) Q := by
  have hnn : 100 * n * n = 100 * (n * n) := Int.mul_assoc ..
  have hn2 : 4 ≤ n * n ∧ n * n ≤ 16 := by
    rcases (show n = 2 ∨ n = 3 ∨ n = 4 by omega) with rfl | rfl | rfl <;> omega
  have L : ∀ (j : Nat) (k : Int), k + j = 100 * n * n → 0 ≤ k → Tf l X shM 1 mX10_findMeets Q 2 [some (vR 0), some (vI n), some (vI k), none, none, none, none] [] (rp f 17 (rowc (mtv f n) (f 17) k), u) := by
    intro j
    induction j with
    | zero =>
      intro k e0 e1
      (first | refine BX10_findMeets_0 ?_ | refine BX10_findMeets_2 ?_ | refine BX10_findMeets_33 ?_ | refine BX10_findMeets_70 ?_ | refine BX10_findMeets_90 ?_ | refine BX10_findMeets_97 ?_ | refine BX10_findMeets_98 ?_ | refine BX10_findMeets_106 ?_ | refine BX10_findMeets_120 ?_)
      dsimp only [bX10_findMeets_0, bX10_findMeets_2, bX10_findMeets_33, bX10_findMeets_70, bX10_findMeets_90, bX10_findMeets_97, bX10_findMeets_98, bX10_findMeets_106, bX10_findMeets_120, o_ald, o_cge, o_cgt, o_div, o_gf, o_ial, o_ic, o_ild, o_inc, o_ist, o_mul, o_rem, o_v3, o_vret, o_zas, o_zeq, o_zne, tk, lget, lput, lkill, lmask, ol, flM_0_0, flM_0_1, flM_0_2, flM_0_3, flM_0_4, flM_0_5, flM_0_6, flM_0_7, flM_0_8, flM_0_9, flM_0_10, flM_0_11, flM_0_12, flM_0_13, flM_0_14, flM_0_15, flM_0_16, flM_0_17, flM_0_18, flM_0_19, flM_0_20, flM_0_21, flM_0_22, flM_0_23, flM_0_24, flM_0_25, flM_0_26, flM_0_27, flM_0_28, flM_0_29, flM_0_30, flM_0_31, flM_0_32, flM_0_33, flM_0_34, flM_0_35, flM_0_36, flM_0_37, flM_0_38, flM_0_39, flM_0_40, flM_0_41, arM_1, arM_2, arM_3, arM_4, arM_5, arM_6, arM_7, arM_8, arM_9, arM_10, arM_11, arM_12, arM_13, arM_14, arM_15, arM_16, arM_17, arM_18, arM_19, arM_20, arM_21, arM_22, arM_23, arM_24, arM_25]
      try simp only [up, upL, rp, sf, cpy, Nat.reduceEqDiff, reduceIte, Int.reduceNeg, Int.reduceLE, Int.reduceLT, Int.reduceEq, Int.reduceAdd, Int.reduceSub, Int.reduceMul, ne_eq, not_true_eq_false, not_false_eq_true, true_and, and_true, and_self, false_implies, true_implies, implies_true, forall_const, Nat.reduceAdd, Int.add_zero, Int.zero_add, true_or, or_true, false_or, or_false, List.length_nil, List.length_cons]
      refine ⟨by omega, by omega, fun h => ?_, fun h => absurd h (by omega)⟩
      (first | refine BX10_findMeets_0 ?_ | refine BX10_findMeets_2 ?_ | refine BX10_findMeets_33 ?_ | refine BX10_findMeets_70 ?_ | refine BX10_findMeets_90 ?_ | refine BX10_findMeets_97 ?_ | refine BX10_findMeets_98 ?_ | refine BX10_findMeets_106 ?_ | refine BX10_findMeets_120 ?_)
      dsimp only [bX10_findMeets_0, bX10_findMeets_2, bX10_findMeets_33, bX10_findMeets_70, bX10_findMeets_90, bX10_findMeets_97, bX10_findMeets_98, bX10_findMeets_106, bX10_findMeets_120, o_ald, o_cge, o_cgt, o_div, o_gf, o_ial, o_ic, o_ild, o_inc, o_ist, o_mul, o_rem, o_v3, o_vret, o_zas, o_zeq, o_zne, tk, lget, lput, lkill, lmask, ol, flM_0_0, flM_0_1, flM_0_2, flM_0_3, flM_0_4, flM_0_5, flM_0_6, flM_0_7, flM_0_8, flM_0_9, flM_0_10, flM_0_11, flM_0_12, flM_0_13, flM_0_14, flM_0_15, flM_0_16, flM_0_17, flM_0_18, flM_0_19, flM_0_20, flM_0_21, flM_0_22, flM_0_23, flM_0_24, flM_0_25, flM_0_26, flM_0_27, flM_0_28, flM_0_29, flM_0_30, flM_0_31, flM_0_32, flM_0_33, flM_0_34, flM_0_35, flM_0_36, flM_0_37, flM_0_38, flM_0_39, flM_0_40, flM_0_41, arM_1, arM_2, arM_3, arM_4, arM_5, arM_6, arM_7, arM_8, arM_9, arM_10, arM_11, arM_12, arM_13, arM_14, arM_15, arM_16, arM_17, arM_18, arM_19, arM_20, arM_21, arM_22, arM_23, arM_24, arM_25]
      try simp only [up, upL, rp, sf, cpy, Nat.reduceEqDiff, reduceIte, Int.reduceNeg, Int.reduceLE, Int.reduceLT, Int.reduceEq, Int.reduceAdd, Int.reduceSub, Int.reduceMul, ne_eq, not_true_eq_false, not_false_eq_true, true_and, and_true, and_self, false_implies, true_implies, implies_true, forall_const, Nat.reduceAdd, Int.add_zero, Int.zero_add, true_or, or_true, false_or, or_false, List.length_nil, List.length_cons]
      rw [show k = 100 * n * n by omega]
      exact hq
    | succ j ih =>
      intro k e0 e1
      have k1 : k / 100 < n * n := by omega
      have hx : 0 ≤ k / 100 / n ∧ k / 100 / n < n := ⟨Int.ediv_nonneg (by omega) (by omega), Int.ediv_lt_of_lt_mul (by omega) k1⟩
      have hy : 0 ≤ k / 100 % n ∧ k / 100 % n < n := ⟨Int.emod_nonneg _ (by omega), Int.emod_lt_of_pos _ (by omega)⟩
      have ek1 : k.tdiv 100 = k / 100 := Int.tdiv_eq_ediv_of_nonneg e1
      have ek2 : (k / 100).tdiv n = k / 100 / n := Int.tdiv_eq_ediv_of_nonneg (by omega)
      have ek3 : (k / 100).tmod n = k / 100 % n := Int.tmod_eq_emod_of_nonneg (by omega)
      have ek4 : k.tdiv 10 = k / 10 := Int.tdiv_eq_ediv_of_nonneg e1
      have ek5 : (k / 10).tmod 10 = k / 10 % 10 := Int.tmod_eq_emod_of_nonneg (by omega)
      have ek6 : k.tmod 10 = k % 10 := Int.tmod_eq_emod_of_nonneg e1
      obtain ⟨x, hxe⟩ : ∃ x, k / 100 / n = x := ⟨_, rfl⟩
      obtain ⟨y, hye⟩ : ∃ y, k / 100 % n = y := ⟨_, rfl⟩
      rw [hxe] at hx
      rw [hye] at hy
      obtain ⟨F, hF⟩ : ∃ F, rp f 17 (rowc (mtv f n) (f 17) k) = F := ⟨_, rfl⟩
      have F18 : F 18 = f 18 := by
        rw [← hF]
        exact rp_ne (by decide)
      have FE : OkE F := by rw [← hF]; exact hE
      have FO : OkR F (F 7) := by rw [← hF]; exact hO
      have F01 : F 0 1 = f 0 1 := by rw [← hF]; rfl
      have Fc : ∀ b z, catz F b z = catz f b z := by
        intro b z
        rw [← hF]
        rfl
      have F7 : F 7 = f 7 := by
        rw [← hF]
        exact rp_ne (by decide)
      have t106 : Tf l X shM 1 mX10_findMeets Q 106 [some (vR 0), some (vI n), some (vI k), none, none, some (vI (mtv f n k)), none] [] (F, u) := by
        (first | refine BX10_findMeets_0 ?_ | refine BX10_findMeets_2 ?_ | refine BX10_findMeets_33 ?_ | refine BX10_findMeets_70 ?_ | refine BX10_findMeets_90 ?_ | refine BX10_findMeets_97 ?_ | refine BX10_findMeets_98 ?_ | refine BX10_findMeets_106 ?_ | refine BX10_findMeets_120 ?_)
        dsimp only [bX10_findMeets_0, bX10_findMeets_2, bX10_findMeets_33, bX10_findMeets_70, bX10_findMeets_90, bX10_findMeets_97, bX10_findMeets_98, bX10_findMeets_106, bX10_findMeets_120, o_ald, o_cge, o_cgt, o_div, o_gf, o_ial, o_ic, o_ild, o_inc, o_ist, o_mul, o_rem, o_v3, o_vret, o_zas, o_zeq, o_zne, tk, lget, lput, lkill, lmask, ol, flM_0_0, flM_0_1, flM_0_2, flM_0_3, flM_0_4, flM_0_5, flM_0_6, flM_0_7, flM_0_8, flM_0_9, flM_0_10, flM_0_11, flM_0_12, flM_0_13, flM_0_14, flM_0_15, flM_0_16, flM_0_17, flM_0_18, flM_0_19, flM_0_20, flM_0_21, flM_0_22, flM_0_23, flM_0_24, flM_0_25, flM_0_26, flM_0_27, flM_0_28, flM_0_29, flM_0_30, flM_0_31, flM_0_32, flM_0_33, flM_0_34, flM_0_35, flM_0_36, flM_0_37, flM_0_38, flM_0_39, flM_0_40, flM_0_41, arM_1, arM_2, arM_3, arM_4, arM_5, arM_6, arM_7, arM_8, arM_9, arM_10, arM_11, arM_12, arM_13, arM_14, arM_15, arM_16, arM_17, arM_18, arM_19, arM_20, arM_21, arM_22, arM_23, arM_24, arM_25]
        try simp only [up, upL, rp, sf, cpy, Nat.reduceEqDiff, reduceIte, Int.reduceNeg, Int.reduceLE, Int.reduceLT, Int.reduceEq, Int.reduceAdd, Int.reduceSub, Int.reduceMul, ne_eq, not_true_eq_false, not_false_eq_true, true_and, and_true, and_self, false_implies, true_implies, implies_true, forall_const, Nat.reduceAdd, Int.add_zero, Int.zero_add, true_or, or_true, false_or, or_false, List.length_nil, List.length_cons]
        rw [← hF, up_to, rp_rp, rp_k, rowc_s e1]
        exact ⟨by omega, mtv_01 f n k, ih (k + 1) (by omega) (by omega)⟩
      have Li : ∀ (i : Nat) (m z : Int), m + i = 61 → 1 ≤ m → (z = 0 ∨ z = 1) → (z = 1 → mtv f n k = 1) → (z = 0 → mtv f n k = if x < y ∧ anm f (f 18 x) (k / 10 % 10) (f 18 y) (k % 10) i m = true then 1 else 0) → Tf l X shM 1 mX10_findMeets Q 33 [some (vR 0), some (vI n), some (vI k), some (vI x), some (vI y), some (vI z), some (vI m)] [] (F, u) := by
        intro i
        induction i with
        | zero =>
          intro m z q0 q1 q2 q3 q4
          (first | refine BX10_findMeets_0 ?_ | refine BX10_findMeets_2 ?_ | refine BX10_findMeets_33 ?_ | refine BX10_findMeets_70 ?_ | refine BX10_findMeets_90 ?_ | refine BX10_findMeets_97 ?_ | refine BX10_findMeets_98 ?_ | refine BX10_findMeets_106 ?_ | refine BX10_findMeets_120 ?_)
          dsimp only [bX10_findMeets_0, bX10_findMeets_2, bX10_findMeets_33, bX10_findMeets_70, bX10_findMeets_90, bX10_findMeets_97, bX10_findMeets_98, bX10_findMeets_106, bX10_findMeets_120, o_ald, o_cge, o_cgt, o_div, o_gf, o_ial, o_ic, o_ild, o_inc, o_ist, o_mul, o_rem, o_v3, o_vret, o_zas, o_zeq, o_zne, tk, lget, lput, lkill, lmask, ol, flM_0_0, flM_0_1, flM_0_2, flM_0_3, flM_0_4, flM_0_5, flM_0_6, flM_0_7, flM_0_8, flM_0_9, flM_0_10, flM_0_11, flM_0_12, flM_0_13, flM_0_14, flM_0_15, flM_0_16, flM_0_17, flM_0_18, flM_0_19, flM_0_20, flM_0_21, flM_0_22, flM_0_23, flM_0_24, flM_0_25, flM_0_26, flM_0_27, flM_0_28, flM_0_29, flM_0_30, flM_0_31, flM_0_32, flM_0_33, flM_0_34, flM_0_35, flM_0_36, flM_0_37, flM_0_38, flM_0_39, flM_0_40, flM_0_41, arM_1, arM_2, arM_3, arM_4, arM_5, arM_6, arM_7, arM_8, arM_9, arM_10, arM_11, arM_12, arM_13, arM_14, arM_15, arM_16, arM_17, arM_18, arM_19, arM_20, arM_21, arM_22, arM_23, arM_24, arM_25]
          try simp only [up, upL, rp, sf, cpy, Nat.reduceEqDiff, reduceIte, Int.reduceNeg, Int.reduceLE, Int.reduceLT, Int.reduceEq, Int.reduceAdd, Int.reduceSub, Int.reduceMul, ne_eq, not_true_eq_false, not_false_eq_true, true_and, and_true, and_self, false_implies, true_implies, implies_true, forall_const, Nat.reduceAdd, Int.add_zero, Int.zero_add, true_or, or_true, false_or, or_false, List.length_nil, List.length_cons]
          refine ⟨by omega, fun h => ?_, fun h => absurd h (by omega)⟩
          have e : mtv f n k = z := by
            rcases q2 with q | q
            · rw [q4 q, if_neg (fun w => by have := w.2; cases this)]
              exact q.symm
            · rw [q3 q]
              exact q.symm
          rw [e] at t106
          exact t106
        | succ i ih2 =>
          intro m z q0 q1 q2 q3 q4
          have q4 : z = 0 → mtv f n k = if x < y ∧ ((catz f (f 18 x) (f 7 (f 18 x) + k / 10 % 10 + m) && catz f (f 18 y) (f 7 (f 18 y) + k % 10 + m)) || anm f (f 18 x) (k / 10 % 10) (f 18 y) (k % 10) i (m + 1)) = true then 1 else 0 := q4
          (first | refine BX10_findMeets_0 ?_ | refine BX10_findMeets_2 ?_ | refine BX10_findMeets_33 ?_ | refine BX10_findMeets_70 ?_ | refine BX10_findMeets_90 ?_ | refine BX10_findMeets_97 ?_ | refine BX10_findMeets_98 ?_ | refine BX10_findMeets_106 ?_ | refine BX10_findMeets_120 ?_)
          dsimp only [bX10_findMeets_0, bX10_findMeets_2, bX10_findMeets_33, bX10_findMeets_70, bX10_findMeets_90, bX10_findMeets_97, bX10_findMeets_98, bX10_findMeets_106, bX10_findMeets_120, o_ald, o_cge, o_cgt, o_div, o_gf, o_ial, o_ic, o_ild, o_inc, o_ist, o_mul, o_rem, o_v3, o_vret, o_zas, o_zeq, o_zne, tk, lget, lput, lkill, lmask, ol, flM_0_0, flM_0_1, flM_0_2, flM_0_3, flM_0_4, flM_0_5, flM_0_6, flM_0_7, flM_0_8, flM_0_9, flM_0_10, flM_0_11, flM_0_12, flM_0_13, flM_0_14, flM_0_15, flM_0_16, flM_0_17, flM_0_18, flM_0_19, flM_0_20, flM_0_21, flM_0_22, flM_0_23, flM_0_24, flM_0_25, flM_0_26, flM_0_27, flM_0_28, flM_0_29, flM_0_30, flM_0_31, flM_0_32, flM_0_33, flM_0_34, flM_0_35, flM_0_36, flM_0_37, flM_0_38, flM_0_39, flM_0_40, flM_0_41, arM_1, arM_2, arM_3, arM_4, arM_5, arM_6, arM_7, arM_8, arM_9, arM_10, arM_11, arM_12, arM_13, arM_14, arM_15, arM_16, arM_17, arM_18, arM_19, arM_20, arM_21, arM_22, arM_23, arM_24, arM_25]
          try simp only [up, upL, rp, sf, cpy, Nat.reduceEqDiff, reduceIte, Int.reduceNeg, Int.reduceLE, Int.reduceLT, Int.reduceEq, Int.reduceAdd, Int.reduceSub, Int.reduceMul, ne_eq, not_true_eq_false, not_false_eq_true, true_and, and_true, and_self, false_implies, true_implies, implies_true, forall_const, Nat.reduceAdd, Int.add_zero, Int.zero_add, true_or, or_true, false_or, or_false, List.length_nil, List.length_cons]
          rw [ek4, ek5, F18]
          refine ⟨by omega, fun h => absurd h (by omega), fun h => ⟨by omega, by omega, fun h5 => ?_, fun h5 => ⟨by omega, fun h6 => ?_, fun h6 => ⟨by omega, by omega, by omega, rfl, c_isCatch FE FO (hm x hx.1 hx.2).1 (by dsimp only; rw [F01]; exact (hm x hx.1 hx.2).2) (by omega) (by omega) (fun h7 => ?_) (fun h7 => ?_)⟩⟩⟩⟩
          · have e : mtv f n k = z := by
              rcases q2 with q | q
              · rw [q4 q, if_neg (fun w => by have := w.1; omega)]
                exact q.symm
              · rw [q3 q]
                exact q.symm
            rw [e] at t106
            exact t106
          · have e : mtv f n k = z := by
              rcases q2 with q | q
              · exact absurd q h6
              · rw [q3 q]
                exact q.symm
            rw [e] at t106
            exact t106
          · dsimp only at h7
            rw [Fc, F7] at h7
            have hy2 := hm y hy.1 hy.2
            (first | refine BX10_findMeets_0 ?_ | refine BX10_findMeets_2 ?_ | refine BX10_findMeets_33 ?_ | refine BX10_findMeets_70 ?_ | refine BX10_findMeets_90 ?_ | refine BX10_findMeets_97 ?_ | refine BX10_findMeets_98 ?_ | refine BX10_findMeets_106 ?_ | refine BX10_findMeets_120 ?_)
            dsimp only [bX10_findMeets_0, bX10_findMeets_2, bX10_findMeets_33, bX10_findMeets_70, bX10_findMeets_90, bX10_findMeets_97, bX10_findMeets_98, bX10_findMeets_106, bX10_findMeets_120, o_ald, o_cge, o_cgt, o_div, o_gf, o_ial, o_ic, o_ild, o_inc, o_ist, o_mul, o_rem, o_v3, o_vret, o_zas, o_zeq, o_zne, tk, lget, lput, lkill, lmask, ol, flM_0_0, flM_0_1, flM_0_2, flM_0_3, flM_0_4, flM_0_5, flM_0_6, flM_0_7, flM_0_8, flM_0_9, flM_0_10, flM_0_11, flM_0_12, flM_0_13, flM_0_14, flM_0_15, flM_0_16, flM_0_17, flM_0_18, flM_0_19, flM_0_20, flM_0_21, flM_0_22, flM_0_23, flM_0_24, flM_0_25, flM_0_26, flM_0_27, flM_0_28, flM_0_29, flM_0_30, flM_0_31, flM_0_32, flM_0_33, flM_0_34, flM_0_35, flM_0_36, flM_0_37, flM_0_38, flM_0_39, flM_0_40, flM_0_41, arM_1, arM_2, arM_3, arM_4, arM_5, arM_6, arM_7, arM_8, arM_9, arM_10, arM_11, arM_12, arM_13, arM_14, arM_15, arM_16, arM_17, arM_18, arM_19, arM_20, arM_21, arM_22, arM_23, arM_24, arM_25]
            try simp only [up, upL, rp, sf, cpy, Nat.reduceEqDiff, reduceIte, Int.reduceNeg, Int.reduceLE, Int.reduceLT, Int.reduceEq, Int.reduceAdd, Int.reduceSub, Int.reduceMul, ne_eq, not_true_eq_false, not_false_eq_true, true_and, and_true, and_self, false_implies, true_implies, implies_true, forall_const, Nat.reduceAdd, Int.add_zero, Int.zero_add, true_or, or_true, false_or, or_false, List.length_nil, List.length_cons]
            rw [ek6, F18]
            refine ⟨by omega, by omega, rfl, c_isCatch FE FO hy2.1 (by dsimp only; rw [F01]; exact hy2.2) (by omega) (by omega) (fun h8 => ?_) (fun h8 => ?_)⟩
            · dsimp only at h8
              rw [Fc, F7] at h8
              (first | refine BX10_findMeets_0 ?_ | refine BX10_findMeets_2 ?_ | refine BX10_findMeets_33 ?_ | refine BX10_findMeets_70 ?_ | refine BX10_findMeets_90 ?_ | refine BX10_findMeets_97 ?_ | refine BX10_findMeets_98 ?_ | refine BX10_findMeets_106 ?_ | refine BX10_findMeets_120 ?_)
              dsimp only [bX10_findMeets_0, bX10_findMeets_2, bX10_findMeets_33, bX10_findMeets_70, bX10_findMeets_90, bX10_findMeets_97, bX10_findMeets_98, bX10_findMeets_106, bX10_findMeets_120, o_ald, o_cge, o_cgt, o_div, o_gf, o_ial, o_ic, o_ild, o_inc, o_ist, o_mul, o_rem, o_v3, o_vret, o_zas, o_zeq, o_zne, tk, lget, lput, lkill, lmask, ol, flM_0_0, flM_0_1, flM_0_2, flM_0_3, flM_0_4, flM_0_5, flM_0_6, flM_0_7, flM_0_8, flM_0_9, flM_0_10, flM_0_11, flM_0_12, flM_0_13, flM_0_14, flM_0_15, flM_0_16, flM_0_17, flM_0_18, flM_0_19, flM_0_20, flM_0_21, flM_0_22, flM_0_23, flM_0_24, flM_0_25, flM_0_26, flM_0_27, flM_0_28, flM_0_29, flM_0_30, flM_0_31, flM_0_32, flM_0_33, flM_0_34, flM_0_35, flM_0_36, flM_0_37, flM_0_38, flM_0_39, flM_0_40, flM_0_41, arM_1, arM_2, arM_3, arM_4, arM_5, arM_6, arM_7, arM_8, arM_9, arM_10, arM_11, arM_12, arM_13, arM_14, arM_15, arM_16, arM_17, arM_18, arM_19, arM_20, arM_21, arM_22, arM_23, arM_24, arM_25]
              try simp only [up, upL, rp, sf, cpy, Nat.reduceEqDiff, reduceIte, Int.reduceNeg, Int.reduceLE, Int.reduceLT, Int.reduceEq, Int.reduceAdd, Int.reduceSub, Int.reduceMul, ne_eq, not_true_eq_false, not_false_eq_true, true_and, and_true, and_self, false_implies, true_implies, implies_true, forall_const, Nat.reduceAdd, Int.add_zero, Int.zero_add, true_or, or_true, false_or, or_false, List.length_nil, List.length_cons]
              (first | refine BX10_findMeets_0 ?_ | refine BX10_findMeets_2 ?_ | refine BX10_findMeets_33 ?_ | refine BX10_findMeets_70 ?_ | refine BX10_findMeets_90 ?_ | refine BX10_findMeets_97 ?_ | refine BX10_findMeets_98 ?_ | refine BX10_findMeets_106 ?_ | refine BX10_findMeets_120 ?_)
              dsimp only [bX10_findMeets_0, bX10_findMeets_2, bX10_findMeets_33, bX10_findMeets_70, bX10_findMeets_90, bX10_findMeets_97, bX10_findMeets_98, bX10_findMeets_106, bX10_findMeets_120, o_ald, o_cge, o_cgt, o_div, o_gf, o_ial, o_ic, o_ild, o_inc, o_ist, o_mul, o_rem, o_v3, o_vret, o_zas, o_zeq, o_zne, tk, lget, lput, lkill, lmask, ol, flM_0_0, flM_0_1, flM_0_2, flM_0_3, flM_0_4, flM_0_5, flM_0_6, flM_0_7, flM_0_8, flM_0_9, flM_0_10, flM_0_11, flM_0_12, flM_0_13, flM_0_14, flM_0_15, flM_0_16, flM_0_17, flM_0_18, flM_0_19, flM_0_20, flM_0_21, flM_0_22, flM_0_23, flM_0_24, flM_0_25, flM_0_26, flM_0_27, flM_0_28, flM_0_29, flM_0_30, flM_0_31, flM_0_32, flM_0_33, flM_0_34, flM_0_35, flM_0_36, flM_0_37, flM_0_38, flM_0_39, flM_0_40, flM_0_41, arM_1, arM_2, arM_3, arM_4, arM_5, arM_6, arM_7, arM_8, arM_9, arM_10, arM_11, arM_12, arM_13, arM_14, arM_15, arM_16, arM_17, arM_18, arM_19, arM_20, arM_21, arM_22, arM_23, arM_24, arM_25]
              try simp only [up, upL, rp, sf, cpy, Nat.reduceEqDiff, reduceIte, Int.reduceNeg, Int.reduceLE, Int.reduceLT, Int.reduceEq, Int.reduceAdd, Int.reduceSub, Int.reduceMul, ne_eq, not_true_eq_false, not_false_eq_true, true_and, and_true, and_self, false_implies, true_implies, implies_true, forall_const, Nat.reduceAdd, Int.add_zero, Int.zero_add, true_or, or_true, false_or, or_false, List.length_nil, List.length_cons]
              refine ih2 (m + 1) 1 (by omega) (by omega) (Or.inr rfl) (fun _ => ?_) (fun w => absurd w (by decide))
              rw [q4 h6, if_pos ⟨h5, by rw [h7, h8]; rfl⟩]
            · dsimp only at h8
              rw [Fc, F7] at h8
              (first | refine BX10_findMeets_0 ?_ | refine BX10_findMeets_2 ?_ | refine BX10_findMeets_33 ?_ | refine BX10_findMeets_70 ?_ | refine BX10_findMeets_90 ?_ | refine BX10_findMeets_97 ?_ | refine BX10_findMeets_98 ?_ | refine BX10_findMeets_106 ?_ | refine BX10_findMeets_120 ?_)
              dsimp only [bX10_findMeets_0, bX10_findMeets_2, bX10_findMeets_33, bX10_findMeets_70, bX10_findMeets_90, bX10_findMeets_97, bX10_findMeets_98, bX10_findMeets_106, bX10_findMeets_120, o_ald, o_cge, o_cgt, o_div, o_gf, o_ial, o_ic, o_ild, o_inc, o_ist, o_mul, o_rem, o_v3, o_vret, o_zas, o_zeq, o_zne, tk, lget, lput, lkill, lmask, ol, flM_0_0, flM_0_1, flM_0_2, flM_0_3, flM_0_4, flM_0_5, flM_0_6, flM_0_7, flM_0_8, flM_0_9, flM_0_10, flM_0_11, flM_0_12, flM_0_13, flM_0_14, flM_0_15, flM_0_16, flM_0_17, flM_0_18, flM_0_19, flM_0_20, flM_0_21, flM_0_22, flM_0_23, flM_0_24, flM_0_25, flM_0_26, flM_0_27, flM_0_28, flM_0_29, flM_0_30, flM_0_31, flM_0_32, flM_0_33, flM_0_34, flM_0_35, flM_0_36, flM_0_37, flM_0_38, flM_0_39, flM_0_40, flM_0_41, arM_1, arM_2, arM_3, arM_4, arM_5, arM_6, arM_7, arM_8, arM_9, arM_10, arM_11, arM_12, arM_13, arM_14, arM_15, arM_16, arM_17, arM_18, arM_19, arM_20, arM_21, arM_22, arM_23, arM_24, arM_25]
              try simp only [up, upL, rp, sf, cpy, Nat.reduceEqDiff, reduceIte, Int.reduceNeg, Int.reduceLE, Int.reduceLT, Int.reduceEq, Int.reduceAdd, Int.reduceSub, Int.reduceMul, ne_eq, not_true_eq_false, not_false_eq_true, true_and, and_true, and_self, false_implies, true_implies, implies_true, forall_const, Nat.reduceAdd, Int.add_zero, Int.zero_add, true_or, or_true, false_or, or_false, List.length_nil, List.length_cons]
              (first | refine BX10_findMeets_0 ?_ | refine BX10_findMeets_2 ?_ | refine BX10_findMeets_33 ?_ | refine BX10_findMeets_70 ?_ | refine BX10_findMeets_90 ?_ | refine BX10_findMeets_97 ?_ | refine BX10_findMeets_98 ?_ | refine BX10_findMeets_106 ?_ | refine BX10_findMeets_120 ?_)
              dsimp only [bX10_findMeets_0, bX10_findMeets_2, bX10_findMeets_33, bX10_findMeets_70, bX10_findMeets_90, bX10_findMeets_97, bX10_findMeets_98, bX10_findMeets_106, bX10_findMeets_120, o_ald, o_cge, o_cgt, o_div, o_gf, o_ial, o_ic, o_ild, o_inc, o_ist, o_mul, o_rem, o_v3, o_vret, o_zas, o_zeq, o_zne, tk, lget, lput, lkill, lmask, ol, flM_0_0, flM_0_1, flM_0_2, flM_0_3, flM_0_4, flM_0_5, flM_0_6, flM_0_7, flM_0_8, flM_0_9, flM_0_10, flM_0_11, flM_0_12, flM_0_13, flM_0_14, flM_0_15, flM_0_16, flM_0_17, flM_0_18, flM_0_19, flM_0_20, flM_0_21, flM_0_22, flM_0_23, flM_0_24, flM_0_25, flM_0_26, flM_0_27, flM_0_28, flM_0_29, flM_0_30, flM_0_31, flM_0_32, flM_0_33, flM_0_34, flM_0_35, flM_0_36, flM_0_37, flM_0_38, flM_0_39, flM_0_40, flM_0_41, arM_1, arM_2, arM_3, arM_4, arM_5, arM_6, arM_7, arM_8, arM_9, arM_10, arM_11, arM_12, arM_13, arM_14, arM_15, arM_16, arM_17, arM_18, arM_19, arM_20, arM_21, arM_22, arM_23, arM_24, arM_25]
              try simp only [up, upL, rp, sf, cpy, Nat.reduceEqDiff, reduceIte, Int.reduceNeg, Int.reduceLE, Int.reduceLT, Int.reduceEq, Int.reduceAdd, Int.reduceSub, Int.reduceMul, ne_eq, not_true_eq_false, not_false_eq_true, true_and, and_true, and_self, false_implies, true_implies, implies_true, forall_const, Nat.reduceAdd, Int.add_zero, Int.zero_add, true_or, or_true, false_or, or_false, List.length_nil, List.length_cons]
              (first | refine BX10_findMeets_0 ?_ | refine BX10_findMeets_2 ?_ | refine BX10_findMeets_33 ?_ | refine BX10_findMeets_70 ?_ | refine BX10_findMeets_90 ?_ | refine BX10_findMeets_97 ?_ | refine BX10_findMeets_98 ?_ | refine BX10_findMeets_106 ?_ | refine BX10_findMeets_120 ?_)
              dsimp only [bX10_findMeets_0, bX10_findMeets_2, bX10_findMeets_33, bX10_findMeets_70, bX10_findMeets_90, bX10_findMeets_97, bX10_findMeets_98, bX10_findMeets_106, bX10_findMeets_120, o_ald, o_cge, o_cgt, o_div, o_gf, o_ial, o_ic, o_ild, o_inc, o_ist, o_mul, o_rem, o_v3, o_vret, o_zas, o_zeq, o_zne, tk, lget, lput, lkill, lmask, ol, flM_0_0, flM_0_1, flM_0_2, flM_0_3, flM_0_4, flM_0_5, flM_0_6, flM_0_7, flM_0_8, flM_0_9, flM_0_10, flM_0_11, flM_0_12, flM_0_13, flM_0_14, flM_0_15, flM_0_16, flM_0_17, flM_0_18, flM_0_19, flM_0_20, flM_0_21, flM_0_22, flM_0_23, flM_0_24, flM_0_25, flM_0_26, flM_0_27, flM_0_28, flM_0_29, flM_0_30, flM_0_31, flM_0_32, flM_0_33, flM_0_34, flM_0_35, flM_0_36, flM_0_37, flM_0_38, flM_0_39, flM_0_40, flM_0_41, arM_1, arM_2, arM_3, arM_4, arM_5, arM_6, arM_7, arM_8, arM_9, arM_10, arM_11, arM_12, arM_13, arM_14, arM_15, arM_16, arM_17, arM_18, arM_19, arM_20, arM_21, arM_22, arM_23, arM_24, arM_25]
              try simp only [up, upL, rp, sf, cpy, Nat.reduceEqDiff, reduceIte, Int.reduceNeg, Int.reduceLE, Int.reduceLT, Int.reduceEq, Int.reduceAdd, Int.reduceSub, Int.reduceMul, ne_eq, not_true_eq_false, not_false_eq_true, true_and, and_true, and_self, false_implies, true_implies, implies_true, forall_const, Nat.reduceAdd, Int.add_zero, Int.zero_add, true_or, or_true, false_or, or_false, List.length_nil, List.length_cons]
              refine ih2 (m + 1) 0 (by omega) (by omega) (Or.inl rfl) (fun w => absurd w (by decide)) (fun _ => ?_)
              rw [q4 h6, h8, Bool.and_false, Bool.false_or]
          · dsimp only at h7
            rw [Fc, F7] at h7
            (first | refine BX10_findMeets_0 ?_ | refine BX10_findMeets_2 ?_ | refine BX10_findMeets_33 ?_ | refine BX10_findMeets_70 ?_ | refine BX10_findMeets_90 ?_ | refine BX10_findMeets_97 ?_ | refine BX10_findMeets_98 ?_ | refine BX10_findMeets_106 ?_ | refine BX10_findMeets_120 ?_)
            dsimp only [bX10_findMeets_0, bX10_findMeets_2, bX10_findMeets_33, bX10_findMeets_70, bX10_findMeets_90, bX10_findMeets_97, bX10_findMeets_98, bX10_findMeets_106, bX10_findMeets_120, o_ald, o_cge, o_cgt, o_div, o_gf, o_ial, o_ic, o_ild, o_inc, o_ist, o_mul, o_rem, o_v3, o_vret, o_zas, o_zeq, o_zne, tk, lget, lput, lkill, lmask, ol, flM_0_0, flM_0_1, flM_0_2, flM_0_3, flM_0_4, flM_0_5, flM_0_6, flM_0_7, flM_0_8, flM_0_9, flM_0_10, flM_0_11, flM_0_12, flM_0_13, flM_0_14, flM_0_15, flM_0_16, flM_0_17, flM_0_18, flM_0_19, flM_0_20, flM_0_21, flM_0_22, flM_0_23, flM_0_24, flM_0_25, flM_0_26, flM_0_27, flM_0_28, flM_0_29, flM_0_30, flM_0_31, flM_0_32, flM_0_33, flM_0_34, flM_0_35, flM_0_36, flM_0_37, flM_0_38, flM_0_39, flM_0_40, flM_0_41, arM_1, arM_2, arM_3, arM_4, arM_5, arM_6, arM_7, arM_8, arM_9, arM_10, arM_11, arM_12, arM_13, arM_14, arM_15, arM_16, arM_17, arM_18, arM_19, arM_20, arM_21, arM_22, arM_23, arM_24, arM_25]
            try simp only [up, upL, rp, sf, cpy, Nat.reduceEqDiff, reduceIte, Int.reduceNeg, Int.reduceLE, Int.reduceLT, Int.reduceEq, Int.reduceAdd, Int.reduceSub, Int.reduceMul, ne_eq, not_true_eq_false, not_false_eq_true, true_and, and_true, and_self, false_implies, true_implies, implies_true, forall_const, Nat.reduceAdd, Int.add_zero, Int.zero_add, true_or, or_true, false_or, or_false, List.length_nil, List.length_cons]
            (first | refine BX10_findMeets_0 ?_ | refine BX10_findMeets_2 ?_ | refine BX10_findMeets_33 ?_ | refine BX10_findMeets_70 ?_ | refine BX10_findMeets_90 ?_ | refine BX10_findMeets_97 ?_ | refine BX10_findMeets_98 ?_ | refine BX10_findMeets_106 ?_ | refine BX10_findMeets_120 ?_)
            dsimp only [bX10_findMeets_0, bX10_findMeets_2, bX10_findMeets_33, bX10_findMeets_70, bX10_findMeets_90, bX10_findMeets_97, bX10_findMeets_98, bX10_findMeets_106, bX10_findMeets_120, o_ald, o_cge, o_cgt, o_div, o_gf, o_ial, o_ic, o_ild, o_inc, o_ist, o_mul, o_rem, o_v3, o_vret, o_zas, o_zeq, o_zne, tk, lget, lput, lkill, lmask, ol, flM_0_0, flM_0_1, flM_0_2, flM_0_3, flM_0_4, flM_0_5, flM_0_6, flM_0_7, flM_0_8, flM_0_9, flM_0_10, flM_0_11, flM_0_12, flM_0_13, flM_0_14, flM_0_15, flM_0_16, flM_0_17, flM_0_18, flM_0_19, flM_0_20, flM_0_21, flM_0_22, flM_0_23, flM_0_24, flM_0_25, flM_0_26, flM_0_27, flM_0_28, flM_0_29, flM_0_30, flM_0_31, flM_0_32, flM_0_33, flM_0_34, flM_0_35, flM_0_36, flM_0_37, flM_0_38, flM_0_39, flM_0_40, flM_0_41, arM_1, arM_2, arM_3, arM_4, arM_5, arM_6, arM_7, arM_8, arM_9, arM_10, arM_11, arM_12, arM_13, arM_14, arM_15, arM_16, arM_17, arM_18, arM_19, arM_20, arM_21, arM_22, arM_23, arM_24, arM_25]
            try simp only [up, upL, rp, sf, cpy, Nat.reduceEqDiff, reduceIte, Int.reduceNeg, Int.reduceLE, Int.reduceLT, Int.reduceEq, Int.reduceAdd, Int.reduceSub, Int.reduceMul, ne_eq, not_true_eq_false, not_false_eq_true, true_and, and_true, and_self, false_implies, true_implies, implies_true, forall_const, Nat.reduceAdd, Int.add_zero, Int.zero_add, true_or, or_true, false_or, or_false, List.length_nil, List.length_cons]
            (first | refine BX10_findMeets_0 ?_ | refine BX10_findMeets_2 ?_ | refine BX10_findMeets_33 ?_ | refine BX10_findMeets_70 ?_ | refine BX10_findMeets_90 ?_ | refine BX10_findMeets_97 ?_ | refine BX10_findMeets_98 ?_ | refine BX10_findMeets_106 ?_ | refine BX10_findMeets_120 ?_)
            dsimp only [bX10_findMeets_0, bX10_findMeets_2, bX10_findMeets_33, bX10_findMeets_70, bX10_findMeets_90, bX10_findMeets_97, bX10_findMeets_98, bX10_findMeets_106, bX10_findMeets_120, o_ald, o_cge, o_cgt, o_div, o_gf, o_ial, o_ic, o_ild, o_inc, o_ist, o_mul, o_rem, o_v3, o_vret, o_zas, o_zeq, o_zne, tk, lget, lput, lkill, lmask, ol, flM_0_0, flM_0_1, flM_0_2, flM_0_3, flM_0_4, flM_0_5, flM_0_6, flM_0_7, flM_0_8, flM_0_9, flM_0_10, flM_0_11, flM_0_12, flM_0_13, flM_0_14, flM_0_15, flM_0_16, flM_0_17, flM_0_18, flM_0_19, flM_0_20, flM_0_21, flM_0_22, flM_0_23, flM_0_24, flM_0_25, flM_0_26, flM_0_27, flM_0_28, flM_0_29, flM_0_30, flM_0_31, flM_0_32, flM_0_33, flM_0_34, flM_0_35, flM_0_36, flM_0_37, flM_0_38, flM_0_39, flM_0_40, flM_0_41, arM_1, arM_2, arM_3, arM_4, arM_5, arM_6, arM_7, arM_8, arM_9, arM_10, arM_11, arM_12, arM_13, arM_14, arM_15, arM_16, arM_17, arM_18, arM_19, arM_20, arM_21, arM_22, arM_23, arM_24, arM_25]
            try simp only [up, upL, rp, sf, cpy, Nat.reduceEqDiff, reduceIte, Int.reduceNeg, Int.reduceLE, Int.reduceLT, Int.reduceEq, Int.reduceAdd, Int.reduceSub, Int.reduceMul, ne_eq, not_true_eq_false, not_false_eq_true, true_and, and_true, and_self, false_implies, true_implies, implies_true, forall_const, Nat.reduceAdd, Int.add_zero, Int.zero_add, true_or, or_true, false_or, or_false, List.length_nil, List.length_cons]
            refine ih2 (m + 1) 0 (by omega) (by omega) (Or.inl rfl) (fun w => absurd w (by decide)) (fun _ => ?_)
            rw [q4 h6, h7, Bool.false_and, Bool.false_or]
      rw [hF]
      (first | refine BX10_findMeets_0 ?_ | refine BX10_findMeets_2 ?_ | refine BX10_findMeets_33 ?_ | refine BX10_findMeets_70 ?_ | refine BX10_findMeets_90 ?_ | refine BX10_findMeets_97 ?_ | refine BX10_findMeets_98 ?_ | refine BX10_findMeets_106 ?_ | refine BX10_findMeets_120 ?_)
      dsimp only [bX10_findMeets_0, bX10_findMeets_2, bX10_findMeets_33, bX10_findMeets_70, bX10_findMeets_90, bX10_findMeets_97, bX10_findMeets_98, bX10_findMeets_106, bX10_findMeets_120, o_ald, o_cge, o_cgt, o_div, o_gf, o_ial, o_ic, o_ild, o_inc, o_ist, o_mul, o_rem, o_v3, o_vret, o_zas, o_zeq, o_zne, tk, lget, lput, lkill, lmask, ol, flM_0_0, flM_0_1, flM_0_2, flM_0_3, flM_0_4, flM_0_5, flM_0_6, flM_0_7, flM_0_8, flM_0_9, flM_0_10, flM_0_11, flM_0_12, flM_0_13, flM_0_14, flM_0_15, flM_0_16, flM_0_17, flM_0_18, flM_0_19, flM_0_20, flM_0_21, flM_0_22, flM_0_23, flM_0_24, flM_0_25, flM_0_26, flM_0_27, flM_0_28, flM_0_29, flM_0_30, flM_0_31, flM_0_32, flM_0_33, flM_0_34, flM_0_35, flM_0_36, flM_0_37, flM_0_38, flM_0_39, flM_0_40, flM_0_41, arM_1, arM_2, arM_3, arM_4, arM_5, arM_6, arM_7, arM_8, arM_9, arM_10, arM_11, arM_12, arM_13, arM_14, arM_15, arM_16, arM_17, arM_18, arM_19, arM_20, arM_21, arM_22, arM_23, arM_24, arM_25]
      try simp only [up, upL, rp, sf, cpy, Nat.reduceEqDiff, reduceIte, Int.reduceNeg, Int.reduceLE, Int.reduceLT, Int.reduceEq, Int.reduceAdd, Int.reduceSub, Int.reduceMul, ne_eq, not_true_eq_false, not_false_eq_true, true_and, and_true, and_self, false_implies, true_implies, implies_true, forall_const, Nat.reduceAdd, Int.add_zero, Int.zero_add, true_or, or_true, false_or, or_false, List.length_nil, List.length_cons]
      rw [ek1, ek2, ek3, hxe, hye]
      refine ⟨by omega, by omega, fun h => absurd h (by omega), fun h => ⟨by omega, by omega, by omega, by omega, by omega, by omega, by omega, by omega, ?_⟩⟩
      refine Li 60 1 0 (by omega) (by omega) (Or.inl rfl) (fun w => absurd w (by decide)) (fun _ => ?_)
      unfold mtv
      rw [hxe, hye]
  have := L (100 * n * n).toNat 0 (by omega) (by omega)
  rw [rowc_0, rp_self] at this
  refine EX10_findMeets rfl ?_
  (first | refine BX10_findMeets_0 ?_ | refine BX10_findMeets_2 ?_ | refine BX10_findMeets_33 ?_ | refine BX10_findMeets_70 ?_ | refine BX10_findMeets_90 ?_ | refine BX10_findMeets_97 ?_ | refine BX10_findMeets_98 ?_ | refine BX10_findMeets_106 ?_ | refine BX10_findMeets_120 ?_)
  dsimp only [bX10_findMeets_0, bX10_findMeets_2, bX10_findMeets_33, bX10_findMeets_70, bX10_findMeets_90, bX10_findMeets_97, bX10_findMeets_98, bX10_findMeets_106, bX10_findMeets_120, o_ald, o_cge, o_cgt, o_div, o_gf, o_ial, o_ic, o_ild, o_inc, o_ist, o_mul, o_rem, o_v3, o_vret, o_zas, o_zeq, o_zne, tk, lget, lput, lkill, lmask, ol, lent, flM_0_0, flM_0_1, flM_0_2, flM_0_3, flM_0_4, flM_0_5, flM_0_6, flM_0_7, flM_0_8, flM_0_9, flM_0_10, flM_0_11, flM_0_12, flM_0_13, flM_0_14, flM_0_15, flM_0_16, flM_0_17, flM_0_18, flM_0_19, flM_0_20, flM_0_21, flM_0_22, flM_0_23, flM_0_24, flM_0_25, flM_0_26, flM_0_27, flM_0_28, flM_0_29, flM_0_30, flM_0_31, flM_0_32, flM_0_33, flM_0_34, flM_0_35, flM_0_36, flM_0_37, flM_0_38, flM_0_39, flM_0_40, flM_0_41, arM_1, arM_2, arM_3, arM_4, arM_5, arM_6, arM_7, arM_8, arM_9, arM_10, arM_11, arM_12, arM_13, arM_14, arM_15, arM_16, arM_17, arM_18, arM_19, arM_20, arM_21, arM_22, arM_23, arM_24, arM_25]
  try simp only [up, upL, rp, sf, cpy, Nat.reduceEqDiff, reduceIte, Int.reduceNeg, Int.reduceLE, Int.reduceLT, Int.reduceEq, Int.reduceAdd, Int.reduceSub, Int.reduceMul, ne_eq, not_true_eq_false, not_false_eq_true, true_and, and_true, and_self, false_implies, true_implies, implies_true, forall_const, Nat.reduceAdd, Int.add_zero, Int.zero_add, true_or, or_true, false_or, or_false, List.length_nil, List.length_cons]
  exact this
