/-! pure words; contracts of the reference's leaves -/
def bt (s k : Int) : Bool := decide (iand (ishr s k) 1 = 1)
def sf (g : Int → Int) (i v j : Int) : Int := if j = i then v else g j
def rp (f : Nat → Int → Int) (k : Nat) (g : Int → Int) (k' : Nat) (j : Int) : Int := if k' = k then g j else f k' j
theorem up_to {f : Nat → Int → Int} {k : Nat} {i v : Int} : up f k i v = rp f k (sf (f k) i v) := by
  funext k' j
  unfold up rp sf
  by_cases h : k' = k
  · subst h; rfl
  · rw [if_neg h, if_neg h]
theorem rp_k {f : Nat → Int → Int} {k : Nat} {g : Int → Int} : rp f k g k = g := by funext j; simp [rp]
theorem rp_ne {f : Nat → Int → Int} {k k' : Nat} {g : Int → Int} (h : k' ≠ k) : rp f k g k' = f k' := by funext j; simp [rp, h]
theorem rp_rp {f : Nat → Int → Int} {k : Nat} {g h : Int → Int} : rp (rp f k g) k h = rp f k h := by
  funext k' j
  unfold rp
  by_cases e : k' = k
  · rw [if_pos e, if_pos e]
  · rw [if_neg e, if_neg e, if_neg e]
theorem rp_self {f : Nat → Int → Int} {k : Nat} : rp f k (f k) = f := by
  funext k' j
  unfold rp
  by_cases e : k' = k
  · rw [if_pos e, e]
  · rw [if_neg e]
theorem r_iand (x y : Int) : -2147483648 ≤ iand x y ∧ iand x y ≤ 2147483647 := ⟨Int32.le_toInt _, by have := Int32.toInt_lt (i32 x &&& i32 y); unfold iand; omega⟩
theorem r_ior (x y : Int) : -2147483648 ≤ ior x y ∧ ior x y ≤ 2147483647 := ⟨Int32.le_toInt _, by have := Int32.toInt_lt (i32 x ||| i32 y); unfold ior; omega⟩
theorem r_ixor (x y : Int) : -2147483648 ≤ ixor x y ∧ ixor x y ≤ 2147483647 := ⟨Int32.le_toInt _, by have := Int32.toInt_lt (i32 x ^^^ i32 y); unfold ixor; omega⟩
theorem r_ishl (x y : Int) : -2147483648 ≤ ishl x y ∧ ishl x y ≤ 2147483647 := ⟨Int32.le_toInt _, by have := Int32.toInt_lt (i32 x <<< (i32 y &&& 31)); unfold ishl; omega⟩
theorem r_ishr (x y : Int) : -2147483648 ≤ ishr x y ∧ ishr x y ≤ 2147483647 := ⟨Int32.le_toInt _, by have := Int32.toInt_lt (i32 x >>> (i32 y &&& 31)); unfold ishr; omega⟩
theorem bt_t {s k : Int} (h : iand (ishr s k) 1 = 1) : bt s k = true := by unfold bt; simp [h]
theorem bt_f {s k : Int} (h : iand (ishr s k) 1 ≠ 1) : bt s k = false := by unfold bt; simp [h]
theorem i32_and1 (x : Int32) : (x &&& 1).toInt = 0 ∨ (x &&& 1).toInt = 1 := by
  have h : (x &&& 1).toBitVec = BitVec.ofNat 32 0 ∨ (x &&& 1).toBitVec = BitVec.ofNat 32 1 := by
    show x.toBitVec &&& 1#32 = _ ∨ x.toBitVec &&& 1#32 = _
    cases hb : x.toBitVec.getLsbD 0
    · left
      apply BitVec.eq_of_getLsbD_eq
      intro i hi
      rw [BitVec.getLsbD_and]
      cases i with
      | zero => rw [hb]; rfl
      | succ i => rw [show (1#32).getLsbD (i + 1) = false by simp [BitVec.getLsbD_one]]; simp
    · right
      apply BitVec.eq_of_getLsbD_eq
      intro i hi
      rw [BitVec.getLsbD_and]
      cases i with
      | zero => rw [hb]; rfl
      | succ i => rw [show (1#32).getLsbD (i + 1) = false by simp [BitVec.getLsbD_one]]; simp
  rcases h with h | h
  · left
    show (x &&& 1).toBitVec.toInt = 0
    rw [h]; decide
  · right
    show (x &&& 1).toBitVec.toInt = 1
    rw [h]; decide
theorem iand_1 (x : Int) : iand x 1 = 0 ∨ iand x 1 = 1 := by
  have := i32_and1 (i32 x)
  exact this
theorem c_in {l : Launch} {X : Cx} {Q : Qt} {M : Me} {x a b : Int} (hx : -2147483648 ≤ x ∧ x ≤ 2147483647) (ha : -2147483648 ≤ a ∧ a ≤ 2147483647) (hb : -2147483648 ≤ b ∧ b ≤ 2147483647) (h1 : a ≤ x ∧ x ≤ b → Q (some (vI 1)) M) (h0 : ¬ (a ≤ x ∧ x ≤ b) → Q (some (vI 0)) M) : TM l X shM 0 mX10_in [vL x, vL a, vL b] M Q := by
  have e0 : ¬ (a ≤ x ∧ x ≤ b) → Tf l X shM 0 mX10_in Q 17 [none, none, none, none, none, none] [] M := by
    intro h
    (first | refine BX10_in_0 ?_ | refine BX10_in_17 ?_ | refine BX10_in_18 ?_)
    dsimp only [bX10_in_0, bX10_in_17, bX10_in_18, o_ic, o_lcmp, o_lld, o_zgt, o_zlt, o_zret, tk, lget, lput, lkill, lmask, ol]
    try simp only [up, upL, rp, sf, cpy, Nat.reduceEqDiff, reduceIte, Int.reduceNeg, Int.reduceLE, Int.reduceLT, Int.reduceEq, Int.reduceAdd, Int.reduceSub, Int.reduceMul, ne_eq, not_true_eq_false, not_false_eq_true, true_and, and_true, and_self, false_implies, true_implies, implies_true, forall_const, Nat.reduceAdd, Int.add_zero, Int.zero_add, true_or, or_true, false_or, or_false, List.length_nil, List.length_cons]
    (first | refine BX10_in_0 ?_ | refine BX10_in_17 ?_ | refine BX10_in_18 ?_)
    dsimp only [bX10_in_0, bX10_in_17, bX10_in_18, o_ic, o_lcmp, o_lld, o_zgt, o_zlt, o_zret, tk, lget, lput, lkill, lmask, ol]
    try simp only [up, upL, rp, sf, cpy, Nat.reduceEqDiff, reduceIte, Int.reduceNeg, Int.reduceLE, Int.reduceLT, Int.reduceEq, Int.reduceAdd, Int.reduceSub, Int.reduceMul, ne_eq, not_true_eq_false, not_false_eq_true, true_and, and_true, and_self, false_implies, true_implies, implies_true, forall_const, Nat.reduceAdd, Int.add_zero, Int.zero_add, true_or, or_true, false_or, or_false, List.length_nil, List.length_cons]
    exact h0 h
  have e1 : a ≤ x ∧ x ≤ b → Tf l X shM 0 mX10_in Q 18 [none, none, none, none, none, none] [vI 1] M := by
    intro h
    (first | refine BX10_in_0 ?_ | refine BX10_in_17 ?_ | refine BX10_in_18 ?_)
    dsimp only [bX10_in_0, bX10_in_17, bX10_in_18, o_ic, o_lcmp, o_lld, o_zgt, o_zlt, o_zret, tk, lget, lput, lkill, lmask, ol]
    try simp only [up, upL, rp, sf, cpy, Nat.reduceEqDiff, reduceIte, Int.reduceNeg, Int.reduceLE, Int.reduceLT, Int.reduceEq, Int.reduceAdd, Int.reduceSub, Int.reduceMul, ne_eq, not_true_eq_false, not_false_eq_true, true_and, and_true, and_self, false_implies, true_implies, implies_true, forall_const, Nat.reduceAdd, Int.add_zero, Int.zero_add, true_or, or_true, false_or, or_false, List.length_nil, List.length_cons]
    exact h1 h
  refine EX10_in rfl ?_
  (first | refine BX10_in_0 ?_ | refine BX10_in_17 ?_ | refine BX10_in_18 ?_)
  dsimp only [bX10_in_0, bX10_in_17, bX10_in_18, o_ic, o_lcmp, o_lld, o_zgt, o_zlt, o_zret, tk, lget, lput, lkill, lmask, ol, lent]
  try simp only [up, upL, rp, sf, cpy, Nat.reduceEqDiff, reduceIte, Int.reduceNeg, Int.reduceLE, Int.reduceLT, Int.reduceEq, Int.reduceAdd, Int.reduceSub, Int.reduceMul, ne_eq, not_true_eq_false, not_false_eq_true, true_and, and_true, and_self, false_implies, true_implies, implies_true, forall_const, Nat.reduceAdd, Int.add_zero, Int.zero_add, true_or, or_true, false_or, or_false, List.length_nil, List.length_cons]
  refine ⟨by omega, by omega, fun h => e0 (by omega), fun h => ?_, fun h => ?_⟩
  · exact ⟨by omega, by omega, fun q => e1 (by omega), fun q => e1 (by omega), fun q => e0 (by omega)⟩
  · exact ⟨by omega, by omega, fun q => e1 (by omega), fun q => e1 (by omega), fun q => e0 (by omega)⟩
theorem c_has {l : Launch} {X : Cx} {Q : Qt} {M : Me} {s k : Int} (h1 : bt s k = true → Q (some (vI 1)) M) (h0 : bt s k = false → Q (some (vI 0)) M) : TM l X shM 0 mX10_has [vI s, vI k] M Q := by
  refine EX10_has rfl ?_
  (first | refine BX10_has_0 ?_ | refine BX10_has_13 ?_ | refine BX10_has_14 ?_)
  dsimp only [bX10_has_0, bX10_has_13, bX10_has_14, o_and, o_cne, o_ic, o_ild, o_shr, o_zret, tk, lget, lput, lkill, lmask, ol, lent]
  try simp only [up, upL, rp, sf, cpy, Nat.reduceEqDiff, reduceIte, Int.reduceNeg, Int.reduceLE, Int.reduceLT, Int.reduceEq, Int.reduceAdd, Int.reduceSub, Int.reduceMul, ne_eq, not_true_eq_false, not_false_eq_true, true_and, and_true, and_self, false_implies, true_implies, implies_true, forall_const, Nat.reduceAdd, Int.add_zero, Int.zero_add, true_or, or_true, false_or, or_false, List.length_nil, List.length_cons]
  refine ⟨r_iand _ _, fun h => ?_, fun h => ?_⟩
  · (first | refine BX10_has_0 ?_ | refine BX10_has_13 ?_ | refine BX10_has_14 ?_)
    dsimp only [bX10_has_0, bX10_has_13, bX10_has_14, o_and, o_cne, o_ic, o_ild, o_shr, o_zret, tk, lget, lput, lkill, lmask, ol]
    try simp only [up, upL, rp, sf, cpy, Nat.reduceEqDiff, reduceIte, Int.reduceNeg, Int.reduceLE, Int.reduceLT, Int.reduceEq, Int.reduceAdd, Int.reduceSub, Int.reduceMul, ne_eq, not_true_eq_false, not_false_eq_true, true_and, and_true, and_self, false_implies, true_implies, implies_true, forall_const, Nat.reduceAdd, Int.add_zero, Int.zero_add, true_or, or_true, false_or, or_false, List.length_nil, List.length_cons]
    (first | refine BX10_has_0 ?_ | refine BX10_has_13 ?_ | refine BX10_has_14 ?_)
    dsimp only [bX10_has_0, bX10_has_13, bX10_has_14, o_and, o_cne, o_ic, o_ild, o_shr, o_zret, tk, lget, lput, lkill, lmask, ol]
    try simp only [up, upL, rp, sf, cpy, Nat.reduceEqDiff, reduceIte, Int.reduceNeg, Int.reduceLE, Int.reduceLT, Int.reduceEq, Int.reduceAdd, Int.reduceSub, Int.reduceMul, ne_eq, not_true_eq_false, not_false_eq_true, true_and, and_true, and_self, false_implies, true_implies, implies_true, forall_const, Nat.reduceAdd, Int.add_zero, Int.zero_add, true_or, or_true, false_or, or_false, List.length_nil, List.length_cons]
    exact h0 (bt_f h)
  · (first | refine BX10_has_0 ?_ | refine BX10_has_13 ?_ | refine BX10_has_14 ?_)
    dsimp only [bX10_has_0, bX10_has_13, bX10_has_14, o_and, o_cne, o_ic, o_ild, o_shr, o_zret, tk, lget, lput, lkill, lmask, ol]
    try simp only [up, upL, rp, sf, cpy, Nat.reduceEqDiff, reduceIte, Int.reduceNeg, Int.reduceLE, Int.reduceLT, Int.reduceEq, Int.reduceAdd, Int.reduceSub, Int.reduceMul, ne_eq, not_true_eq_false, not_false_eq_true, true_and, and_true, and_self, false_implies, true_implies, implies_true, forall_const, Nat.reduceAdd, Int.add_zero, Int.zero_add, true_or, or_true, false_or, or_false, List.length_nil, List.length_cons]
    exact h1 (bt_t h)
theorem c_isBox {l : Launch} {X : Cx} {Q : Qt} {M : Me} {b : Int} (hx : -2147483648 ≤ b ∧ b ≤ 2147483647) (hb : 0 ≤ M.1 0 1 ∧ M.1 0 1 ≤ 7) (h1 : 0 ≤ b ∧ b < M.1 0 1 → Q (some (vI 1)) M) (h0 : ¬ (0 ≤ b ∧ b < M.1 0 1) → Q (some (vI 0)) M) : TM l X shM 1 mX10_isBox [vR 0, vI b] M Q := by
  refine EX10_isBox rfl ?_
  (first | refine BX10_isBox_0 ?_ | refine BX10_isBox_13 ?_)
  dsimp only [bX10_isBox_0, bX10_isBox_13, o_ald, o_gf, o_i2l, o_ic, o_ild, o_lc, o_s3, o_sub, o_zret, tk, lget, lput, lkill, lmask, ol, lent, flM_0_0, flM_0_1, flM_0_2, flM_0_3, flM_0_4, flM_0_5, flM_0_6, flM_0_7, flM_0_8, flM_0_9, flM_0_10, flM_0_11, flM_0_12, flM_0_13, flM_0_14, flM_0_15, flM_0_16, flM_0_17, flM_0_18, flM_0_19, flM_0_20, flM_0_21, flM_0_22, flM_0_23, flM_0_24, flM_0_25, flM_0_26, flM_0_27, flM_0_28, flM_0_29, flM_0_30, flM_0_31, flM_0_32, flM_0_33, flM_0_34, flM_0_35, flM_0_36, flM_0_37, flM_0_38, flM_0_39, flM_0_40, flM_0_41, arM_1, arM_2, arM_3, arM_4, arM_5, arM_6, arM_7, arM_8, arM_9, arM_10, arM_11, arM_12, arM_13, arM_14, arM_15, arM_16, arM_17, arM_18, arM_19, arM_20, arM_21, arM_22, arM_23, arM_24, arM_25]
  try simp only [up, upL, rp, sf, cpy, Nat.reduceEqDiff, reduceIte, Int.reduceNeg, Int.reduceLE, Int.reduceLT, Int.reduceEq, Int.reduceAdd, Int.reduceSub, Int.reduceMul, ne_eq, not_true_eq_false, not_false_eq_true, true_and, and_true, and_self, false_implies, true_implies, implies_true, forall_const, Nat.reduceAdd, Int.add_zero, Int.zero_add, true_or, or_true, false_or, or_false, List.length_nil, List.length_cons]
  refine ⟨by omega, by omega, rfl, ?_⟩
  refine c_in hx (by omega) (by omega) (fun h => ?_) (fun h => ?_)
  · (first | refine BX10_isBox_0 ?_ | refine BX10_isBox_13 ?_)
    dsimp only [bX10_isBox_0, bX10_isBox_13, o_ald, o_gf, o_i2l, o_ic, o_ild, o_lc, o_s3, o_sub, o_zret, tk, lget, lput, lkill, lmask, ol, flM_0_0, flM_0_1, flM_0_2, flM_0_3, flM_0_4, flM_0_5, flM_0_6, flM_0_7, flM_0_8, flM_0_9, flM_0_10, flM_0_11, flM_0_12, flM_0_13, flM_0_14, flM_0_15, flM_0_16, flM_0_17, flM_0_18, flM_0_19, flM_0_20, flM_0_21, flM_0_22, flM_0_23, flM_0_24, flM_0_25, flM_0_26, flM_0_27, flM_0_28, flM_0_29, flM_0_30, flM_0_31, flM_0_32, flM_0_33, flM_0_34, flM_0_35, flM_0_36, flM_0_37, flM_0_38, flM_0_39, flM_0_40, flM_0_41, arM_1, arM_2, arM_3, arM_4, arM_5, arM_6, arM_7, arM_8, arM_9, arM_10, arM_11, arM_12, arM_13, arM_14, arM_15, arM_16, arM_17, arM_18, arM_19, arM_20, arM_21, arM_22, arM_23, arM_24, arM_25]
    try simp only [up, upL, rp, sf, cpy, Nat.reduceEqDiff, reduceIte, Int.reduceNeg, Int.reduceLE, Int.reduceLT, Int.reduceEq, Int.reduceAdd, Int.reduceSub, Int.reduceMul, ne_eq, not_true_eq_false, not_false_eq_true, true_and, and_true, and_self, false_implies, true_implies, implies_true, forall_const, Nat.reduceAdd, Int.add_zero, Int.zero_add, true_or, or_true, false_or, or_false, List.length_nil, List.length_cons]
    exact h1 (by omega)
  · (first | refine BX10_isBox_0 ?_ | refine BX10_isBox_13 ?_)
    dsimp only [bX10_isBox_0, bX10_isBox_13, o_ald, o_gf, o_i2l, o_ic, o_ild, o_lc, o_s3, o_sub, o_zret, tk, lget, lput, lkill, lmask, ol, flM_0_0, flM_0_1, flM_0_2, flM_0_3, flM_0_4, flM_0_5, flM_0_6, flM_0_7, flM_0_8, flM_0_9, flM_0_10, flM_0_11, flM_0_12, flM_0_13, flM_0_14, flM_0_15, flM_0_16, flM_0_17, flM_0_18, flM_0_19, flM_0_20, flM_0_21, flM_0_22, flM_0_23, flM_0_24, flM_0_25, flM_0_26, flM_0_27, flM_0_28, flM_0_29, flM_0_30, flM_0_31, flM_0_32, flM_0_33, flM_0_34, flM_0_35, flM_0_36, flM_0_37, flM_0_38, flM_0_39, flM_0_40, flM_0_41, arM_1, arM_2, arM_3, arM_4, arM_5, arM_6, arM_7, arM_8, arM_9, arM_10, arM_11, arM_12, arM_13, arM_14, arM_15, arM_16, arM_17, arM_18, arM_19, arM_20, arM_21, arM_22, arM_23, arM_24, arM_25]
    try simp only [up, upL, rp, sf, cpy, Nat.reduceEqDiff, reduceIte, Int.reduceNeg, Int.reduceLE, Int.reduceLT, Int.reduceEq, Int.reduceAdd, Int.reduceSub, Int.reduceMul, ne_eq, not_true_eq_false, not_false_eq_true, true_and, and_true, and_self, false_implies, true_implies, implies_true, forall_const, Nat.reduceAdd, Int.add_zero, Int.zero_add, true_or, or_true, false_or, or_false, List.length_nil, List.length_cons]
    exact h0 (by omega)
theorem c_isRegent {l : Launch} {X : Cx} {Q : Qt} {M : Me} {b : Int} (hx : -2147483648 ≤ b ∧ b ≤ 2147483647) (hb : 0 ≤ M.1 0 8 ∧ M.1 0 8 ≤ 6) (h1 : 0 ≤ b ∧ b < M.1 0 8 → Q (some (vI 1)) M) (h0 : ¬ (0 ≤ b ∧ b < M.1 0 8) → Q (some (vI 0)) M) : TM l X shM 1 mX10_isRegent [vR 0, vI b] M Q := by
  refine EX10_isRegent rfl ?_
  (first | refine BX10_isRegent_0 ?_ | refine BX10_isRegent_13 ?_)
  dsimp only [bX10_isRegent_0, bX10_isRegent_13, o_ald, o_gf, o_i2l, o_ic, o_ild, o_lc, o_s3, o_sub, o_zret, tk, lget, lput, lkill, lmask, ol, lent, flM_0_0, flM_0_1, flM_0_2, flM_0_3, flM_0_4, flM_0_5, flM_0_6, flM_0_7, flM_0_8, flM_0_9, flM_0_10, flM_0_11, flM_0_12, flM_0_13, flM_0_14, flM_0_15, flM_0_16, flM_0_17, flM_0_18, flM_0_19, flM_0_20, flM_0_21, flM_0_22, flM_0_23, flM_0_24, flM_0_25, flM_0_26, flM_0_27, flM_0_28, flM_0_29, flM_0_30, flM_0_31, flM_0_32, flM_0_33, flM_0_34, flM_0_35, flM_0_36, flM_0_37, flM_0_38, flM_0_39, flM_0_40, flM_0_41, arM_1, arM_2, arM_3, arM_4, arM_5, arM_6, arM_7, arM_8, arM_9, arM_10, arM_11, arM_12, arM_13, arM_14, arM_15, arM_16, arM_17, arM_18, arM_19, arM_20, arM_21, arM_22, arM_23, arM_24, arM_25]
  try simp only [up, upL, rp, sf, cpy, Nat.reduceEqDiff, reduceIte, Int.reduceNeg, Int.reduceLE, Int.reduceLT, Int.reduceEq, Int.reduceAdd, Int.reduceSub, Int.reduceMul, ne_eq, not_true_eq_false, not_false_eq_true, true_and, and_true, and_self, false_implies, true_implies, implies_true, forall_const, Nat.reduceAdd, Int.add_zero, Int.zero_add, true_or, or_true, false_or, or_false, List.length_nil, List.length_cons]
  refine ⟨by omega, by omega, rfl, ?_⟩
  refine c_in hx (by omega) (by omega) (fun h => ?_) (fun h => ?_)
  · (first | refine BX10_isRegent_0 ?_ | refine BX10_isRegent_13 ?_)
    dsimp only [bX10_isRegent_0, bX10_isRegent_13, o_ald, o_gf, o_i2l, o_ic, o_ild, o_lc, o_s3, o_sub, o_zret, tk, lget, lput, lkill, lmask, ol, flM_0_0, flM_0_1, flM_0_2, flM_0_3, flM_0_4, flM_0_5, flM_0_6, flM_0_7, flM_0_8, flM_0_9, flM_0_10, flM_0_11, flM_0_12, flM_0_13, flM_0_14, flM_0_15, flM_0_16, flM_0_17, flM_0_18, flM_0_19, flM_0_20, flM_0_21, flM_0_22, flM_0_23, flM_0_24, flM_0_25, flM_0_26, flM_0_27, flM_0_28, flM_0_29, flM_0_30, flM_0_31, flM_0_32, flM_0_33, flM_0_34, flM_0_35, flM_0_36, flM_0_37, flM_0_38, flM_0_39, flM_0_40, flM_0_41, arM_1, arM_2, arM_3, arM_4, arM_5, arM_6, arM_7, arM_8, arM_9, arM_10, arM_11, arM_12, arM_13, arM_14, arM_15, arM_16, arM_17, arM_18, arM_19, arM_20, arM_21, arM_22, arM_23, arM_24, arM_25]
    try simp only [up, upL, rp, sf, cpy, Nat.reduceEqDiff, reduceIte, Int.reduceNeg, Int.reduceLE, Int.reduceLT, Int.reduceEq, Int.reduceAdd, Int.reduceSub, Int.reduceMul, ne_eq, not_true_eq_false, not_false_eq_true, true_and, and_true, and_self, false_implies, true_implies, implies_true, forall_const, Nat.reduceAdd, Int.add_zero, Int.zero_add, true_or, or_true, false_or, or_false, List.length_nil, List.length_cons]
    exact h1 (by omega)
  · (first | refine BX10_isRegent_0 ?_ | refine BX10_isRegent_13 ?_)
    dsimp only [bX10_isRegent_0, bX10_isRegent_13, o_ald, o_gf, o_i2l, o_ic, o_ild, o_lc, o_s3, o_sub, o_zret, tk, lget, lput, lkill, lmask, ol, flM_0_0, flM_0_1, flM_0_2, flM_0_3, flM_0_4, flM_0_5, flM_0_6, flM_0_7, flM_0_8, flM_0_9, flM_0_10, flM_0_11, flM_0_12, flM_0_13, flM_0_14, flM_0_15, flM_0_16, flM_0_17, flM_0_18, flM_0_19, flM_0_20, flM_0_21, flM_0_22, flM_0_23, flM_0_24, flM_0_25, flM_0_26, flM_0_27, flM_0_28, flM_0_29, flM_0_30, flM_0_31, flM_0_32, flM_0_33, flM_0_34, flM_0_35, flM_0_36, flM_0_37, flM_0_38, flM_0_39, flM_0_40, flM_0_41, arM_1, arM_2, arM_3, arM_4, arM_5, arM_6, arM_7, arM_8, arM_9, arM_10, arM_11, arM_12, arM_13, arM_14, arM_15, arM_16, arM_17, arM_18, arM_19, arM_20, arM_21, arM_22, arM_23, arM_24, arM_25]
    try simp only [up, upL, rp, sf, cpy, Nat.reduceEqDiff, reduceIte, Int.reduceNeg, Int.reduceLE, Int.reduceLT, Int.reduceEq, Int.reduceAdd, Int.reduceSub, Int.reduceMul, ne_eq, not_true_eq_false, not_false_eq_true, true_and, and_true, and_self, false_implies, true_implies, implies_true, forall_const, Nat.reduceAdd, Int.add_zero, Int.zero_add, true_or, or_true, false_or, or_false, List.length_nil, List.length_cons]
    exact h0 (by omega)
theorem c_areTwo {l : Launch} {X : Cx} {Q : Qt} {M : Me} {b c : Int} (hx : -2147483648 ≤ b ∧ b ≤ 2147483647) (hy : -2147483648 ≤ c ∧ c ≤ 2147483647) (hb : 0 ≤ M.1 0 1 ∧ M.1 0 1 ≤ 7) (h1 : (0 ≤ b ∧ b < M.1 0 1) ∧ (0 ≤ c ∧ c < M.1 0 1) ∧ b ≠ c → Q (some (vI 1)) M) (h0 : ¬ ((0 ≤ b ∧ b < M.1 0 1) ∧ (0 ≤ c ∧ c < M.1 0 1) ∧ b ≠ c) → Q (some (vI 0)) M) : TM l X shM 2 mX10_areTwo [vR 0, vI b, vI c] M Q := by
  have e0 : ¬ ((0 ≤ b ∧ b < M.1 0 1) ∧ (0 ≤ c ∧ c < M.1 0 1) ∧ b ≠ c) → Tf l X shM 2 mX10_areTwo Q 25 [none, none, none] [] M := by
    intro h
    (first | refine BX10_areTwo_0 ?_ | refine BX10_areTwo_5 ?_ | refine BX10_areTwo_13 ?_ | refine BX10_areTwo_25 ?_ | refine BX10_areTwo_26 ?_)
    dsimp only [bX10_areTwo_0, bX10_areTwo_5, bX10_areTwo_13, bX10_areTwo_25, bX10_areTwo_26, o_ald, o_ceq, o_ic, o_ild, o_v1, o_zeq, o_zret, tk, lget, lput, lkill, lmask, ol]
    try simp only [up, upL, rp, sf, cpy, Nat.reduceEqDiff, reduceIte, Int.reduceNeg, Int.reduceLE, Int.reduceLT, Int.reduceEq, Int.reduceAdd, Int.reduceSub, Int.reduceMul, ne_eq, not_true_eq_false, not_false_eq_true, true_and, and_true, and_self, false_implies, true_implies, implies_true, forall_const, Nat.reduceAdd, Int.add_zero, Int.zero_add, true_or, or_true, false_or, or_false, List.length_nil, List.length_cons]
    (first | refine BX10_areTwo_0 ?_ | refine BX10_areTwo_5 ?_ | refine BX10_areTwo_13 ?_ | refine BX10_areTwo_25 ?_ | refine BX10_areTwo_26 ?_)
    dsimp only [bX10_areTwo_0, bX10_areTwo_5, bX10_areTwo_13, bX10_areTwo_25, bX10_areTwo_26, o_ald, o_ceq, o_ic, o_ild, o_v1, o_zeq, o_zret, tk, lget, lput, lkill, lmask, ol]
    try simp only [up, upL, rp, sf, cpy, Nat.reduceEqDiff, reduceIte, Int.reduceNeg, Int.reduceLE, Int.reduceLT, Int.reduceEq, Int.reduceAdd, Int.reduceSub, Int.reduceMul, ne_eq, not_true_eq_false, not_false_eq_true, true_and, and_true, and_self, false_implies, true_implies, implies_true, forall_const, Nat.reduceAdd, Int.add_zero, Int.zero_add, true_or, or_true, false_or, or_false, List.length_nil, List.length_cons]
    exact h0 h
  refine EX10_areTwo rfl ?_
  (first | refine BX10_areTwo_0 ?_ | refine BX10_areTwo_5 ?_ | refine BX10_areTwo_13 ?_ | refine BX10_areTwo_25 ?_ | refine BX10_areTwo_26 ?_)
  dsimp only [bX10_areTwo_0, bX10_areTwo_5, bX10_areTwo_13, bX10_areTwo_25, bX10_areTwo_26, o_ald, o_ceq, o_ic, o_ild, o_v1, o_zeq, o_zret, tk, lget, lput, lkill, lmask, ol, lent]
  try simp only [up, upL, rp, sf, cpy, Nat.reduceEqDiff, reduceIte, Int.reduceNeg, Int.reduceLE, Int.reduceLT, Int.reduceEq, Int.reduceAdd, Int.reduceSub, Int.reduceMul, ne_eq, not_true_eq_false, not_false_eq_true, true_and, and_true, and_self, false_implies, true_implies, implies_true, forall_const, Nat.reduceAdd, Int.add_zero, Int.zero_add, true_or, or_true, false_or, or_false, List.length_nil, List.length_cons]
  refine ⟨rfl, c_isBox hx hb (fun h => ?_) (fun h => ?_)⟩
  · (first | refine BX10_areTwo_0 ?_ | refine BX10_areTwo_5 ?_ | refine BX10_areTwo_13 ?_ | refine BX10_areTwo_25 ?_ | refine BX10_areTwo_26 ?_)
    dsimp only [bX10_areTwo_0, bX10_areTwo_5, bX10_areTwo_13, bX10_areTwo_25, bX10_areTwo_26, o_ald, o_ceq, o_ic, o_ild, o_v1, o_zeq, o_zret, tk, lget, lput, lkill, lmask, ol]
    try simp only [up, upL, rp, sf, cpy, Nat.reduceEqDiff, reduceIte, Int.reduceNeg, Int.reduceLE, Int.reduceLT, Int.reduceEq, Int.reduceAdd, Int.reduceSub, Int.reduceMul, ne_eq, not_true_eq_false, not_false_eq_true, true_and, and_true, and_self, false_implies, true_implies, implies_true, forall_const, Nat.reduceAdd, Int.add_zero, Int.zero_add, true_or, or_true, false_or, or_false, List.length_nil, List.length_cons]
    refine ⟨rfl, c_isBox hy hb (fun h' => ?_) (fun h' => ?_)⟩
    · (first | refine BX10_areTwo_0 ?_ | refine BX10_areTwo_5 ?_ | refine BX10_areTwo_13 ?_ | refine BX10_areTwo_25 ?_ | refine BX10_areTwo_26 ?_)
      dsimp only [bX10_areTwo_0, bX10_areTwo_5, bX10_areTwo_13, bX10_areTwo_25, bX10_areTwo_26, o_ald, o_ceq, o_ic, o_ild, o_v1, o_zeq, o_zret, tk, lget, lput, lkill, lmask, ol]
      try simp only [up, upL, rp, sf, cpy, Nat.reduceEqDiff, reduceIte, Int.reduceNeg, Int.reduceLE, Int.reduceLT, Int.reduceEq, Int.reduceAdd, Int.reduceSub, Int.reduceMul, ne_eq, not_true_eq_false, not_false_eq_true, true_and, and_true, and_self, false_implies, true_implies, implies_true, forall_const, Nat.reduceAdd, Int.add_zero, Int.zero_add, true_or, or_true, false_or, or_false, List.length_nil, List.length_cons]
      refine ⟨hx, hy, fun q => e0 (by omega), fun q => ?_⟩
      (first | refine BX10_areTwo_0 ?_ | refine BX10_areTwo_5 ?_ | refine BX10_areTwo_13 ?_ | refine BX10_areTwo_25 ?_ | refine BX10_areTwo_26 ?_)
      dsimp only [bX10_areTwo_0, bX10_areTwo_5, bX10_areTwo_13, bX10_areTwo_25, bX10_areTwo_26, o_ald, o_ceq, o_ic, o_ild, o_v1, o_zeq, o_zret, tk, lget, lput, lkill, lmask, ol]
      try simp only [up, upL, rp, sf, cpy, Nat.reduceEqDiff, reduceIte, Int.reduceNeg, Int.reduceLE, Int.reduceLT, Int.reduceEq, Int.reduceAdd, Int.reduceSub, Int.reduceMul, ne_eq, not_true_eq_false, not_false_eq_true, true_and, and_true, and_self, false_implies, true_implies, implies_true, forall_const, Nat.reduceAdd, Int.add_zero, Int.zero_add, true_or, or_true, false_or, or_false, List.length_nil, List.length_cons]
      exact h1 ⟨h, h', q⟩
    · (first | refine BX10_areTwo_0 ?_ | refine BX10_areTwo_5 ?_ | refine BX10_areTwo_13 ?_ | refine BX10_areTwo_25 ?_ | refine BX10_areTwo_26 ?_)
      dsimp only [bX10_areTwo_0, bX10_areTwo_5, bX10_areTwo_13, bX10_areTwo_25, bX10_areTwo_26, o_ald, o_ceq, o_ic, o_ild, o_v1, o_zeq, o_zret, tk, lget, lput, lkill, lmask, ol]
      try simp only [up, upL, rp, sf, cpy, Nat.reduceEqDiff, reduceIte, Int.reduceNeg, Int.reduceLE, Int.reduceLT, Int.reduceEq, Int.reduceAdd, Int.reduceSub, Int.reduceMul, ne_eq, not_true_eq_false, not_false_eq_true, true_and, and_true, and_self, false_implies, true_implies, implies_true, forall_const, Nat.reduceAdd, Int.add_zero, Int.zero_add, true_or, or_true, false_or, or_false, List.length_nil, List.length_cons]
      exact e0 (by omega)
  · (first | refine BX10_areTwo_0 ?_ | refine BX10_areTwo_5 ?_ | refine BX10_areTwo_13 ?_ | refine BX10_areTwo_25 ?_ | refine BX10_areTwo_26 ?_)
    dsimp only [bX10_areTwo_0, bX10_areTwo_5, bX10_areTwo_13, bX10_areTwo_25, bX10_areTwo_26, o_ald, o_ceq, o_ic, o_ild, o_v1, o_zeq, o_zret, tk, lget, lput, lkill, lmask, ol]
    try simp only [up, upL, rp, sf, cpy, Nat.reduceEqDiff, reduceIte, Int.reduceNeg, Int.reduceLE, Int.reduceLT, Int.reduceEq, Int.reduceAdd, Int.reduceSub, Int.reduceMul, ne_eq, not_true_eq_false, not_false_eq_true, true_and, and_true, and_self, false_implies, true_implies, implies_true, forall_const, Nat.reduceAdd, Int.add_zero, Int.zero_add, true_or, or_true, false_or, or_false, List.length_nil, List.length_cons]
    exact e0 (by omega)
def bsum (s : Int) : Nat → Int → Int
  | 0, _ => 0
  | j + 1, k => iand (ishr s k) 1 + bsum s j (k + 1)
theorem c_bits {l : Launch} {X : Cx} {Q : Qt} {M : Me} {s : Int} (hq : Q (some (vI (bsum s 30 0))) M) : TM l X shM 0 mX10_bits [vI s] M Q := by
  have L : ∀ (j : Nat) (k n : Int), k + j = 30 → 0 ≤ k → 0 ≤ n → n ≤ k → Q (some (vI (n + bsum s j k))) M → Tf l X shM 0 mX10_bits Q 4 [some (vI s), some (vI n), some (vI k)] [] M := by
    intro j
    induction j with
    | zero =>
      intro k n h1 h2 h3 h4 hq
      (first | refine BX10_bits_0 ?_ | refine BX10_bits_4 ?_ | refine BX10_bits_24 ?_)
      dsimp only [bX10_bits_0, bX10_bits_4, bX10_bits_24, o_add, o_and, o_cge, o_ic, o_ild, o_inc, o_iret, o_ist, o_shr, tk, lget, lput, lkill, lmask, ol]
      try simp only [up, upL, rp, sf, cpy, Nat.reduceEqDiff, reduceIte, Int.reduceNeg, Int.reduceLE, Int.reduceLT, Int.reduceEq, Int.reduceAdd, Int.reduceSub, Int.reduceMul, ne_eq, not_true_eq_false, not_false_eq_true, true_and, and_true, and_self, false_implies, true_implies, implies_true, forall_const, Nat.reduceAdd, Int.add_zero, Int.zero_add, true_or, or_true, false_or, or_false, List.length_nil, List.length_cons]
      refine ⟨by omega, fun h => ?_, fun h => absurd h (by omega)⟩
      (first | refine BX10_bits_0 ?_ | refine BX10_bits_4 ?_ | refine BX10_bits_24 ?_)
      dsimp only [bX10_bits_0, bX10_bits_4, bX10_bits_24, o_add, o_and, o_cge, o_ic, o_ild, o_inc, o_iret, o_ist, o_shr, tk, lget, lput, lkill, lmask, ol]
      try simp only [up, upL, rp, sf, cpy, Nat.reduceEqDiff, reduceIte, Int.reduceNeg, Int.reduceLE, Int.reduceLT, Int.reduceEq, Int.reduceAdd, Int.reduceSub, Int.reduceMul, ne_eq, not_true_eq_false, not_false_eq_true, true_and, and_true, and_self, false_implies, true_implies, implies_true, forall_const, Nat.reduceAdd, Int.add_zero, Int.zero_add, true_or, or_true, false_or, or_false, List.length_nil, List.length_cons]
      simpa [bsum] using hq
    | succ j ih =>
      intro k n h1 h2 h3 h4 hq
      (first | refine BX10_bits_0 ?_ | refine BX10_bits_4 ?_ | refine BX10_bits_24 ?_)
      dsimp only [bX10_bits_0, bX10_bits_4, bX10_bits_24, o_add, o_and, o_cge, o_ic, o_ild, o_inc, o_iret, o_ist, o_shr, tk, lget, lput, lkill, lmask, ol]
      try simp only [up, upL, rp, sf, cpy, Nat.reduceEqDiff, reduceIte, Int.reduceNeg, Int.reduceLE, Int.reduceLT, Int.reduceEq, Int.reduceAdd, Int.reduceSub, Int.reduceMul, ne_eq, not_true_eq_false, not_false_eq_true, true_and, and_true, and_self, false_implies, true_implies, implies_true, forall_const, Nat.reduceAdd, Int.add_zero, Int.zero_add, true_or, or_true, false_or, or_false, List.length_nil, List.length_cons]
      refine ⟨by omega, fun h => absurd h (by omega), fun h => ?_⟩
      have h5 := iand_1 (ishr s k)
      refine ih (k + 1) (n + iand (ishr s k) 1) (by omega) (by omega) (by omega) (by omega) ?_
      rw [Int.add_assoc]
      exact hq
  refine EX10_bits rfl ?_
  (first | refine BX10_bits_0 ?_ | refine BX10_bits_4 ?_ | refine BX10_bits_24 ?_)
  dsimp only [bX10_bits_0, bX10_bits_4, bX10_bits_24, o_add, o_and, o_cge, o_ic, o_ild, o_inc, o_iret, o_ist, o_shr, tk, lget, lput, lkill, lmask, ol, lent]
  try simp only [up, upL, rp, sf, cpy, Nat.reduceEqDiff, reduceIte, Int.reduceNeg, Int.reduceLE, Int.reduceLT, Int.reduceEq, Int.reduceAdd, Int.reduceSub, Int.reduceMul, ne_eq, not_true_eq_false, not_false_eq_true, true_and, and_true, and_self, false_implies, true_implies, implies_true, forall_const, Nat.reduceAdd, Int.add_zero, Int.zero_add, true_or, or_true, false_or, or_false, List.length_nil, List.length_cons]
  exact L 30 0 0 (by omega) (by omega) (by omega) (by omega) (by simpa using hq)
