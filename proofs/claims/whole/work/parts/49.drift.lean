/-! pair: drift -/
def nxs (s : Int) : Int := (s * 1103515245 + 12345) % 2147483648
theorem nxs_bd (s : Int) : 0 ≤ nxs s ∧ nxs s ≤ 2147483647 := by unfold nxs; omega
theorem iand_31 (x : Int) : iand x 2147483647 = x % 2147483648 := by
  unfold iand
  have h : (i32 2147483647).toBitVec.toNat = 2 ^ 31 - 1 := by decide +kernel
  rw [pk_and (i32 x) 31 h, nI_toInt (Nat.mod_lt _ (by decide))]
  have e : (i32 x).toBitVec.toNat = (x % 2 ^ 32).toNat := by
    show (BitVec.ofInt 32 x).toNat = _
    rw [BitVec.toNat_ofInt]
    rfl
  rw [e]
  omega
theorem up_up {f : Nat → Int → Int} {k : Nat} {i v w : Int} : up (up f k i v) k i w = up f k i w := by
  rw [up_to, up_to, up_to, rp_rp, rp_k, sf_sf]
theorem c_draw {l : Launch} {X : Cx} {Q : Qt} {M : Me} {n : Int} (hs : 0 ≤ M.1 0 11 ∧ M.1 0 11 ≤ 2147483647) (hn : 0 < n ∧ n ≤ 100) (hq : Q (some (vI (nxs (M.1 0 11) / 65536 % n))) (up M.1 0 11 (nxs (M.1 0 11)), M.2)) : TM l X shM 0 mX10_draw [vR 0, vI n] M Q := by
  have hb := nxs_bd (M.1 0 11)
  have e1 : (M.1 0 11 * 1103515245 + 12345).tmod 2147483648 = nxs (M.1 0 11) := by rw [Int.tmod_eq_emod_of_nonneg (by omega)]; rfl
  have e2 : (nxs (M.1 0 11)).tdiv 65536 = nxs (M.1 0 11) / 65536 := Int.tdiv_eq_ediv_of_nonneg hb.1
  have e3 : (nxs (M.1 0 11) / 65536).tmod n = nxs (M.1 0 11) / 65536 % n := Int.tmod_eq_emod_of_nonneg (by omega)
  refine EX10_draw rfl ?_
  (first | refine BX10_draw_0 ?_)
  dsimp only [bX10_draw_0, o_ald, o_div, o_gf, o_i2l, o_ic, o_ild, o_iret, o_l2i, o_ladd, o_lc, o_lmul, o_lrem, o_pf, o_rem, tk, lget, lput, lkill, lmask, ol, lent, flM_0_0, flM_0_1, flM_0_2, flM_0_3, flM_0_4, flM_0_5, flM_0_6, flM_0_7, flM_0_8, flM_0_9, flM_0_10, flM_0_11, flM_0_12, flM_0_13, flM_0_14, flM_0_15, flM_0_16, flM_0_17, flM_0_18, flM_0_19, flM_0_20, flM_0_21, flM_0_22, flM_0_23, flM_0_24, flM_0_25, flM_0_26, flM_0_27, flM_0_28, flM_0_29, flM_0_30, flM_0_31, flM_0_32, flM_0_33, flM_0_34, flM_0_35, flM_0_36, flM_0_37, flM_0_38, flM_0_39, flM_0_40, flM_0_41, arM_1, arM_2, arM_3, arM_4, arM_5, arM_6, arM_7, arM_8, arM_9, arM_10, arM_11, arM_12, arM_13, arM_14, arM_15, arM_16, arM_17, arM_18, arM_19, arM_20, arM_21, arM_22, arM_23, arM_24, arM_25]
  try simp only [up, upL, rp, sf, cpy, Nat.reduceEqDiff, reduceIte, Int.reduceNeg, Int.reduceLE, Int.reduceLT, Int.reduceEq, Int.reduceAdd, Int.reduceSub, Int.reduceMul, ne_eq, not_true_eq_false, not_false_eq_true, true_and, and_true, and_self, false_implies, true_implies, implies_true, forall_const, Nat.reduceAdd, Int.add_zero, Int.zero_add, true_or, or_true, false_or, or_false, List.length_nil, List.length_cons]
  rw [e1, e2, e3]
  exact ⟨by omega, by omega, by omega, by omega, by omega, by omega, hq⟩
theorem k_drawOf {l : Launch} {X : Cx} {Q : Qt} {M : Me} {n : Int} (hs : 0 ≤ M.1 0 10 ∧ M.1 0 10 ≤ 2147483647) (hn : 0 < n ∧ n ≤ 100) (hq : Q (some (vI (nxs (M.1 0 10) / 65536 % n))) (up M.1 0 10 (nxs (M.1 0 10)), M.2)) : TM l X shC 0 mX9_drawOf [vR 0, vI n] M Q := by
  have hb := nxs_bd (M.1 0 10)
  have e1 : iand (M.1 0 10 * 1103515245 + 12345) 2147483647 = nxs (M.1 0 10) := iand_31 _
  have e2 : (nxs (M.1 0 10)).tdiv 65536 = nxs (M.1 0 10) / 65536 := Int.tdiv_eq_ediv_of_nonneg hb.1
  have e3 : (nxs (M.1 0 10) / 65536).tmod n = nxs (M.1 0 10) / 65536 % n := Int.tmod_eq_emod_of_nonneg (by omega)
  refine EX9_drawOf rfl ?_
  (first | refine BX9_drawOf_0 ?_ | refine BX9_drawOf_37 ?_ | refine BX9_drawOf_38 ?_)
  dsimp only [bX9_drawOf_0, bX9_drawOf_37, bX9_drawOf_38, o_add, o_ald, o_and, o_div, o_gf, o_ic, o_ild, o_iret, o_mul, o_pf, o_rem, o_zle, tk, lget, lput, lkill, lmask, ol, lent, flC_0_0, flC_0_1, flC_0_2, flC_0_3, flC_0_4, flC_0_5, flC_0_6, flC_0_7, flC_0_8, flC_0_9, flC_0_10, flC_1_0, flC_1_1, flC_1_2, flC_1_3, flC_1_4, flC_1_5, flC_1_6, flC_1_7, flC_2_0, flC_2_1, flC_2_2, flC_2_3, flC_2_4, flC_2_5, flC_2_6, flC_2_7, flC_2_8, arC_3, arC_4, arC_5, arC_6, arC_7, arC_8, arC_9, flC_10_0, flC_10_1, flC_10_2, flC_10_3, flC_10_4, flC_10_5, flC_10_6, flC_10_7, flC_10_8, arC_11, arC_12, arC_13, arC_14, arC_15, arC_16, flC_17_0, arC_18, flC_19_0, flC_19_1, flC_19_2, arC_20, flC_21_0, flC_21_1, flC_21_2, arC_22, arC_23, flC_24_0, flC_24_1, flC_24_2, arC_25, flC_26_0, flC_26_1, flC_26_2, arC_27, arC_28, flC_29_0, arC_30, flC_31_0, flC_31_1, arC_32, arC_33, arC_34]
  try simp only [up, upL, rp, sf, cpy, Nat.reduceEqDiff, reduceIte, Int.reduceNeg, Int.reduceLE, Int.reduceLT, Int.reduceEq, Int.reduceAdd, Int.reduceSub, Int.reduceMul, ne_eq, not_true_eq_false, not_false_eq_true, true_and, and_true, and_self, false_implies, true_implies, implies_true, forall_const, Nat.reduceAdd, Int.add_zero, Int.zero_add, true_or, or_true, false_or, or_false, List.length_nil, List.length_cons]
  rw [e1, e2, e3]
  refine ⟨by omega, fun h => absurd h (by omega), fun h => ⟨by omega, by omega, by omega, by omega, ?_⟩⟩
  (first | refine BX9_drawOf_0 ?_ | refine BX9_drawOf_37 ?_ | refine BX9_drawOf_38 ?_)
  dsimp only [bX9_drawOf_0, bX9_drawOf_37, bX9_drawOf_38, o_add, o_ald, o_and, o_div, o_gf, o_ic, o_ild, o_iret, o_mul, o_pf, o_rem, o_zle, tk, lget, lput, lkill, lmask, ol, flC_0_0, flC_0_1, flC_0_2, flC_0_3, flC_0_4, flC_0_5, flC_0_6, flC_0_7, flC_0_8, flC_0_9, flC_0_10, flC_1_0, flC_1_1, flC_1_2, flC_1_3, flC_1_4, flC_1_5, flC_1_6, flC_1_7, flC_2_0, flC_2_1, flC_2_2, flC_2_3, flC_2_4, flC_2_5, flC_2_6, flC_2_7, flC_2_8, arC_3, arC_4, arC_5, arC_6, arC_7, arC_8, arC_9, flC_10_0, flC_10_1, flC_10_2, flC_10_3, flC_10_4, flC_10_5, flC_10_6, flC_10_7, flC_10_8, arC_11, arC_12, arC_13, arC_14, arC_15, arC_16, flC_17_0, arC_18, flC_19_0, flC_19_1, flC_19_2, arC_20, flC_21_0, flC_21_1, flC_21_2, arC_22, arC_23, flC_24_0, flC_24_1, flC_24_2, arC_25, flC_26_0, flC_26_1, flC_26_2, arC_27, arC_28, flC_29_0, arC_30, flC_31_0, flC_31_1, arC_32, arC_33, arC_34]
  try simp only [up, upL, rp, sf, cpy, Nat.reduceEqDiff, reduceIte, Int.reduceNeg, Int.reduceLE, Int.reduceLT, Int.reduceEq, Int.reduceAdd, Int.reduceSub, Int.reduceMul, ne_eq, not_true_eq_false, not_false_eq_true, true_and, and_true, and_self, false_implies, true_implies, implies_true, forall_const, Nat.reduceAdd, Int.add_zero, Int.zero_add, true_or, or_true, false_or, or_false, List.length_nil, List.length_cons]
  exact hq
