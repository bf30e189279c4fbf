/-! the class: a box is turned, a bar goes by -/
theorem k_turnBox {l : Launch} {X : Cx} {Q : Qt} {M : Me} {f : Nat → Int → Int} {b : Int} (hS : SimE M.1 f) (hE : OkE f) (hN : SimN f (M.1 18) (f 7)) (hO : OkR f (f 7)) (h0 : 0 ≤ b) (h1 : b < f 0 1) (q1 : turnR f b = true → ∀ c, SimN f c (turnM f b) → Q (some (vI 1)) (rp M.1 18 c, M.2)) (q0 : turnR f b = false → ∀ c, SimN f c (turnM f b) → Q (some (vI 0)) (rp M.1 18 c, M.2)) : TM l X shC 3 mX7_turnBox [vR 17, vR 10, vI b] M Q := by
  have hB := hE.2.1
  have hg := hO.1 b h0 h1
  have hs := hN.1 b h0 h1
  have ht := hE.2.2.2.2.2.1 b h0 h1
  have es := hS.2.2.2.1 b h0 h1
  have hm := mod_next hg.1.1 hg.1.2
  have e7 : adv f b 7 = sf (f 7) b ((f 7 b + 1).tmod (f 1 b)) := rp_k
  have e8 : adv f b 7 b = (f 7 b + 1).tmod (f 1 b) := by rw [e7]; simp [sf]
  have e9 : adv f b 2 b = f 2 b := rfl
  have nx : ∀ v, v = (f 7 b + 1).tmod (f 1 b) → Tf l X shC 3 mX7_turnBox Q 23 [some (vR 17), some (vR 10), some (vI b), some (vI v), none] [] M := by
    intro v hv
    have hr := adv_v hE hO h0 h1
    have T2 := k_turn2 (l := l) (X := X) (Q := Q) (M := (rp M.1 18 (sf (M.1 18) b v), M.2)) (f := adv f b) (b := b) (SimE7 (SimE18 hS)) (OkE7 hE) (by
        dsimp only
        rw [rp_k, e7, ← hv]
        exact SimN_at hE hN h0 h1) (by rw [e7]; exact OkR_adv hE hO h0 h1) h0 h1 (fun h c hc => by
        dsimp only
        rw [rp_rp]
        exact q1 h c hc) (fun h c hc => by
        dsimp only
        rw [rp_rp]
        exact q0 h c hc)
    rw [e8, e9, ← hv] at T2
    (first | refine BX7_turnBox_0 ?_ | refine BX7_turnBox_23 ?_ | refine BX7_turnBox_47 ?_ | refine BX7_turnBox_50 ?_ | refine BX7_turnBox_76 ?_ | refine BX7_turnBox_82 ?_ | refine BX7_turnBox_96 ?_ | refine BX7_turnBox_107 ?_ | refine BX7_turnBox_110 ?_ | refine BX7_turnBox_133 ?_ | refine BX7_turnBox_159 ?_ | refine BX7_turnBox_169 ?_ | refine BX7_turnBox_171 ?_)
    dsimp only [bX7_turnBox_0, bX7_turnBox_23, bX7_turnBox_47, bX7_turnBox_50, bX7_turnBox_76, bX7_turnBox_82, bX7_turnBox_96, bX7_turnBox_107, bX7_turnBox_110, bX7_turnBox_133, bX7_turnBox_159, bX7_turnBox_169, bX7_turnBox_171, o_add, o_ald, o_clt, o_cne, o_dup2, o_gf, o_ial, o_ias, o_ic, o_ild, o_ist, o_max, o_min, o_mul, o_or, o_shl, o_sub, o_v1, o_v2, o_v3, o_zeq, o_zret, tk, lget, lput, lkill, lmask, ol, flC_0_0, flC_0_1, flC_0_2, flC_0_3, flC_0_4, flC_0_5, flC_0_6, flC_0_7, flC_0_8, flC_0_9, flC_0_10, flC_1_0, flC_1_1, flC_1_2, flC_1_3, flC_1_4, flC_1_5, flC_1_6, flC_1_7, flC_2_0, flC_2_1, flC_2_2, flC_2_3, flC_2_4, flC_2_5, flC_2_6, flC_2_7, flC_2_8, arC_3, arC_4, arC_5, arC_6, arC_7, arC_8, arC_9, flC_10_0, flC_10_1, flC_10_2, flC_10_3, flC_10_4, flC_10_5, flC_10_6, flC_10_7, flC_10_8, arC_11, arC_12, arC_13, arC_14, arC_15, arC_16, flC_17_0, arC_18, flC_19_0, flC_19_1, flC_19_2, arC_20, flC_21_0, flC_21_1, flC_21_2, arC_22, arC_23, flC_24_0, flC_24_1, flC_24_2, arC_25, flC_26_0, flC_26_1, flC_26_2, arC_27, arC_28, flC_29_0, arC_30, flC_31_0, flC_31_1, arC_32, arC_33, arC_34]
    try simp only [up, upL, rp, sf, cpy, Nat.reduceEqDiff, reduceIte, Int.reduceNeg, Int.reduceLE, Int.reduceLT, Int.reduceEq, Int.reduceAdd, Int.reduceSub, Int.reduceMul, ne_eq, not_true_eq_false, not_false_eq_true, true_and, and_true, and_self, false_implies, true_implies, implies_true, forall_const, Nat.reduceAdd, Int.add_zero, Int.zero_add, true_or, or_true, false_or, or_false, List.length_nil, List.length_cons]
    rw [es.2.1, up_to]
    exact ⟨by omega, by omega, by omega, by omega, T2.1, fun h => ⟨rfl, T2.2 h⟩⟩
  refine EX7_turnBox rfl ?_
  (first | refine BX7_turnBox_0 ?_ | refine BX7_turnBox_23 ?_ | refine BX7_turnBox_47 ?_ | refine BX7_turnBox_50 ?_ | refine BX7_turnBox_76 ?_ | refine BX7_turnBox_82 ?_ | refine BX7_turnBox_96 ?_ | refine BX7_turnBox_107 ?_ | refine BX7_turnBox_110 ?_ | refine BX7_turnBox_133 ?_ | refine BX7_turnBox_159 ?_ | refine BX7_turnBox_169 ?_ | refine BX7_turnBox_171 ?_)
  dsimp only [bX7_turnBox_0, bX7_turnBox_23, bX7_turnBox_47, bX7_turnBox_50, bX7_turnBox_76, bX7_turnBox_82, bX7_turnBox_96, bX7_turnBox_107, bX7_turnBox_110, bX7_turnBox_133, bX7_turnBox_159, bX7_turnBox_169, bX7_turnBox_171, o_add, o_ald, o_clt, o_cne, o_dup2, o_gf, o_ial, o_ias, o_ic, o_ild, o_ist, o_max, o_min, o_mul, o_or, o_shl, o_sub, o_v1, o_v2, o_v3, o_zeq, o_zret, tk, lget, lput, lkill, lmask, ol, lent, flC_0_0, flC_0_1, flC_0_2, flC_0_3, flC_0_4, flC_0_5, flC_0_6, flC_0_7, flC_0_8, flC_0_9, flC_0_10, flC_1_0, flC_1_1, flC_1_2, flC_1_3, flC_1_4, flC_1_5, flC_1_6, flC_1_7, flC_2_0, flC_2_1, flC_2_2, flC_2_3, flC_2_4, flC_2_5, flC_2_6, flC_2_7, flC_2_8, arC_3, arC_4, arC_5, arC_6, arC_7, arC_8, arC_9, flC_10_0, flC_10_1, flC_10_2, flC_10_3, flC_10_4, flC_10_5, flC_10_6, flC_10_7, flC_10_8, arC_11, arC_12, arC_13, arC_14, arC_15, arC_16, flC_17_0, arC_18, flC_19_0, flC_19_1, flC_19_2, arC_20, flC_21_0, flC_21_1, flC_21_2, arC_22, arC_23, flC_24_0, flC_24_1, flC_24_2, arC_25, flC_26_0, flC_26_1, flC_26_2, arC_27, arC_28, flC_29_0, arC_30, flC_31_0, flC_31_1, arC_32, arC_33, arC_34]
  try simp only [up, upL, rp, sf, cpy, Nat.reduceEqDiff, reduceIte, Int.reduceNeg, Int.reduceLE, Int.reduceLT, Int.reduceEq, Int.reduceAdd, Int.reduceSub, Int.reduceMul, ne_eq, not_true_eq_false, not_false_eq_true, true_and, and_true, and_self, false_implies, true_implies, implies_true, forall_const, Nat.reduceAdd, Int.add_zero, Int.zero_add, true_or, or_true, false_or, or_false, List.length_nil, List.length_cons]
  rw [hs.1, es.1]
  refine ⟨by omega, by omega, by omega, by omega, fun h => ?_, fun h => ?_⟩
  · exact nx _ (by rw [hm, if_neg (by omega)])
  · exact nx 0 (by rw [hm, if_pos (by omega)])
def rsA : Nat → Int → (Int → Int) → Int → Int
  | 0, _, g => g
  | j + 1, b, g => rsA j (b + 1) (sf g (16 + b) (g (16 + b) + if g (16 + b) < 20 then 1 else 0))
theorem rsl_eq {each : Int} : ∀ (j : Nat) (b : Int) (g : Int → Int), 0 ≤ b → b + j ≤ 7 → rsl each j b g = if (g 29).tmod each = 0 then rsA j b g else g
  | 0, _, g, _, _ => by unfold rsl rsA; split <;> rfl
  | j + 1, b, g, h0, h1 => by
    have e : (sf g (16 + b) (g (16 + b) + if g (16 + b) < 20 then 1 else 0)) 29 = g 29 := by unfold sf; rw [if_neg (by omega)]
    have := rsl_eq (each := each) j (b + 1) (sf g (16 + b) (g (16 + b) + if g (16 + b) < 20 then 1 else 0)) (by omega) (by omega)
    unfold rsl rsA
    rw [this, e]
    split <;> rfl
theorem k_rustAll {l : Launch} {X : Cx} {Q : Qt} {M : Me} {f : Nat → Int → Int} {g : Int → Int} (hS : SimE M.1 f) (hE : OkE f) (hN : SimN f (M.1 18) g) (hO : OkR f g) (hq : ∀ c, SimN f c (rsA (f 0 1).toNat 0 g) → Q none (rp M.1 18 c, M.2)) : TM l X shC 1 mX7_rustAll [vR 17, vR 10] M Q := by
  have hB := hE.2.1
  have eb := hS.2.1
  obtain ⟨C, u⟩ := M
  dsimp only at hS hN hq eb
  have L : ∀ (j : Nat) (b : Int) (c g : Int → Int), b + j = f 0 1 → 0 ≤ b → SimN f c g → OkR f g → (∀ c, SimN f c (rsA j b g) → Q none (rp C 18 c, u)) → Tf l X shC 1 mX7_rustAll Q 2 [some (vR 17), some (vR 10), some (vI b)] [] (rp C 18 c, u) := by
    intro j
    induction j with
    | zero =>
      intro b c g h1 h2 h3 h4 hq
      (first | refine BX7_rustAll_0 ?_ | refine BX7_rustAll_2 ?_ | refine BX7_rustAll_41 ?_)
      dsimp only [bX7_rustAll_0, bX7_rustAll_2, bX7_rustAll_41, o_add, o_ald, o_cge, o_gf, o_ial, o_ias, o_ic, o_ild, o_inc, o_ist, o_min, o_vret, tk, lget, lput, lkill, lmask, ol, flC_0_0, flC_0_1, flC_0_2, flC_0_3, flC_0_4, flC_0_5, flC_0_6, flC_0_7, flC_0_8, flC_0_9, flC_0_10, flC_1_0, flC_1_1, flC_1_2, flC_1_3, flC_1_4, flC_1_5, flC_1_6, flC_1_7, flC_2_0, flC_2_1, flC_2_2, flC_2_3, flC_2_4, flC_2_5, flC_2_6, flC_2_7, flC_2_8, arC_3, arC_4, arC_5, arC_6, arC_7, arC_8, arC_9, flC_10_0, flC_10_1, flC_10_2, flC_10_3, flC_10_4, flC_10_5, flC_10_6, flC_10_7, flC_10_8, arC_11, arC_12, arC_13, arC_14, arC_15, arC_16, flC_17_0, arC_18, flC_19_0, flC_19_1, flC_19_2, arC_20, flC_21_0, flC_21_1, flC_21_2, arC_22, arC_23, flC_24_0, flC_24_1, flC_24_2, arC_25, flC_26_0, flC_26_1, flC_26_2, arC_27, arC_28, flC_29_0, arC_30, flC_31_0, flC_31_1, arC_32, arC_33, arC_34]
      try simp only [up, upL, rp, sf, cpy, Nat.reduceEqDiff, reduceIte, Int.reduceNeg, Int.reduceLE, Int.reduceLT, Int.reduceEq, Int.reduceAdd, Int.reduceSub, Int.reduceMul, ne_eq, not_true_eq_false, not_false_eq_true, true_and, and_true, and_self, false_implies, true_implies, implies_true, forall_const, Nat.reduceAdd, Int.add_zero, Int.zero_add, true_or, or_true, false_or, or_false, List.length_nil, List.length_cons]
      rw [eb]
      refine ⟨by omega, by omega, fun h => ?_, fun h => absurd h (by omega)⟩
      (first | refine BX7_rustAll_0 ?_ | refine BX7_rustAll_2 ?_ | refine BX7_rustAll_41 ?_)
      dsimp only [bX7_rustAll_0, bX7_rustAll_2, bX7_rustAll_41, o_add, o_ald, o_cge, o_gf, o_ial, o_ias, o_ic, o_ild, o_inc, o_ist, o_min, o_vret, tk, lget, lput, lkill, lmask, ol, flC_0_0, flC_0_1, flC_0_2, flC_0_3, flC_0_4, flC_0_5, flC_0_6, flC_0_7, flC_0_8, flC_0_9, flC_0_10, flC_1_0, flC_1_1, flC_1_2, flC_1_3, flC_1_4, flC_1_5, flC_1_6, flC_1_7, flC_2_0, flC_2_1, flC_2_2, flC_2_3, flC_2_4, flC_2_5, flC_2_6, flC_2_7, flC_2_8, arC_3, arC_4, arC_5, arC_6, arC_7, arC_8, arC_9, flC_10_0, flC_10_1, flC_10_2, flC_10_3, flC_10_4, flC_10_5, flC_10_6, flC_10_7, flC_10_8, arC_11, arC_12, arC_13, arC_14, arC_15, arC_16, flC_17_0, arC_18, flC_19_0, flC_19_1, flC_19_2, arC_20, flC_21_0, flC_21_1, flC_21_2, arC_22, arC_23, flC_24_0, flC_24_1, flC_24_2, arC_25, flC_26_0, flC_26_1, flC_26_2, arC_27, arC_28, flC_29_0, arC_30, flC_31_0, flC_31_1, arC_32, arC_33, arC_34]
      try simp only [up, upL, rp, sf, cpy, Nat.reduceEqDiff, reduceIte, Int.reduceNeg, Int.reduceLE, Int.reduceLT, Int.reduceEq, Int.reduceAdd, Int.reduceSub, Int.reduceMul, ne_eq, not_true_eq_false, not_false_eq_true, true_and, and_true, and_self, false_implies, true_implies, implies_true, forall_const, Nat.reduceAdd, Int.add_zero, Int.zero_add, true_or, or_true, false_or, or_false, List.length_nil, List.length_cons]
      exact hq c h3
    | succ j ih =>
      intro b c g h1 h2 h3 h4 hq
      have hg := (h4.1 b h2 (by omega)).2.2
      have hc := (h3.1 b h2 (by omega)).2.2
      (first | refine BX7_rustAll_0 ?_ | refine BX7_rustAll_2 ?_ | refine BX7_rustAll_41 ?_)
      dsimp only [bX7_rustAll_0, bX7_rustAll_2, bX7_rustAll_41, o_add, o_ald, o_cge, o_gf, o_ial, o_ias, o_ic, o_ild, o_inc, o_ist, o_min, o_vret, tk, lget, lput, lkill, lmask, ol, flC_0_0, flC_0_1, flC_0_2, flC_0_3, flC_0_4, flC_0_5, flC_0_6, flC_0_7, flC_0_8, flC_0_9, flC_0_10, flC_1_0, flC_1_1, flC_1_2, flC_1_3, flC_1_4, flC_1_5, flC_1_6, flC_1_7, flC_2_0, flC_2_1, flC_2_2, flC_2_3, flC_2_4, flC_2_5, flC_2_6, flC_2_7, flC_2_8, arC_3, arC_4, arC_5, arC_6, arC_7, arC_8, arC_9, flC_10_0, flC_10_1, flC_10_2, flC_10_3, flC_10_4, flC_10_5, flC_10_6, flC_10_7, flC_10_8, arC_11, arC_12, arC_13, arC_14, arC_15, arC_16, flC_17_0, arC_18, flC_19_0, flC_19_1, flC_19_2, arC_20, flC_21_0, flC_21_1, flC_21_2, arC_22, arC_23, flC_24_0, flC_24_1, flC_24_2, arC_25, flC_26_0, flC_26_1, flC_26_2, arC_27, arC_28, flC_29_0, arC_30, flC_31_0, flC_31_1, arC_32, arC_33, arC_34]
      try simp only [up, upL, rp, sf, cpy, Nat.reduceEqDiff, reduceIte, Int.reduceNeg, Int.reduceLE, Int.reduceLT, Int.reduceEq, Int.reduceAdd, Int.reduceSub, Int.reduceMul, ne_eq, not_true_eq_false, not_false_eq_true, true_and, and_true, and_self, false_implies, true_implies, implies_true, forall_const, Nat.reduceAdd, Int.add_zero, Int.zero_add, true_or, or_true, false_or, or_false, List.length_nil, List.length_cons]
      rw [eb, hc]
      refine ⟨by omega, by omega, fun h => absurd h (by omega), fun h => ⟨by omega, by omega, rfl, by omega, ?_⟩⟩
      rw [up_to, rp_rp, rp_k, show (if 20 < g (16 + b) + 1 then (20 : Int) else g (16 + b) + 1) = g (16 + b) + (if g (16 + b) < 20 then 1 else 0) by split <;> split <;> omega]
      refine ih (b + 1) _ _ (by omega) (by omega) (SimN_ru hE h3 h2 (by omega)) (OkR_rust hE h4 h2 (by omega)) hq
  refine EX7_rustAll rfl ?_
  (first | refine BX7_rustAll_0 ?_ | refine BX7_rustAll_2 ?_ | refine BX7_rustAll_41 ?_)
  dsimp only [bX7_rustAll_0, bX7_rustAll_2, bX7_rustAll_41, o_add, o_ald, o_cge, o_gf, o_ial, o_ias, o_ic, o_ild, o_inc, o_ist, o_min, o_vret, tk, lget, lput, lkill, lmask, ol, lent, flC_0_0, flC_0_1, flC_0_2, flC_0_3, flC_0_4, flC_0_5, flC_0_6, flC_0_7, flC_0_8, flC_0_9, flC_0_10, flC_1_0, flC_1_1, flC_1_2, flC_1_3, flC_1_4, flC_1_5, flC_1_6, flC_1_7, flC_2_0, flC_2_1, flC_2_2, flC_2_3, flC_2_4, flC_2_5, flC_2_6, flC_2_7, flC_2_8, arC_3, arC_4, arC_5, arC_6, arC_7, arC_8, arC_9, flC_10_0, flC_10_1, flC_10_2, flC_10_3, flC_10_4, flC_10_5, flC_10_6, flC_10_7, flC_10_8, arC_11, arC_12, arC_13, arC_14, arC_15, arC_16, flC_17_0, arC_18, flC_19_0, flC_19_1, flC_19_2, arC_20, flC_21_0, flC_21_1, flC_21_2, arC_22, arC_23, flC_24_0, flC_24_1, flC_24_2, arC_25, flC_26_0, flC_26_1, flC_26_2, arC_27, arC_28, flC_29_0, arC_30, flC_31_0, flC_31_1, arC_32, arC_33, arC_34]
  try simp only [up, upL, rp, sf, cpy, Nat.reduceEqDiff, reduceIte, Int.reduceNeg, Int.reduceLE, Int.reduceLT, Int.reduceEq, Int.reduceAdd, Int.reduceSub, Int.reduceMul, ne_eq, not_true_eq_false, not_false_eq_true, true_and, and_true, and_self, false_implies, true_implies, implies_true, forall_const, Nat.reduceAdd, Int.add_zero, Int.zero_add, true_or, or_true, false_or, or_false, List.length_nil, List.length_cons]
  have := L (f 0 1).toNat 0 (C 18) g (by omega) (by omega) hN hO hq
  rwa [rp_self] at this
theorem k_passBar {l : Launch} {X : Cx} {Q : Qt} {M : Me} {f : Nat → Int → Int} (hS : SimE M.1 f) (hE : OkE f) (hN : SimN f (M.1 18) (f 7)) (hO : OkR f (f 7)) (hbar : 0 ≤ trs (f 0 1).toNat 0 f 7 29 ∧ trs (f 0 1).toNat 0 f 7 29 ≤ 1000000) (hq : ∀ c, SimN f c (passM f) → Q none (rp M.1 18 c, M.2)) : TM l X shC 4 mX7_passBar [vR 17, vR 10] M Q := by
  have hB := hE.2.1
  have eb := hS.2.1
  have er := hS.1
  obtain ⟨C, u⟩ := M
  dsimp only at hS hN hq eb er
  have L2 : ∀ (k : Int) (c g : Int → Int), 0 ≤ k → k ≤ 7 → SimN f c g → OkR f g → 0 ≤ g 29 ∧ g 29 ≤ 1000000 → (∀ c, SimN f c (rsl (f 0 0) (f 0 1).toNat 0 (barM (nodM g k))) → Q none (rp C 18 c, u)) → Tf l X shC 4 mX7_passBar Q 30 [some (vR 17), some (vR 10), some (vI k), none] [] (rp C 18 c, u) := by
    intro k c g k0 k1 hc hg h29 hq
    have hp := prod_bd k0 k1
    have h30 := hg.2.2.2.2.1
    have ho := OkR_bar hE (OkR_nod hE hg hp.2.1)
    have c30 := hc.2.2.2.2.2.1
    have c29 := hc.2.2.2.2.1
    have e29 : barM (nodM g k) 29 = g 29 + 1 := by simp [barM, nodM, sf]
    have sim : SimN f (sf (sf c 30 (if 999999 < g 30 + (k * (k - 1)).tdiv 2 then 999999 else g 30 + (k * (k - 1)).tdiv 2)) 29 (g 29 + 1)) (barM (nodM g k)) := by
      have := SimN_ba (v := g 29 + 1) hE (SimN_no (v := if g 30 + (k * (k - 1)).tdiv 2 < 999999 then g 30 + (k * (k - 1)).tdiv 2 else 999999) hE hc)
      unfold barM nodM
      rw [show (if 999999 < g 30 + (k * (k - 1)).tdiv 2 then 999999 else g 30 + (k * (k - 1)).tdiv 2) = (if g 30 + (k * (k - 1)).tdiv 2 < 999999 then g 30 + (k * (k - 1)).tdiv 2 else 999999) by split <;> split <;> omega]
      rw [show sf g 30 (if g 30 + (k * (k - 1)).tdiv 2 < 999999 then g 30 + (k * (k - 1)).tdiv 2 else 999999) 29 = g 29 from rfl]
      exact this
    rw [rsl_eq _ _ _ (by omega) (by omega), e29] at hq
    have fin : ((g 29 + 1).tmod (f 0 0) ≠ 0 ∨ f 0 1 = 0) → Tf l X shC 4 mX7_passBar Q 95 [none, none, none, none] [] (rp C 18 (sf (sf c 30 (if 999999 < g 30 + (k * (k - 1)).tdiv 2 then 999999 else g 30 + (k * (k - 1)).tdiv 2)) 29 (g 29 + 1)), u) := by
      intro h
      (first | refine BX7_passBar_0 ?_ | refine BX7_passBar_4 ?_ | refine BX7_passBar_18 ?_ | refine BX7_passBar_24 ?_ | refine BX7_passBar_30 ?_ | refine BX7_passBar_95 ?_)
      dsimp only [bX7_passBar_0, bX7_passBar_4, bX7_passBar_18, bX7_passBar_24, bX7_passBar_30, bX7_passBar_95, o_add, o_ald, o_cge, o_div, o_dup2, o_gf, o_ial, o_ias, o_ic, o_ild, o_inc, o_ist, o_min, o_mul, o_rem, o_sub, o_v1, o_v2, o_vret, o_zeq, o_zle, o_zne, tk, lget, lput, lkill, lmask, ol, flC_0_0, flC_0_1, flC_0_2, flC_0_3, flC_0_4, flC_0_5, flC_0_6, flC_0_7, flC_0_8, flC_0_9, flC_0_10, flC_1_0, flC_1_1, flC_1_2, flC_1_3, flC_1_4, flC_1_5, flC_1_6, flC_1_7, flC_2_0, flC_2_1, flC_2_2, flC_2_3, flC_2_4, flC_2_5, flC_2_6, flC_2_7, flC_2_8, arC_3, arC_4, arC_5, arC_6, arC_7, arC_8, arC_9, flC_10_0, flC_10_1, flC_10_2, flC_10_3, flC_10_4, flC_10_5, flC_10_6, flC_10_7, flC_10_8, arC_11, arC_12, arC_13, arC_14, arC_15, arC_16, flC_17_0, arC_18, flC_19_0, flC_19_1, flC_19_2, arC_20, flC_21_0, flC_21_1, flC_21_2, arC_22, arC_23, flC_24_0, flC_24_1, flC_24_2, arC_25, flC_26_0, flC_26_1, flC_26_2, arC_27, arC_28, flC_29_0, arC_30, flC_31_0, flC_31_1, arC_32, arC_33, arC_34]
      try simp only [up, upL, rp, sf, cpy, Nat.reduceEqDiff, reduceIte, Int.reduceNeg, Int.reduceLE, Int.reduceLT, Int.reduceEq, Int.reduceAdd, Int.reduceSub, Int.reduceMul, ne_eq, not_true_eq_false, not_false_eq_true, true_and, and_true, and_self, false_implies, true_implies, implies_true, forall_const, Nat.reduceAdd, Int.add_zero, Int.zero_add, true_or, or_true, false_or, or_false, List.length_nil, List.length_cons]
      refine hq _ ?_
      rcases h with h | h
      · rw [if_neg h]; exact sim
      · rw [h, show (if (g 29 + 1).tmod (f 0 0) = 0 then rsA (Int.toNat 0) 0 (barM (nodM g k)) else barM (nodM g k)) = barM (nodM g k) by split <;> rfl]
        exact sim
    (first | refine BX7_passBar_0 ?_ | refine BX7_passBar_4 ?_ | refine BX7_passBar_18 ?_ | refine BX7_passBar_24 ?_ | refine BX7_passBar_30 ?_ | refine BX7_passBar_95 ?_)
    dsimp only [bX7_passBar_0, bX7_passBar_4, bX7_passBar_18, bX7_passBar_24, bX7_passBar_30, bX7_passBar_95, o_add, o_ald, o_cge, o_div, o_dup2, o_gf, o_ial, o_ias, o_ic, o_ild, o_inc, o_ist, o_min, o_mul, o_rem, o_sub, o_v1, o_v2, o_vret, o_zeq, o_zle, o_zne, tk, lget, lput, lkill, lmask, ol, flC_0_0, flC_0_1, flC_0_2, flC_0_3, flC_0_4, flC_0_5, flC_0_6, flC_0_7, flC_0_8, flC_0_9, flC_0_10, flC_1_0, flC_1_1, flC_1_2, flC_1_3, flC_1_4, flC_1_5, flC_1_6, flC_1_7, flC_2_0, flC_2_1, flC_2_2, flC_2_3, flC_2_4, flC_2_5, flC_2_6, flC_2_7, flC_2_8, arC_3, arC_4, arC_5, arC_6, arC_7, arC_8, arC_9, flC_10_0, flC_10_1, flC_10_2, flC_10_3, flC_10_4, flC_10_5, flC_10_6, flC_10_7, flC_10_8, arC_11, arC_12, arC_13, arC_14, arC_15, arC_16, flC_17_0, arC_18, flC_19_0, flC_19_1, flC_19_2, arC_20, flC_21_0, flC_21_1, flC_21_2, arC_22, arC_23, flC_24_0, flC_24_1, flC_24_2, arC_25, flC_26_0, flC_26_1, flC_26_2, arC_27, arC_28, flC_29_0, arC_30, flC_31_0, flC_31_1, arC_32, arC_33, arC_34]
    try simp only [up, upL, rp, sf, cpy, Nat.reduceEqDiff, reduceIte, Int.reduceNeg, Int.reduceLE, Int.reduceLT, Int.reduceEq, Int.reduceAdd, Int.reduceSub, Int.reduceMul, ne_eq, not_true_eq_false, not_false_eq_true, true_and, and_true, and_self, false_implies, true_implies, implies_true, forall_const, Nat.reduceAdd, Int.add_zero, Int.zero_add, true_or, or_true, false_or, or_false, List.length_nil, List.length_cons]
    rw [er, c30, c29]
    have e3 : up (up (rp C 18 c) 18 30 (if 999999 < g 30 + (k * (k - 1)).tdiv 2 then 999999 else g 30 + (k * (k - 1)).tdiv 2)) 18 29 (g 29 + 1) = rp C 18 (sf (sf c 30 (if 999999 < g 30 + (k * (k - 1)).tdiv 2 then 999999 else g 30 + (k * (k - 1)).tdiv 2)) 29 (g 29 + 1)) := by
      rw [up_to, up_to, rp_rp, rp_rp, rp_k, rp_k]
    rw [e3]
    have hz := hE.1
    refine ⟨by omega, by omega, rfl, by omega, fun h => ?_, fun h => ?_⟩
    · refine fin (Or.inr ?_)
      have := hE.2.2.2.1
      omega
    · have hm := tmod_rng (a := g 29 + 1) (by omega) (by omega) h
      refine ⟨by omega, by omega, by omega, by omega, fun h5 => fin (Or.inl h5), fun h5 => ⟨rfl, k_rustAll (SimE18 hS) hE (by dsimp only; rw [rp_k]; exact sim) ho (fun c' hc' => ?_)⟩⟩
      dsimp only
      rw [rp_rp]
      (first | refine BX7_passBar_0 ?_ | refine BX7_passBar_4 ?_ | refine BX7_passBar_18 ?_ | refine BX7_passBar_24 ?_ | refine BX7_passBar_30 ?_ | refine BX7_passBar_95 ?_)
      dsimp only [bX7_passBar_0, bX7_passBar_4, bX7_passBar_18, bX7_passBar_24, bX7_passBar_30, bX7_passBar_95, o_add, o_ald, o_cge, o_div, o_dup2, o_gf, o_ial, o_ias, o_ic, o_ild, o_inc, o_ist, o_min, o_mul, o_rem, o_sub, o_v1, o_v2, o_vret, o_zeq, o_zle, o_zne, tk, lget, lput, lkill, lmask, ol, flC_0_0, flC_0_1, flC_0_2, flC_0_3, flC_0_4, flC_0_5, flC_0_6, flC_0_7, flC_0_8, flC_0_9, flC_0_10, flC_1_0, flC_1_1, flC_1_2, flC_1_3, flC_1_4, flC_1_5, flC_1_6, flC_1_7, flC_2_0, flC_2_1, flC_2_2, flC_2_3, flC_2_4, flC_2_5, flC_2_6, flC_2_7, flC_2_8, arC_3, arC_4, arC_5, arC_6, arC_7, arC_8, arC_9, flC_10_0, flC_10_1, flC_10_2, flC_10_3, flC_10_4, flC_10_5, flC_10_6, flC_10_7, flC_10_8, arC_11, arC_12, arC_13, arC_14, arC_15, arC_16, flC_17_0, arC_18, flC_19_0, flC_19_1, flC_19_2, arC_20, flC_21_0, flC_21_1, flC_21_2, arC_22, arC_23, flC_24_0, flC_24_1, flC_24_2, arC_25, flC_26_0, flC_26_1, flC_26_2, arC_27, arC_28, flC_29_0, arC_30, flC_31_0, flC_31_1, arC_32, arC_33, arC_34]
      try simp only [up, upL, rp, sf, cpy, Nat.reduceEqDiff, reduceIte, Int.reduceNeg, Int.reduceLE, Int.reduceLT, Int.reduceEq, Int.reduceAdd, Int.reduceSub, Int.reduceMul, ne_eq, not_true_eq_false, not_false_eq_true, true_and, and_true, and_self, false_implies, true_implies, implies_true, forall_const, Nat.reduceAdd, Int.add_zero, Int.zero_add, true_or, or_true, false_or, or_false, List.length_nil, List.length_cons]
      refine hq _ ?_
      rw [if_pos h5]
      exact hc'
  have L1 : ∀ (j : Nat) (b k : Int) (g : Nat → Int → Int) (c : Int → Int), b + j = f 0 1 → 0 ≤ b → 0 ≤ k → k ≤ b → OkE g → OkR g (g 7) → rp f 7 (g 7) = g → SimN f c (g 7) → 0 ≤ trs j b g 7 29 ∧ trs j b g 7 29 ≤ 1000000 → (∀ c, SimN f c (rsl (f 0 0) (f 0 1).toNat 0 (barM (nodM (trs j b g 7) (k + cms j b g)))) → Q none (rp C 18 c, u)) → Tf l X shC 4 mX7_passBar Q 4 [some (vR 17), some (vR 10), some (vI k), some (vI b)] [] (rp C 18 c, u) := by
    intro j
    induction j with
    | zero =>
      intro b k g c h1 h2 h3 h4 h5 h6 h7 hc h8 hq
      (first | refine BX7_passBar_0 ?_ | refine BX7_passBar_4 ?_ | refine BX7_passBar_18 ?_ | refine BX7_passBar_24 ?_ | refine BX7_passBar_30 ?_ | refine BX7_passBar_95 ?_)
      dsimp only [bX7_passBar_0, bX7_passBar_4, bX7_passBar_18, bX7_passBar_24, bX7_passBar_30, bX7_passBar_95, o_add, o_ald, o_cge, o_div, o_dup2, o_gf, o_ial, o_ias, o_ic, o_ild, o_inc, o_ist, o_min, o_mul, o_rem, o_sub, o_v1, o_v2, o_vret, o_zeq, o_zle, o_zne, tk, lget, lput, lkill, lmask, ol, flC_0_0, flC_0_1, flC_0_2, flC_0_3, flC_0_4, flC_0_5, flC_0_6, flC_0_7, flC_0_8, flC_0_9, flC_0_10, flC_1_0, flC_1_1, flC_1_2, flC_1_3, flC_1_4, flC_1_5, flC_1_6, flC_1_7, flC_2_0, flC_2_1, flC_2_2, flC_2_3, flC_2_4, flC_2_5, flC_2_6, flC_2_7, flC_2_8, arC_3, arC_4, arC_5, arC_6, arC_7, arC_8, arC_9, flC_10_0, flC_10_1, flC_10_2, flC_10_3, flC_10_4, flC_10_5, flC_10_6, flC_10_7, flC_10_8, arC_11, arC_12, arC_13, arC_14, arC_15, arC_16, flC_17_0, arC_18, flC_19_0, flC_19_1, flC_19_2, arC_20, flC_21_0, flC_21_1, flC_21_2, arC_22, arC_23, flC_24_0, flC_24_1, flC_24_2, arC_25, flC_26_0, flC_26_1, flC_26_2, arC_27, arC_28, flC_29_0, arC_30, flC_31_0, flC_31_1, arC_32, arC_33, arC_34]
      try simp only [up, upL, rp, sf, cpy, Nat.reduceEqDiff, reduceIte, Int.reduceNeg, Int.reduceLE, Int.reduceLT, Int.reduceEq, Int.reduceAdd, Int.reduceSub, Int.reduceMul, ne_eq, not_true_eq_false, not_false_eq_true, true_and, and_true, and_self, false_implies, true_implies, implies_true, forall_const, Nat.reduceAdd, Int.add_zero, Int.zero_add, true_or, or_true, false_or, or_false, List.length_nil, List.length_cons]
      rw [eb]
      refine ⟨by omega, by omega, fun h => ?_, fun h => absurd h (by omega)⟩
      have ho : OkR f (g 7) := by rw [← h7] at h6; rw [rp_k] at h6; exact h6
      exact L2 k c (g 7) h3 (by omega) hc ho h8 (by simpa [cms, trs] using hq)
    | succ j ih =>
      intro b k g c h1 h2 h3 h4 h5 h6 h7 hc h8 hq
      have eg : g 0 1 = f 0 1 := by rw [← h7]; rfl
      have e7 : rp f 7 (rp g 7 (turnM g b) 7) = rp g 7 (turnM g b) := by rw [rp_k, ← h7, rp_rp]
      have eS : SimE C g := by rw [← h7]; exact SimE7 hS
      have eN : ∀ c r, SimN f c r → SimN g c r := by intro c r h; rw [← h7]; exact h
      have eN2 : ∀ c r, SimN g c r → SimN f c r := by intro c r h; rw [← h7] at h; exact h
      have nx : ∀ (k' : Int) (c' : Int → Int), 0 ≤ k' → k' ≤ b + 1 → k' = k + (if turnR g b = true then 1 else 0) → SimN g c' (turnM g b) → Tf l X shC 4 mX7_passBar Q 4 [some (vR 17), some (vR 10), some (vI k'), some (vI (b + 1))] [] (rp C 18 c', u) := by
        intro k' c' z1 z2 z3 z4
        refine ih (b + 1) k' (trn g b) c' (by omega) (by omega) z1 z2 (OkE7 h5) ?_ e7 (by unfold trn; rw [rp_k]; exact eN2 _ _ z4) h8 ?_
        · unfold trn; rw [rp_k]; exact OkR_turn h5 h6 h2 (by omega)
        · rw [z3, Int.add_assoc]; exact hq
      (first | refine BX7_passBar_0 ?_ | refine BX7_passBar_4 ?_ | refine BX7_passBar_18 ?_ | refine BX7_passBar_24 ?_ | refine BX7_passBar_30 ?_ | refine BX7_passBar_95 ?_)
      dsimp only [bX7_passBar_0, bX7_passBar_4, bX7_passBar_18, bX7_passBar_24, bX7_passBar_30, bX7_passBar_95, o_add, o_ald, o_cge, o_div, o_dup2, o_gf, o_ial, o_ias, o_ic, o_ild, o_inc, o_ist, o_min, o_mul, o_rem, o_sub, o_v1, o_v2, o_vret, o_zeq, o_zle, o_zne, tk, lget, lput, lkill, lmask, ol, flC_0_0, flC_0_1, flC_0_2, flC_0_3, flC_0_4, flC_0_5, flC_0_6, flC_0_7, flC_0_8, flC_0_9, flC_0_10, flC_1_0, flC_1_1, flC_1_2, flC_1_3, flC_1_4, flC_1_5, flC_1_6, flC_1_7, flC_2_0, flC_2_1, flC_2_2, flC_2_3, flC_2_4, flC_2_5, flC_2_6, flC_2_7, flC_2_8, arC_3, arC_4, arC_5, arC_6, arC_7, arC_8, arC_9, flC_10_0, flC_10_1, flC_10_2, flC_10_3, flC_10_4, flC_10_5, flC_10_6, flC_10_7, flC_10_8, arC_11, arC_12, arC_13, arC_14, arC_15, arC_16, flC_17_0, arC_18, flC_19_0, flC_19_1, flC_19_2, arC_20, flC_21_0, flC_21_1, flC_21_2, arC_22, arC_23, flC_24_0, flC_24_1, flC_24_2, arC_25, flC_26_0, flC_26_1, flC_26_2, arC_27, arC_28, flC_29_0, arC_30, flC_31_0, flC_31_1, arC_32, arC_33, arC_34]
      try simp only [up, upL, rp, sf, cpy, Nat.reduceEqDiff, reduceIte, Int.reduceNeg, Int.reduceLE, Int.reduceLT, Int.reduceEq, Int.reduceAdd, Int.reduceSub, Int.reduceMul, ne_eq, not_true_eq_false, not_false_eq_true, true_and, and_true, and_self, false_implies, true_implies, implies_true, forall_const, Nat.reduceAdd, Int.add_zero, Int.zero_add, true_or, or_true, false_or, or_false, List.length_nil, List.length_cons]
      rw [eb]
      refine ⟨by omega, by omega, fun h => absurd h (by omega), fun h => ⟨rfl, k_turnBox (SimE18 eS) h5 (by dsimp only; rw [rp_k]; exact eN _ _ hc) h6 h2 (by omega) (fun h9 c' hc' => ?_) (fun h9 c' hc' => ?_)⟩⟩
      · dsimp only
        rw [rp_rp]
        (first | refine BX7_passBar_0 ?_ | refine BX7_passBar_4 ?_ | refine BX7_passBar_18 ?_ | refine BX7_passBar_24 ?_ | refine BX7_passBar_30 ?_ | refine BX7_passBar_95 ?_)
        dsimp only [bX7_passBar_0, bX7_passBar_4, bX7_passBar_18, bX7_passBar_24, bX7_passBar_30, bX7_passBar_95, o_add, o_ald, o_cge, o_div, o_dup2, o_gf, o_ial, o_ias, o_ic, o_ild, o_inc, o_ist, o_min, o_mul, o_rem, o_sub, o_v1, o_v2, o_vret, o_zeq, o_zle, o_zne, tk, lget, lput, lkill, lmask, ol, flC_0_0, flC_0_1, flC_0_2, flC_0_3, flC_0_4, flC_0_5, flC_0_6, flC_0_7, flC_0_8, flC_0_9, flC_0_10, flC_1_0, flC_1_1, flC_1_2, flC_1_3, flC_1_4, flC_1_5, flC_1_6, flC_1_7, flC_2_0, flC_2_1, flC_2_2, flC_2_3, flC_2_4, flC_2_5, flC_2_6, flC_2_7, flC_2_8, arC_3, arC_4, arC_5, arC_6, arC_7, arC_8, arC_9, flC_10_0, flC_10_1, flC_10_2, flC_10_3, flC_10_4, flC_10_5, flC_10_6, flC_10_7, flC_10_8, arC_11, arC_12, arC_13, arC_14, arC_15, arC_16, flC_17_0, arC_18, flC_19_0, flC_19_1, flC_19_2, arC_20, flC_21_0, flC_21_1, flC_21_2, arC_22, arC_23, flC_24_0, flC_24_1, flC_24_2, arC_25, flC_26_0, flC_26_1, flC_26_2, arC_27, arC_28, flC_29_0, arC_30, flC_31_0, flC_31_1, arC_32, arC_33, arC_34]
        try simp only [up, upL, rp, sf, cpy, Nat.reduceEqDiff, reduceIte, Int.reduceNeg, Int.reduceLE, Int.reduceLT, Int.reduceEq, Int.reduceAdd, Int.reduceSub, Int.reduceMul, ne_eq, not_true_eq_false, not_false_eq_true, true_and, and_true, and_self, false_implies, true_implies, implies_true, forall_const, Nat.reduceAdd, Int.add_zero, Int.zero_add, true_or, or_true, false_or, or_false, List.length_nil, List.length_cons]
        (first | refine BX7_passBar_0 ?_ | refine BX7_passBar_4 ?_ | refine BX7_passBar_18 ?_ | refine BX7_passBar_24 ?_ | refine BX7_passBar_30 ?_ | refine BX7_passBar_95 ?_)
        dsimp only [bX7_passBar_0, bX7_passBar_4, bX7_passBar_18, bX7_passBar_24, bX7_passBar_30, bX7_passBar_95, o_add, o_ald, o_cge, o_div, o_dup2, o_gf, o_ial, o_ias, o_ic, o_ild, o_inc, o_ist, o_min, o_mul, o_rem, o_sub, o_v1, o_v2, o_vret, o_zeq, o_zle, o_zne, tk, lget, lput, lkill, lmask, ol, flC_0_0, flC_0_1, flC_0_2, flC_0_3, flC_0_4, flC_0_5, flC_0_6, flC_0_7, flC_0_8, flC_0_9, flC_0_10, flC_1_0, flC_1_1, flC_1_2, flC_1_3, flC_1_4, flC_1_5, flC_1_6, flC_1_7, flC_2_0, flC_2_1, flC_2_2, flC_2_3, flC_2_4, flC_2_5, flC_2_6, flC_2_7, flC_2_8, arC_3, arC_4, arC_5, arC_6, arC_7, arC_8, arC_9, flC_10_0, flC_10_1, flC_10_2, flC_10_3, flC_10_4, flC_10_5, flC_10_6, flC_10_7, flC_10_8, arC_11, arC_12, arC_13, arC_14, arC_15, arC_16, flC_17_0, arC_18, flC_19_0, flC_19_1, flC_19_2, arC_20, flC_21_0, flC_21_1, flC_21_2, arC_22, arC_23, flC_24_0, flC_24_1, flC_24_2, arC_25, flC_26_0, flC_26_1, flC_26_2, arC_27, arC_28, flC_29_0, arC_30, flC_31_0, flC_31_1, arC_32, arC_33, arC_34]
        try simp only [up, upL, rp, sf, cpy, Nat.reduceEqDiff, reduceIte, Int.reduceNeg, Int.reduceLE, Int.reduceLT, Int.reduceEq, Int.reduceAdd, Int.reduceSub, Int.reduceMul, ne_eq, not_true_eq_false, not_false_eq_true, true_and, and_true, and_self, false_implies, true_implies, implies_true, forall_const, Nat.reduceAdd, Int.add_zero, Int.zero_add, true_or, or_true, false_or, or_false, List.length_nil, List.length_cons]
        exact nx (k + 1) c' (by omega) (by omega) (by rw [if_pos h9]) hc'
      · dsimp only
        rw [rp_rp]
        (first | refine BX7_passBar_0 ?_ | refine BX7_passBar_4 ?_ | refine BX7_passBar_18 ?_ | refine BX7_passBar_24 ?_ | refine BX7_passBar_30 ?_ | refine BX7_passBar_95 ?_)
        dsimp only [bX7_passBar_0, bX7_passBar_4, bX7_passBar_18, bX7_passBar_24, bX7_passBar_30, bX7_passBar_95, o_add, o_ald, o_cge, o_div, o_dup2, o_gf, o_ial, o_ias, o_ic, o_ild, o_inc, o_ist, o_min, o_mul, o_rem, o_sub, o_v1, o_v2, o_vret, o_zeq, o_zle, o_zne, tk, lget, lput, lkill, lmask, ol, flC_0_0, flC_0_1, flC_0_2, flC_0_3, flC_0_4, flC_0_5, flC_0_6, flC_0_7, flC_0_8, flC_0_9, flC_0_10, flC_1_0, flC_1_1, flC_1_2, flC_1_3, flC_1_4, flC_1_5, flC_1_6, flC_1_7, flC_2_0, flC_2_1, flC_2_2, flC_2_3, flC_2_4, flC_2_5, flC_2_6, flC_2_7, flC_2_8, arC_3, arC_4, arC_5, arC_6, arC_7, arC_8, arC_9, flC_10_0, flC_10_1, flC_10_2, flC_10_3, flC_10_4, flC_10_5, flC_10_6, flC_10_7, flC_10_8, arC_11, arC_12, arC_13, arC_14, arC_15, arC_16, flC_17_0, arC_18, flC_19_0, flC_19_1, flC_19_2, arC_20, flC_21_0, flC_21_1, flC_21_2, arC_22, arC_23, flC_24_0, flC_24_1, flC_24_2, arC_25, flC_26_0, flC_26_1, flC_26_2, arC_27, arC_28, flC_29_0, arC_30, flC_31_0, flC_31_1, arC_32, arC_33, arC_34]
        try simp only [up, upL, rp, sf, cpy, Nat.reduceEqDiff, reduceIte, Int.reduceNeg, Int.reduceLE, Int.reduceLT, Int.reduceEq, Int.reduceAdd, Int.reduceSub, Int.reduceMul, ne_eq, not_true_eq_false, not_false_eq_true, true_and, and_true, and_self, false_implies, true_implies, implies_true, forall_const, Nat.reduceAdd, Int.add_zero, Int.zero_add, true_or, or_true, false_or, or_false, List.length_nil, List.length_cons]
        (first | refine BX7_passBar_0 ?_ | refine BX7_passBar_4 ?_ | refine BX7_passBar_18 ?_ | refine BX7_passBar_24 ?_ | refine BX7_passBar_30 ?_ | refine BX7_passBar_95 ?_)
        dsimp only [bX7_passBar_0, bX7_passBar_4, bX7_passBar_18, bX7_passBar_24, bX7_passBar_30, bX7_passBar_95, o_add, o_ald, o_cge, o_div, o_dup2, o_gf, o_ial, o_ias, o_ic, o_ild, o_inc, o_ist, o_min, o_mul, o_rem, o_sub, o_v1, o_v2, o_vret, o_zeq, o_zle, o_zne, tk, lget, lput, lkill, lmask, ol, flC_0_0, flC_0_1, flC_0_2, flC_0_3, flC_0_4, flC_0_5, flC_0_6, flC_0_7, flC_0_8, flC_0_9, flC_0_10, flC_1_0, flC_1_1, flC_1_2, flC_1_3, flC_1_4, flC_1_5, flC_1_6, flC_1_7, flC_2_0, flC_2_1, flC_2_2, flC_2_3, flC_2_4, flC_2_5, flC_2_6, flC_2_7, flC_2_8, arC_3, arC_4, arC_5, arC_6, arC_7, arC_8, arC_9, flC_10_0, flC_10_1, flC_10_2, flC_10_3, flC_10_4, flC_10_5, flC_10_6, flC_10_7, flC_10_8, arC_11, arC_12, arC_13, arC_14, arC_15, arC_16, flC_17_0, arC_18, flC_19_0, flC_19_1, flC_19_2, arC_20, flC_21_0, flC_21_1, flC_21_2, arC_22, arC_23, flC_24_0, flC_24_1, flC_24_2, arC_25, flC_26_0, flC_26_1, flC_26_2, arC_27, arC_28, flC_29_0, arC_30, flC_31_0, flC_31_1, arC_32, arC_33, arC_34]
        try simp only [up, upL, rp, sf, cpy, Nat.reduceEqDiff, reduceIte, Int.reduceNeg, Int.reduceLE, Int.reduceLT, Int.reduceEq, Int.reduceAdd, Int.reduceSub, Int.reduceMul, ne_eq, not_true_eq_false, not_false_eq_true, true_and, and_true, and_self, false_implies, true_implies, implies_true, forall_const, Nat.reduceAdd, Int.add_zero, Int.zero_add, true_or, or_true, false_or, or_false, List.length_nil, List.length_cons]
        exact nx k c' (by omega) (by omega) (by rw [h9]; simp) hc'
  refine EX7_passBar rfl ?_
  (first | refine BX7_passBar_0 ?_ | refine BX7_passBar_4 ?_ | refine BX7_passBar_18 ?_ | refine BX7_passBar_24 ?_ | refine BX7_passBar_30 ?_ | refine BX7_passBar_95 ?_)
  dsimp only [bX7_passBar_0, bX7_passBar_4, bX7_passBar_18, bX7_passBar_24, bX7_passBar_30, bX7_passBar_95, o_add, o_ald, o_cge, o_div, o_dup2, o_gf, o_ial, o_ias, o_ic, o_ild, o_inc, o_ist, o_min, o_mul, o_rem, o_sub, o_v1, o_v2, o_vret, o_zeq, o_zle, o_zne, tk, lget, lput, lkill, lmask, ol, lent, flC_0_0, flC_0_1, flC_0_2, flC_0_3, flC_0_4, flC_0_5, flC_0_6, flC_0_7, flC_0_8, flC_0_9, flC_0_10, flC_1_0, flC_1_1, flC_1_2, flC_1_3, flC_1_4, flC_1_5, flC_1_6, flC_1_7, flC_2_0, flC_2_1, flC_2_2, flC_2_3, flC_2_4, flC_2_5, flC_2_6, flC_2_7, flC_2_8, arC_3, arC_4, arC_5, arC_6, arC_7, arC_8, arC_9, flC_10_0, flC_10_1, flC_10_2, flC_10_3, flC_10_4, flC_10_5, flC_10_6, flC_10_7, flC_10_8, arC_11, arC_12, arC_13, arC_14, arC_15, arC_16, flC_17_0, arC_18, flC_19_0, flC_19_1, flC_19_2, arC_20, flC_21_0, flC_21_1, flC_21_2, arC_22, arC_23, flC_24_0, flC_24_1, flC_24_2, arC_25, flC_26_0, flC_26_1, flC_26_2, arC_27, arC_28, flC_29_0, arC_30, flC_31_0, flC_31_1, arC_32, arC_33, arC_34]
  try simp only [up, upL, rp, sf, cpy, Nat.reduceEqDiff, reduceIte, Int.reduceNeg, Int.reduceLE, Int.reduceLT, Int.reduceEq, Int.reduceAdd, Int.reduceSub, Int.reduceMul, ne_eq, not_true_eq_false, not_false_eq_true, true_and, and_true, and_self, false_implies, true_implies, implies_true, forall_const, Nat.reduceAdd, Int.add_zero, Int.zero_add, true_or, or_true, false_or, or_false, List.length_nil, List.length_cons]
  have := L1 (f 0 1).toNat 0 0 f (C 18) (by omega) (by omega) (by omega) (by omega) hE hO rp_self hN hbar (by rw [Int.zero_add]; exact hq)
  rwa [rp_self] at this
