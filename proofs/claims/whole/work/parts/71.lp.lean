/-! the class's least parting -/
def lpl (W : Int → Int) (r T cost : Int) (G : Int → Int → Int → Int) : Nat → Int → Int → Int
  | 0, _, least => least
  | j + 1, s, least => lpl W r T cost G j (s + 1) (if cost + s * (10000 + fig r) < least ∧ lland (W (r * 10 + s)) T = 0 then G (llor T (W (r * 10 + s))) (cost + s * (10000 + fig r)) least else least)
def lpa (W : Int → Int) : Nat → Int → Int → Int → Int
  | 0, _, cost, best => if best < cost then best else cost
  | r + 1, T, cost, best => lpl W (r : Int) T cost (lpa W r) 10 0 best
theorem fig_bd (i : Int) : 1 ≤ fig i ∧ fig i ≤ 1000 := by
  unfold fig
  repeat' split
  all_goals omega
theorem prc_bd {s r : Int} (h0 : 0 ≤ s) (h1 : s ≤ 9) : 0 ≤ s * (10000 + fig r) ∧ s * (10000 + fig r) ≤ 99000 := by
  have hf := fig_bd r
  exact ⟨Int.mul_nonneg h0 (by omega), Int.mul_le_mul h1 (show 10000 + fig r ≤ 11000 by omega) (by omega) (by omega)⟩
theorem lpa_bd (W : Int → Int) : ∀ (r : Nat) (T cost best : Int), 0 ≤ cost → 0 ≤ best → 0 ≤ lpa W r T cost best ∧ lpa W r T cost best ≤ best
  | 0, T, cost, best, h0, h1 => by
    show 0 ≤ (if best < cost then best else cost) ∧ (if best < cost then best else cost) ≤ best
    split <;> omega
  | r + 1, T, cost, best, h0, h1 => by
    have A : ∀ (j : Nat) (s least : Int), 0 ≤ s → s + j ≤ 10 → 0 ≤ least → least ≤ best → 0 ≤ lpl W (r : Int) T cost (lpa W r) j s least ∧ lpl W (r : Int) T cost (lpa W r) j s least ≤ best := by
      intro j
      induction j with
      | zero => exact fun s least _ _ a b => ⟨a, b⟩
      | succ j ih =>
        intro s least s0 s1 a b
        have hp := prc_bd (r := (r : Int)) s0 (by omega)
        have hl := lpa_bd W r (llor T (W ((r : Int) * 10 + s))) (cost + s * (10000 + fig (r : Int))) least (by omega) a
        show 0 ≤ lpl W (r : Int) T cost (lpa W r) j (s + 1) (if _ then _ else _) ∧ lpl W (r : Int) T cost (lpa W r) j (s + 1) (if _ then _ else _) ≤ best
        split
        · exact ih (s + 1) _ (by omega) (by omega) hl.1 (by omega)
        · exact ih (s + 1) _ (by omega) (by omega) a b
    exact A 10 0 best (by omega) (by omega) h1 (by omega)
/-- the costs that the boxes that are left can come to, next to bars that are taken -/
def Rch (W : Int → Int) : Nat → Int → Int → Int → Prop
  | 0, _, cost, v => v = cost
  | r + 1, T, cost, v => ∃ s : Int, (0 ≤ s ∧ s < 10) ∧ lland (W ((r : Int) * 10 + s)) T = 0 ∧ Rch W r (llor T (W ((r : Int) * 10 + s))) (cost + s * (10000 + fig (r : Int))) v
theorem Rch_ge {W : Int → Int} : ∀ (r : Nat) (T cost v : Int), Rch W r T cost v → cost ≤ v
  | 0, T, cost, v, h => by
    have h : v = cost := h
    omega
  | r + 1, T, cost, v, h => by
    obtain ⟨s, h1, h2, h3⟩ := h
    have := Rch_ge r _ _ _ h3
    have hp := prc_bd (r := (r : Int)) h1.1 (by omega)
    omega
theorem lpa_spec {W : Int → Int} : ∀ (r : Nat) (T cost best : Int), (lpa W r T cost best = best ∨ (Rch W r T cost (lpa W r T cost best) ∧ lpa W r T cost best < best)) ∧ lpa W r T cost best ≤ best ∧ ∀ v, Rch W r T cost v → lpa W r T cost best ≤ v
  | 0, T, cost, best => by
    have e : lpa W 0 T cost best = if best < cost then best else cost := rfl
    by_cases h : best < cost
    · rw [e, if_pos h]
      exact ⟨Or.inl rfl, by omega, fun v hv => by have hv : v = cost := hv; omega⟩
    · rw [e, if_neg h]
      refine ⟨?_, by omega, fun v hv => by have hv : v = cost := hv; omega⟩
      by_cases h2 : cost = best
      · exact Or.inl h2
      · exact Or.inr ⟨rfl, by omega⟩
  | r + 1, T, cost, best => by
    have A : ∀ (j : Nat) (s least : Int), 0 ≤ s → s + j ≤ 10 → (lpl W (r : Int) T cost (lpa W r) j s least = least ∨ ∃ t : Int, (s ≤ t ∧ t < s + j) ∧ lland (W ((r : Int) * 10 + t)) T = 0 ∧ Rch W r (llor T (W ((r : Int) * 10 + t))) (cost + t * (10000 + fig (r : Int))) (lpl W (r : Int) T cost (lpa W r) j s least) ∧ lpl W (r : Int) T cost (lpa W r) j s least < least) ∧ lpl W (r : Int) T cost (lpa W r) j s least ≤ least ∧ ∀ t, s ≤ t → t < s + j → lland (W ((r : Int) * 10 + t)) T = 0 → ∀ v, Rch W r (llor T (W ((r : Int) * 10 + t))) (cost + t * (10000 + fig (r : Int))) v → lpl W (r : Int) T cost (lpa W r) j s least ≤ v := by
      intro j
      induction j with
      | zero => exact fun s least _ _ => ⟨Or.inl rfl, Int.le_refl _, fun t t0 t1 => by omega⟩
      | succ j ih =>
        intro s least s0 s1
        by_cases hc : cost + s * (10000 + fig (r : Int)) < least ∧ lland (W ((r : Int) * 10 + s)) T = 0
        · have e : lpl W (r : Int) T cost (lpa W r) (j + 1) s least = lpl W (r : Int) T cost (lpa W r) j (s + 1) (lpa W r (llor T (W ((r : Int) * 10 + s))) (cost + s * (10000 + fig (r : Int))) least) := by
            show lpl W (r : Int) T cost (lpa W r) j (s + 1) (if _ then _ else _) = _
            rw [if_pos hc]
          have i1 := lpa_spec (W := W) r (llor T (W ((r : Int) * 10 + s))) (cost + s * (10000 + fig (r : Int))) least
          rw [e]
          generalize lpa W r (llor T (W ((r : Int) * 10 + s))) (cost + s * (10000 + fig (r : Int))) least = L1 at i1 ⊢
          have i2 := ih (s + 1) L1 (by omega) (by omega)
          generalize lpl W (r : Int) T cost (lpa W r) j (s + 1) L1 = L at i2 ⊢
          obtain ⟨a1, a2, a3⟩ := i1
          obtain ⟨b1, b2, b3⟩ := i2
          refine ⟨?_, by omega, fun t t0 t1 t2 v hv => ?_⟩
          · rcases b1 with b1 | ⟨t, t0, t1, t2, t3⟩
            · rw [b1]
              rcases a1 with a1 | a1
              · exact Or.inl a1
              · exact Or.inr ⟨s, by omega, hc.2, a1.1, a1.2⟩
            · exact Or.inr ⟨t, by omega, t1, t2, by omega⟩
          · by_cases ht : t = s
            · subst ht
              have := a3 v hv
              omega
            · exact b3 t (by omega) (by omega) t2 v hv
        · have e : lpl W (r : Int) T cost (lpa W r) (j + 1) s least = lpl W (r : Int) T cost (lpa W r) j (s + 1) least := by
            show lpl W (r : Int) T cost (lpa W r) j (s + 1) (if _ then _ else _) = _
            rw [if_neg hc]
          rw [e]
          have i2 := ih (s + 1) least (by omega) (by omega)
          generalize lpl W (r : Int) T cost (lpa W r) j (s + 1) least = L at i2 ⊢
          obtain ⟨b1, b2, b3⟩ := i2
          refine ⟨?_, b2, fun t t0 t1 t2 v hv => ?_⟩
          · rcases b1 with b1 | ⟨t, t0, t1, t2, t3⟩
            · exact Or.inl b1
            · exact Or.inr ⟨t, by omega, t1, t2, t3⟩
          · by_cases ht : t = s
            · subst ht
              have h1 : ¬ cost + t * (10000 + fig (r : Int)) < least := fun q => hc ⟨q, t2⟩
              have h2 := Rch_ge r _ _ _ hv
              omega
            · exact b3 t (by omega) (by omega) t2 v hv
    obtain ⟨a1, a2, a3⟩ := A 10 0 best (by omega) (by omega)
    refine ⟨?_, a2, fun v hv => ?_⟩
    · rcases a1 with a1 | ⟨t, t0, t1, t2, t3⟩
      · exact Or.inl a1
      · exact Or.inr ⟨⟨t, by omega, t1, t2⟩, t3⟩
    · obtain ⟨s, s0, s1, s2⟩ := hv
      exact a3 s s0.1 (by omega) s1 v s2
theorem k_leastParting {l : Launch} {X : Cx} {C : Nat → Int → Int} {w : Int → Int} : ∀ (r n : Nat) (ri T cost best : Int) (Q : Qt), ri = (r : Int) → r ≤ 4 → r < n → 0 ≤ cost → cost + 100000 * ri ≤ 400000 → 0 ≤ best → best ≤ 10000000 → Q (some (vI (lpa w r T cost best))) (C, w) → TM l X shC n mX9_leastParting [vR 34, vI ri, vL T, vI cost, vI best] (C, w) Q := by
  intro r
  induction r with
  | zero =>
    intro n ri T cost best Q hr h4 hrn c0 c1 b0 b1 hq
    have hn : 0 < n := by omega
    have hq : Q (some (vI (if best < cost then best else cost))) (C, w) := hq
    refine EX9_leastParting rfl ?_
    (first | refine BX9_leastParting_0 hn ?_ | refine BX9_leastParting_9 hn ?_ | refine BX9_leastParting_17 hn ?_ | refine BX9_leastParting_29 hn ?_ | refine BX9_leastParting_96 hn ?_ | refine BX9_leastParting_98 hn ?_ | refine BX9_leastParting_104 hn ?_)
    dsimp only [bX9_leastParting_0, bX9_leastParting_9, bX9_leastParting_17, bX9_leastParting_29, bX9_leastParting_96, bX9_leastParting_98, bX9_leastParting_104, o_add, o_ald, o_cge, o_cle, o_gs, o_ials, o_ic, o_ild, o_inc, o_iret, o_ist, o_lal, o_land, o_lc, o_lcmp, o_lld, o_lor, o_lst, o_min, o_mul, o_s5, o_sub, o_zle, o_zne, tk, lget, lput, lkill, lmask, ol, lent, flC_0_0, flC_0_1, flC_0_2, flC_0_3, flC_0_4, flC_0_5, flC_0_6, flC_0_7, flC_0_8, flC_0_9, flC_0_10, flC_1_0, flC_1_1, flC_1_2, flC_1_3, flC_1_4, flC_1_5, flC_1_6, flC_1_7, flC_2_0, flC_2_1, flC_2_2, flC_2_3, flC_2_4, flC_2_5, flC_2_6, flC_2_7, flC_2_8, arC_3, arC_4, arC_5, arC_6, arC_7, arC_8, arC_9, flC_10_0, flC_10_1, flC_10_2, flC_10_3, flC_10_4, flC_10_5, flC_10_6, flC_10_7, flC_10_8, arC_11, arC_12, arC_13, arC_14, arC_15, arC_16, flC_17_0, arC_18, flC_19_0, flC_19_1, flC_19_2, arC_20, flC_21_0, flC_21_1, flC_21_2, arC_22, arC_23, flC_24_0, flC_24_1, flC_24_2, arC_25, flC_26_0, flC_26_1, flC_26_2, arC_27, arC_28, flC_29_0, arC_30, flC_31_0, flC_31_1, arC_32, arC_33, arC_34]
    try simp only [up, upL, rp, sf, cpy, Nat.reduceEqDiff, reduceIte, Int.reduceNeg, Int.reduceLE, Int.reduceLT, Int.reduceEq, Int.reduceAdd, Int.reduceSub, Int.reduceMul, ne_eq, not_true_eq_false, not_false_eq_true, true_and, and_true, and_self, false_implies, true_implies, implies_true, forall_const, Nat.reduceAdd, Int.add_zero, Int.zero_add, true_or, or_true, false_or, or_false, List.length_nil, List.length_cons]
    refine ⟨by omega, fun h => ?_, fun h => absurd h (by omega)⟩
    (first | refine BX9_leastParting_0 hn ?_ | refine BX9_leastParting_9 hn ?_ | refine BX9_leastParting_17 hn ?_ | refine BX9_leastParting_29 hn ?_ | refine BX9_leastParting_96 hn ?_ | refine BX9_leastParting_98 hn ?_ | refine BX9_leastParting_104 hn ?_)
    dsimp only [bX9_leastParting_0, bX9_leastParting_9, bX9_leastParting_17, bX9_leastParting_29, bX9_leastParting_96, bX9_leastParting_98, bX9_leastParting_104, o_add, o_ald, o_cge, o_cle, o_gs, o_ials, o_ic, o_ild, o_inc, o_iret, o_ist, o_lal, o_land, o_lc, o_lcmp, o_lld, o_lor, o_lst, o_min, o_mul, o_s5, o_sub, o_zle, o_zne, tk, lget, lput, lkill, lmask, ol, flC_0_0, flC_0_1, flC_0_2, flC_0_3, flC_0_4, flC_0_5, flC_0_6, flC_0_7, flC_0_8, flC_0_9, flC_0_10, flC_1_0, flC_1_1, flC_1_2, flC_1_3, flC_1_4, flC_1_5, flC_1_6, flC_1_7, flC_2_0, flC_2_1, flC_2_2, flC_2_3, flC_2_4, flC_2_5, flC_2_6, flC_2_7, flC_2_8, arC_3, arC_4, arC_5, arC_6, arC_7, arC_8, arC_9, flC_10_0, flC_10_1, flC_10_2, flC_10_3, flC_10_4, flC_10_5, flC_10_6, flC_10_7, flC_10_8, arC_11, arC_12, arC_13, arC_14, arC_15, arC_16, flC_17_0, arC_18, flC_19_0, flC_19_1, flC_19_2, arC_20, flC_21_0, flC_21_1, flC_21_2, arC_22, arC_23, flC_24_0, flC_24_1, flC_24_2, arC_25, flC_26_0, flC_26_1, flC_26_2, arC_27, arC_28, flC_29_0, arC_30, flC_31_0, flC_31_1, arC_32, arC_33, arC_34]
    try simp only [up, upL, rp, sf, cpy, Nat.reduceEqDiff, reduceIte, Int.reduceNeg, Int.reduceLE, Int.reduceLT, Int.reduceEq, Int.reduceAdd, Int.reduceSub, Int.reduceMul, ne_eq, not_true_eq_false, not_false_eq_true, true_and, and_true, and_self, false_implies, true_implies, implies_true, forall_const, Nat.reduceAdd, Int.add_zero, Int.zero_add, true_or, or_true, false_or, or_false, List.length_nil, List.length_cons]
    exact ⟨by omega, by omega, rfl, hq⟩
  | succ r IH =>
    intro n ri T cost best Q hr h4 hrn c0 c1 b0 b1 hq
    have hn : 0 < n := by omega
    have hq : Q (some (vI (lpl w (r : Int) T cost (lpa w r) 10 0 best))) (C, w) := hq
    have L : ∀ (j : Nat) (s least rr : Int), rr = (r : Int) → s + j = 10 → 0 ≤ s → 0 ≤ least → least ≤ 10000000 → Q (some (vI (lpl w (r : Int) T cost (lpa w r) j s least))) (C, w) → Tf l X shC n mX9_leastParting Q 29 [some (vR 34), none, some (vL T), none, some (vI cost), none, some (vI least), some (vI rr), some (vI s), none, none, none] [] (C, w) := by
      intro j
      induction j with
      | zero =>
        intro s least rr er e0 e1 l0 l1 hq
        (first | refine BX9_leastParting_0 hn ?_ | refine BX9_leastParting_9 hn ?_ | refine BX9_leastParting_17 hn ?_ | refine BX9_leastParting_29 hn ?_ | refine BX9_leastParting_96 hn ?_ | refine BX9_leastParting_98 hn ?_ | refine BX9_leastParting_104 hn ?_)
        dsimp only [bX9_leastParting_0, bX9_leastParting_9, bX9_leastParting_17, bX9_leastParting_29, bX9_leastParting_96, bX9_leastParting_98, bX9_leastParting_104, o_add, o_ald, o_cge, o_cle, o_gs, o_ials, o_ic, o_ild, o_inc, o_iret, o_ist, o_lal, o_land, o_lc, o_lcmp, o_lld, o_lor, o_lst, o_min, o_mul, o_s5, o_sub, o_zle, o_zne, tk, lget, lput, lkill, lmask, ol, flC_0_0, flC_0_1, flC_0_2, flC_0_3, flC_0_4, flC_0_5, flC_0_6, flC_0_7, flC_0_8, flC_0_9, flC_0_10, flC_1_0, flC_1_1, flC_1_2, flC_1_3, flC_1_4, flC_1_5, flC_1_6, flC_1_7, flC_2_0, flC_2_1, flC_2_2, flC_2_3, flC_2_4, flC_2_5, flC_2_6, flC_2_7, flC_2_8, arC_3, arC_4, arC_5, arC_6, arC_7, arC_8, arC_9, flC_10_0, flC_10_1, flC_10_2, flC_10_3, flC_10_4, flC_10_5, flC_10_6, flC_10_7, flC_10_8, arC_11, arC_12, arC_13, arC_14, arC_15, arC_16, flC_17_0, arC_18, flC_19_0, flC_19_1, flC_19_2, arC_20, flC_21_0, flC_21_1, flC_21_2, arC_22, arC_23, flC_24_0, flC_24_1, flC_24_2, arC_25, flC_26_0, flC_26_1, flC_26_2, arC_27, arC_28, flC_29_0, arC_30, flC_31_0, flC_31_1, arC_32, arC_33, arC_34]
        try simp only [up, upL, rp, sf, cpy, Nat.reduceEqDiff, reduceIte, Int.reduceNeg, Int.reduceLE, Int.reduceLT, Int.reduceEq, Int.reduceAdd, Int.reduceSub, Int.reduceMul, ne_eq, not_true_eq_false, not_false_eq_true, true_and, and_true, and_self, false_implies, true_implies, implies_true, forall_const, Nat.reduceAdd, Int.add_zero, Int.zero_add, true_or, or_true, false_or, or_false, List.length_nil, List.length_cons]
        refine ⟨by omega, fun h => ?_, fun h => absurd h (by omega)⟩
        (first | refine BX9_leastParting_0 hn ?_ | refine BX9_leastParting_9 hn ?_ | refine BX9_leastParting_17 hn ?_ | refine BX9_leastParting_29 hn ?_ | refine BX9_leastParting_96 hn ?_ | refine BX9_leastParting_98 hn ?_ | refine BX9_leastParting_104 hn ?_)
        dsimp only [bX9_leastParting_0, bX9_leastParting_9, bX9_leastParting_17, bX9_leastParting_29, bX9_leastParting_96, bX9_leastParting_98, bX9_leastParting_104, o_add, o_ald, o_cge, o_cle, o_gs, o_ials, o_ic, o_ild, o_inc, o_iret, o_ist, o_lal, o_land, o_lc, o_lcmp, o_lld, o_lor, o_lst, o_min, o_mul, o_s5, o_sub, o_zle, o_zne, tk, lget, lput, lkill, lmask, ol, flC_0_0, flC_0_1, flC_0_2, flC_0_3, flC_0_4, flC_0_5, flC_0_6, flC_0_7, flC_0_8, flC_0_9, flC_0_10, flC_1_0, flC_1_1, flC_1_2, flC_1_3, flC_1_4, flC_1_5, flC_1_6, flC_1_7, flC_2_0, flC_2_1, flC_2_2, flC_2_3, flC_2_4, flC_2_5, flC_2_6, flC_2_7, flC_2_8, arC_3, arC_4, arC_5, arC_6, arC_7, arC_8, arC_9, flC_10_0, flC_10_1, flC_10_2, flC_10_3, flC_10_4, flC_10_5, flC_10_6, flC_10_7, flC_10_8, arC_11, arC_12, arC_13, arC_14, arC_15, arC_16, flC_17_0, arC_18, flC_19_0, flC_19_1, flC_19_2, arC_20, flC_21_0, flC_21_1, flC_21_2, arC_22, arC_23, flC_24_0, flC_24_1, flC_24_2, arC_25, flC_26_0, flC_26_1, flC_26_2, arC_27, arC_28, flC_29_0, arC_30, flC_31_0, flC_31_1, arC_32, arC_33, arC_34]
        try simp only [up, upL, rp, sf, cpy, Nat.reduceEqDiff, reduceIte, Int.reduceNeg, Int.reduceLE, Int.reduceLT, Int.reduceEq, Int.reduceAdd, Int.reduceSub, Int.reduceMul, ne_eq, not_true_eq_false, not_false_eq_true, true_and, and_true, and_self, false_implies, true_implies, implies_true, forall_const, Nat.reduceAdd, Int.add_zero, Int.zero_add, true_or, or_true, false_or, or_false, List.length_nil, List.length_cons]
        exact hq
      | succ j ih =>
        intro s least rr er e0 e1 l0 l1 hq
        have hp := prc_bd (r := (r : Int)) e1 (by omega)
        have hq : Q (some (vI (lpl w (r : Int) T cost (lpa w r) j (s + 1) (if cost + s * (10000 + fig (r : Int)) < least ∧ lland (w ((r : Int) * 10 + s)) T = 0 then lpa w r (llor T (w ((r : Int) * 10 + s))) (cost + s * (10000 + fig (r : Int))) least else least)))) (C, w) := hq
        have no : ¬ (cost + s * (10000 + fig (r : Int)) < least ∧ lland (w ((r : Int) * 10 + s)) T = 0) → Tf l X shC n mX9_leastParting Q 98 [some (vR 34), none, some (vL T), none, some (vI cost), none, some (vI least), some (vI rr), some (vI s), none, none, none] [] (C, w) := by
          intro h
          rw [if_neg h] at hq
          (first | refine BX9_leastParting_0 hn ?_ | refine BX9_leastParting_9 hn ?_ | refine BX9_leastParting_17 hn ?_ | refine BX9_leastParting_29 hn ?_ | refine BX9_leastParting_96 hn ?_ | refine BX9_leastParting_98 hn ?_ | refine BX9_leastParting_104 hn ?_)
          dsimp only [bX9_leastParting_0, bX9_leastParting_9, bX9_leastParting_17, bX9_leastParting_29, bX9_leastParting_96, bX9_leastParting_98, bX9_leastParting_104, o_add, o_ald, o_cge, o_cle, o_gs, o_ials, o_ic, o_ild, o_inc, o_iret, o_ist, o_lal, o_land, o_lc, o_lcmp, o_lld, o_lor, o_lst, o_min, o_mul, o_s5, o_sub, o_zle, o_zne, tk, lget, lput, lkill, lmask, ol, flC_0_0, flC_0_1, flC_0_2, flC_0_3, flC_0_4, flC_0_5, flC_0_6, flC_0_7, flC_0_8, flC_0_9, flC_0_10, flC_1_0, flC_1_1, flC_1_2, flC_1_3, flC_1_4, flC_1_5, flC_1_6, flC_1_7, flC_2_0, flC_2_1, flC_2_2, flC_2_3, flC_2_4, flC_2_5, flC_2_6, flC_2_7, flC_2_8, arC_3, arC_4, arC_5, arC_6, arC_7, arC_8, arC_9, flC_10_0, flC_10_1, flC_10_2, flC_10_3, flC_10_4, flC_10_5, flC_10_6, flC_10_7, flC_10_8, arC_11, arC_12, arC_13, arC_14, arC_15, arC_16, flC_17_0, arC_18, flC_19_0, flC_19_1, flC_19_2, arC_20, flC_21_0, flC_21_1, flC_21_2, arC_22, arC_23, flC_24_0, flC_24_1, flC_24_2, arC_25, flC_26_0, flC_26_1, flC_26_2, arC_27, arC_28, flC_29_0, arC_30, flC_31_0, flC_31_1, arC_32, arC_33, arC_34]
          try simp only [up, upL, rp, sf, cpy, Nat.reduceEqDiff, reduceIte, Int.reduceNeg, Int.reduceLE, Int.reduceLT, Int.reduceEq, Int.reduceAdd, Int.reduceSub, Int.reduceMul, ne_eq, not_true_eq_false, not_false_eq_true, true_and, and_true, and_self, false_implies, true_implies, implies_true, forall_const, Nat.reduceAdd, Int.add_zero, Int.zero_add, true_or, or_true, false_or, or_false, List.length_nil, List.length_cons]
          exact ih (s + 1) least rr er (by omega) (by omega) l0 l1 hq
        subst er
        (first | refine BX9_leastParting_0 hn ?_ | refine BX9_leastParting_9 hn ?_ | refine BX9_leastParting_17 hn ?_ | refine BX9_leastParting_29 hn ?_ | refine BX9_leastParting_96 hn ?_ | refine BX9_leastParting_98 hn ?_ | refine BX9_leastParting_104 hn ?_)
        dsimp only [bX9_leastParting_0, bX9_leastParting_9, bX9_leastParting_17, bX9_leastParting_29, bX9_leastParting_96, bX9_leastParting_98, bX9_leastParting_104, o_add, o_ald, o_cge, o_cle, o_gs, o_ials, o_ic, o_ild, o_inc, o_iret, o_ist, o_lal, o_land, o_lc, o_lcmp, o_lld, o_lor, o_lst, o_min, o_mul, o_s5, o_sub, o_zle, o_zne, tk, lget, lput, lkill, lmask, ol, flC_0_0, flC_0_1, flC_0_2, flC_0_3, flC_0_4, flC_0_5, flC_0_6, flC_0_7, flC_0_8, flC_0_9, flC_0_10, flC_1_0, flC_1_1, flC_1_2, flC_1_3, flC_1_4, flC_1_5, flC_1_6, flC_1_7, flC_2_0, flC_2_1, flC_2_2, flC_2_3, flC_2_4, flC_2_5, flC_2_6, flC_2_7, flC_2_8, arC_3, arC_4, arC_5, arC_6, arC_7, arC_8, arC_9, flC_10_0, flC_10_1, flC_10_2, flC_10_3, flC_10_4, flC_10_5, flC_10_6, flC_10_7, flC_10_8, arC_11, arC_12, arC_13, arC_14, arC_15, arC_16, flC_17_0, arC_18, flC_19_0, flC_19_1, flC_19_2, arC_20, flC_21_0, flC_21_1, flC_21_2, arC_22, arC_23, flC_24_0, flC_24_1, flC_24_2, arC_25, flC_26_0, flC_26_1, flC_26_2, arC_27, arC_28, flC_29_0, arC_30, flC_31_0, flC_31_1, arC_32, arC_33, arC_34]
        try simp only [up, upL, rp, sf, cpy, Nat.reduceEqDiff, reduceIte, Int.reduceNeg, Int.reduceLE, Int.reduceLT, Int.reduceEq, Int.reduceAdd, Int.reduceSub, Int.reduceMul, ne_eq, not_true_eq_false, not_false_eq_true, true_and, and_true, and_self, false_implies, true_implies, implies_true, forall_const, Nat.reduceAdd, Int.add_zero, Int.zero_add, true_or, or_true, false_or, or_false, List.length_nil, List.length_cons]
        refine ⟨by omega, fun h => absurd h (by omega), fun h => ⟨by omega, by omega, by omega, by omega, fun h5 => no (by omega), fun h5 => ⟨r_lland _ _, fun h6 => no (by omega), fun h6 => ?_, fun h6 => no (by omega)⟩⟩⟩
        have hl := lpa_bd w r (llor T (w ((r : Int) * 10 + s))) (cost + s * (10000 + fig (r : Int))) least (by omega) l0
        rw [if_pos ⟨h5, h6⟩] at hq
        refine ⟨rfl, IH (n - 1) (r : Int) _ _ _ _ rfl (by omega) (by omega) (by omega) (by omega) l0 l1 ?_⟩
        (first | refine BX9_leastParting_0 hn ?_ | refine BX9_leastParting_9 hn ?_ | refine BX9_leastParting_17 hn ?_ | refine BX9_leastParting_29 hn ?_ | refine BX9_leastParting_96 hn ?_ | refine BX9_leastParting_98 hn ?_ | refine BX9_leastParting_104 hn ?_)
        dsimp only [bX9_leastParting_0, bX9_leastParting_9, bX9_leastParting_17, bX9_leastParting_29, bX9_leastParting_96, bX9_leastParting_98, bX9_leastParting_104, o_add, o_ald, o_cge, o_cle, o_gs, o_ials, o_ic, o_ild, o_inc, o_iret, o_ist, o_lal, o_land, o_lc, o_lcmp, o_lld, o_lor, o_lst, o_min, o_mul, o_s5, o_sub, o_zle, o_zne, tk, lget, lput, lkill, lmask, ol, flC_0_0, flC_0_1, flC_0_2, flC_0_3, flC_0_4, flC_0_5, flC_0_6, flC_0_7, flC_0_8, flC_0_9, flC_0_10, flC_1_0, flC_1_1, flC_1_2, flC_1_3, flC_1_4, flC_1_5, flC_1_6, flC_1_7, flC_2_0, flC_2_1, flC_2_2, flC_2_3, flC_2_4, flC_2_5, flC_2_6, flC_2_7, flC_2_8, arC_3, arC_4, arC_5, arC_6, arC_7, arC_8, arC_9, flC_10_0, flC_10_1, flC_10_2, flC_10_3, flC_10_4, flC_10_5, flC_10_6, flC_10_7, flC_10_8, arC_11, arC_12, arC_13, arC_14, arC_15, arC_16, flC_17_0, arC_18, flC_19_0, flC_19_1, flC_19_2, arC_20, flC_21_0, flC_21_1, flC_21_2, arC_22, arC_23, flC_24_0, flC_24_1, flC_24_2, arC_25, flC_26_0, flC_26_1, flC_26_2, arC_27, arC_28, flC_29_0, arC_30, flC_31_0, flC_31_1, arC_32, arC_33, arC_34]
        try simp only [up, upL, rp, sf, cpy, Nat.reduceEqDiff, reduceIte, Int.reduceNeg, Int.reduceLE, Int.reduceLT, Int.reduceEq, Int.reduceAdd, Int.reduceSub, Int.reduceMul, ne_eq, not_true_eq_false, not_false_eq_true, true_and, and_true, and_self, false_implies, true_implies, implies_true, forall_const, Nat.reduceAdd, Int.add_zero, Int.zero_add, true_or, or_true, false_or, or_false, List.length_nil, List.length_cons]
        (first | refine BX9_leastParting_0 hn ?_ | refine BX9_leastParting_9 hn ?_ | refine BX9_leastParting_17 hn ?_ | refine BX9_leastParting_29 hn ?_ | refine BX9_leastParting_96 hn ?_ | refine BX9_leastParting_98 hn ?_ | refine BX9_leastParting_104 hn ?_)
        dsimp only [bX9_leastParting_0, bX9_leastParting_9, bX9_leastParting_17, bX9_leastParting_29, bX9_leastParting_96, bX9_leastParting_98, bX9_leastParting_104, o_add, o_ald, o_cge, o_cle, o_gs, o_ials, o_ic, o_ild, o_inc, o_iret, o_ist, o_lal, o_land, o_lc, o_lcmp, o_lld, o_lor, o_lst, o_min, o_mul, o_s5, o_sub, o_zle, o_zne, tk, lget, lput, lkill, lmask, ol, flC_0_0, flC_0_1, flC_0_2, flC_0_3, flC_0_4, flC_0_5, flC_0_6, flC_0_7, flC_0_8, flC_0_9, flC_0_10, flC_1_0, flC_1_1, flC_1_2, flC_1_3, flC_1_4, flC_1_5, flC_1_6, flC_1_7, flC_2_0, flC_2_1, flC_2_2, flC_2_3, flC_2_4, flC_2_5, flC_2_6, flC_2_7, flC_2_8, arC_3, arC_4, arC_5, arC_6, arC_7, arC_8, arC_9, flC_10_0, flC_10_1, flC_10_2, flC_10_3, flC_10_4, flC_10_5, flC_10_6, flC_10_7, flC_10_8, arC_11, arC_12, arC_13, arC_14, arC_15, arC_16, flC_17_0, arC_18, flC_19_0, flC_19_1, flC_19_2, arC_20, flC_21_0, flC_21_1, flC_21_2, arC_22, arC_23, flC_24_0, flC_24_1, flC_24_2, arC_25, flC_26_0, flC_26_1, flC_26_2, arC_27, arC_28, flC_29_0, arC_30, flC_31_0, flC_31_1, arC_32, arC_33, arC_34]
        try simp only [up, upL, rp, sf, cpy, Nat.reduceEqDiff, reduceIte, Int.reduceNeg, Int.reduceLE, Int.reduceLT, Int.reduceEq, Int.reduceAdd, Int.reduceSub, Int.reduceMul, ne_eq, not_true_eq_false, not_false_eq_true, true_and, and_true, and_self, false_implies, true_implies, implies_true, forall_const, Nat.reduceAdd, Int.add_zero, Int.zero_add, true_or, or_true, false_or, or_false, List.length_nil, List.length_cons]
        exact ih (s + 1) _ (r : Int) rfl (by omega) (by omega) hl.1 (by omega) hq
    refine EX9_leastParting rfl ?_
    (first | refine BX9_leastParting_0 hn ?_ | refine BX9_leastParting_9 hn ?_ | refine BX9_leastParting_17 hn ?_ | refine BX9_leastParting_29 hn ?_ | refine BX9_leastParting_96 hn ?_ | refine BX9_leastParting_98 hn ?_ | refine BX9_leastParting_104 hn ?_)
    dsimp only [bX9_leastParting_0, bX9_leastParting_9, bX9_leastParting_17, bX9_leastParting_29, bX9_leastParting_96, bX9_leastParting_98, bX9_leastParting_104, o_add, o_ald, o_cge, o_cle, o_gs, o_ials, o_ic, o_ild, o_inc, o_iret, o_ist, o_lal, o_land, o_lc, o_lcmp, o_lld, o_lor, o_lst, o_min, o_mul, o_s5, o_sub, o_zle, o_zne, tk, lget, lput, lkill, lmask, ol, lent, flC_0_0, flC_0_1, flC_0_2, flC_0_3, flC_0_4, flC_0_5, flC_0_6, flC_0_7, flC_0_8, flC_0_9, flC_0_10, flC_1_0, flC_1_1, flC_1_2, flC_1_3, flC_1_4, flC_1_5, flC_1_6, flC_1_7, flC_2_0, flC_2_1, flC_2_2, flC_2_3, flC_2_4, flC_2_5, flC_2_6, flC_2_7, flC_2_8, arC_3, arC_4, arC_5, arC_6, arC_7, arC_8, arC_9, flC_10_0, flC_10_1, flC_10_2, flC_10_3, flC_10_4, flC_10_5, flC_10_6, flC_10_7, flC_10_8, arC_11, arC_12, arC_13, arC_14, arC_15, arC_16, flC_17_0, arC_18, flC_19_0, flC_19_1, flC_19_2, arC_20, flC_21_0, flC_21_1, flC_21_2, arC_22, arC_23, flC_24_0, flC_24_1, flC_24_2, arC_25, flC_26_0, flC_26_1, flC_26_2, arC_27, arC_28, flC_29_0, arC_30, flC_31_0, flC_31_1, arC_32, arC_33, arC_34]
    try simp only [up, upL, rp, sf, cpy, Nat.reduceEqDiff, reduceIte, Int.reduceNeg, Int.reduceLE, Int.reduceLT, Int.reduceEq, Int.reduceAdd, Int.reduceSub, Int.reduceMul, ne_eq, not_true_eq_false, not_false_eq_true, true_and, and_true, and_self, false_implies, true_implies, implies_true, forall_const, Nat.reduceAdd, Int.add_zero, Int.zero_add, true_or, or_true, false_or, or_false, List.length_nil, List.length_cons]
    refine ⟨by omega, fun h => absurd h (by omega), fun h => ⟨by omega, fun h => ?_, fun h => absurd h (by omega)⟩⟩
    (first | refine BX9_leastParting_0 hn ?_ | refine BX9_leastParting_9 hn ?_ | refine BX9_leastParting_17 hn ?_ | refine BX9_leastParting_29 hn ?_ | refine BX9_leastParting_96 hn ?_ | refine BX9_leastParting_98 hn ?_ | refine BX9_leastParting_104 hn ?_)
    dsimp only [bX9_leastParting_0, bX9_leastParting_9, bX9_leastParting_17, bX9_leastParting_29, bX9_leastParting_96, bX9_leastParting_98, bX9_leastParting_104, o_add, o_ald, o_cge, o_cle, o_gs, o_ials, o_ic, o_ild, o_inc, o_iret, o_ist, o_lal, o_land, o_lc, o_lcmp, o_lld, o_lor, o_lst, o_min, o_mul, o_s5, o_sub, o_zle, o_zne, tk, lget, lput, lkill, lmask, ol, flC_0_0, flC_0_1, flC_0_2, flC_0_3, flC_0_4, flC_0_5, flC_0_6, flC_0_7, flC_0_8, flC_0_9, flC_0_10, flC_1_0, flC_1_1, flC_1_2, flC_1_3, flC_1_4, flC_1_5, flC_1_6, flC_1_7, flC_2_0, flC_2_1, flC_2_2, flC_2_3, flC_2_4, flC_2_5, flC_2_6, flC_2_7, flC_2_8, arC_3, arC_4, arC_5, arC_6, arC_7, arC_8, arC_9, flC_10_0, flC_10_1, flC_10_2, flC_10_3, flC_10_4, flC_10_5, flC_10_6, flC_10_7, flC_10_8, arC_11, arC_12, arC_13, arC_14, arC_15, arC_16, flC_17_0, arC_18, flC_19_0, flC_19_1, flC_19_2, arC_20, flC_21_0, flC_21_1, flC_21_2, arC_22, arC_23, flC_24_0, flC_24_1, flC_24_2, arC_25, flC_26_0, flC_26_1, flC_26_2, arC_27, arC_28, flC_29_0, arC_30, flC_31_0, flC_31_1, arC_32, arC_33, arC_34]
    try simp only [up, upL, rp, sf, cpy, Nat.reduceEqDiff, reduceIte, Int.reduceNeg, Int.reduceLE, Int.reduceLT, Int.reduceEq, Int.reduceAdd, Int.reduceSub, Int.reduceMul, ne_eq, not_true_eq_false, not_false_eq_true, true_and, and_true, and_self, false_implies, true_implies, implies_true, forall_const, Nat.reduceAdd, Int.add_zero, Int.zero_add, true_or, or_true, false_or, or_false, List.length_nil, List.length_cons]
    exact L 10 0 best (ri - 1) (by omega) (by omega) (by omega) b0 b1 hq
