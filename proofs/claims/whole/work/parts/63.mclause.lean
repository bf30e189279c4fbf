/-! the reference's clauses -/
def DM (f D : Nat → Int → Int) : Prop := f 0 18 = D 0 0 ∧ f 0 19 = D 0 1 ∧ f 0 26 = D 0 8 ∧ f 0 25 = D 0 7 ∧ (∀ b, 0 ≤ b → b < D 0 1 → f 9 b = D 1 b ∧ f 10 b = D 2 b ∧ f 11 b = D 3 b ∧ f 12 b = D 4 b ∧ f 13 b = D 5 b) ∧ (∀ r, 0 ≤ r → r < D 0 8 → f 14 r = D 6 r)
def FM (f' f : Nat → Int → Int) : Prop := (∀ i, ¬ (14 ≤ i ∧ i ≤ 19) → ¬ (25 ≤ i ∧ i ≤ 26) → f' 0 i = f 0 i) ∧ ∀ k, k ≠ 0 → ¬ (9 ≤ k ∧ k ≤ 14) → f' k = f k
theorem FM_rf {f : Nat → Int → Int} : FM f f := ⟨fun _ _ _ => rfl, fun _ _ _ => rfl⟩
theorem FM_tr {f g h : Nat → Int → Int} (a : FM f g) (b : FM g h) : FM f h := ⟨fun i h1 h2 => (a.1 i h1 h2).trans (b.1 i h1 h2), fun k h1 h2 => (a.2 k h1 h2).trans (b.2 k h1 h2)⟩
theorem FM_rp {f' f : Nat → Int → Int} {c : Int → Int} (h : FM f' f) (hc : RM c (f' 0)) : FM (rp f' 0 c) f := ⟨fun i h1 h2 => by rw [rp_k, hc i (by omega)]; exact h.1 i h1 h2, fun k h1 h2 => by rw [rp_ne h1]; exact h.2 k h1 h2⟩
theorem FM_up {f' f : Nat → Int → Int} {a : Nat} {i v : Int} (h : FM f' f) (a0 : 9 ≤ a) (a1 : a ≤ 14) : FM (up f' a i v) f := by
  rw [up_to]
  exact ⟨fun j h1 h2 => by rw [rp_ne (by omega)]; exact h.1 j h1 h2, fun k h1 h2 => by rw [rp_ne (by omega)]; exact h.2 k h1 h2⟩
theorem FM_up0 {f' f : Nat → Int → Int} {i v : Int} (h : FM f' f) (hi : (14 ≤ i ∧ i ≤ 19) ∨ (25 ≤ i ∧ i ≤ 26)) : FM (up f' 0 i v) f := by
  rw [up_to]
  refine ⟨fun j h1 h2 => ?_, fun k h1 h2 => by rw [rp_ne (by omega)]; exact h.2 k h1 h2⟩
  rw [rp_k]
  show (if j = i then v else f' 0 j) = _
  rw [if_neg (by omega)]
  exact h.1 j h1 h2
theorem TXM_F {f' f : Nat → Int → Int} {T : Int → Int} {n : Int} (hT : TXM f T n) (h : FM f' f) : TXM f' T n := by
  refine ⟨⟨(h.1 13 (by omega) (by omega)).trans hT.1.1, hT.1.2⟩, ?_⟩
  rw [h.2 8 (by omega) (by omega)]
  exact hT.2
def clos (T : Int → Int) (n : Int) (o : Oc) : Oc := match o with
  | .inl x => .inl x
  | .inr (D', e) => closeP T n D' e
def tkD (T : Int → Int) (n : Int) (D : Nat → Int → Int) (p : Int) : Oc := match rdN T n 1 99 p with
  | .inl x => .inl x
  | .inr (v, _, e) => .inr (up D 0 0 v, e)
def tkB4 (T : Int → Int) (n : Int) (D : Nat → Int → Int) (t h s p : Int) : Oc := match rdN T n 0 4 p with
  | .inl x => .inl x
  | .inr (k, _, e) => .inr (addb D t h s k, e)
def tkB3 (T : Int → Int) (n : Int) (D : Nat → Int → Int) (t h p : Int) : Oc := match rdN T n 1 20 p with
  | .inl x => .inl x
  | .inr (s, _, e) => tkB4 T n D t h s e
def tkB2 (T : Int → Int) (n : Int) (D : Nat → Int → Int) (t p : Int) : Oc := match rdN T n 0 (t - 1) p with
  | .inl x => .inl x
  | .inr (h, _, e) => tkB3 T n D t h e
def tkB (T : Int → Int) (n : Int) (D : Nat → Int → Int) (p : Int) : Oc := match rdN T n 2 60 p with
  | .inl x => .inl x
  | .inr (t, _, e) => tkB2 T n D t e
def tkI2 (T : Int → Int) (n : Int) (D : Nat → Int → Int) (a p : Int) : Oc := match rdN T n 0 (D 0 1 - 1) p with
  | .inl x => .inl x
  | .inr (b, q, e) => if b ≤ a ∨ D 5 b ≠ -1 then .inl (4, q) else .inr (addi D a b, e)
def tkI (T : Int → Int) (n : Int) (D : Nat → Int → Int) (p : Int) : Oc := match rdN T n 0 (D 0 1 - 1) p with
  | .inl x => .inl x
  | .inr (a, _, e) => tkI2 T n D a e
def tkR (T : Int → Int) (n : Int) (D : Nat → Int → Int) (p : Int) : Oc := match rdN T n 1 30 p with
  | .inl x => .inl x
  | .inr (v, _, e) => .inr (addr D v, e)
theorem clD_tk {T : Int → Int} {n p : Int} {D : Nat → Int → Int} : clD T n D p = clos T n (tkD T n D (p + 1)) := by
  unfold clD tkD
  cases rdN T n 1 99 (p + 1) with
  | inl x => rfl
  | inr x => obtain ⟨v, q, e⟩ := x; rfl
theorem clR_tk {T : Int → Int} {n p : Int} {D : Nat → Int → Int} : clR T n D p = clos T n (tkR T n D (p + 1)) := by
  unfold clR tkR
  cases rdN T n 1 30 (p + 1) with
  | inl x => rfl
  | inr x => obtain ⟨v, q, e⟩ := x; rfl
theorem clI_tk {T : Int → Int} {n p : Int} {D : Nat → Int → Int} : clI T n D p = clos T n (tkI T n D (p + 1)) := by
  unfold clI tkI
  cases rdN T n 0 (D 0 1 - 1) (p + 1) with
  | inl x => rfl
  | inr x =>
    obtain ⟨a, q, e⟩ := x
    show clI2 T n D a e = clos T n (tkI2 T n D a e)
    unfold clI2 tkI2
    cases rdN T n 0 (D 0 1 - 1) e with
    | inl x => rfl
    | inr x =>
      obtain ⟨b, q2, e2⟩ := x
      show (if b ≤ a ∨ D 5 b ≠ -1 then _ else _) = clos T n (if b ≤ a ∨ D 5 b ≠ -1 then _ else _)
      split <;> rfl
theorem clB_tk {T : Int → Int} {n p : Int} {D : Nat → Int → Int} : clB T n D p = clos T n (tkB T n D (p + 1)) := by
  unfold clB tkB
  cases rdN T n 2 60 (p + 1) with
  | inl x => rfl
  | inr x =>
    obtain ⟨t, q, e⟩ := x
    show clB2 T n D t e = clos T n (tkB2 T n D t e)
    unfold clB2 tkB2
    cases rdN T n 0 (t - 1) e with
    | inl x => rfl
    | inr x =>
      obtain ⟨h, q2, e2⟩ := x
      show clB3 T n D t h e2 = clos T n (tkB3 T n D t h e2)
      unfold clB3 tkB3
      cases rdN T n 1 20 e2 with
      | inl x => rfl
      | inr x =>
        obtain ⟨s, q3, e3⟩ := x
        show clB4 T n D t h s e3 = clos T n (tkB4 T n D t h s e3)
        unfold clB4 tkB4
        cases rdN T n 0 4 e3 with
        | inl x => rfl
        | inr x => obtain ⟨k, q4, e4⟩ := x; rfl
def HBM (n : Int) (f : Nat → Int → Int) (u : Int → Int) (Q : Qt) (o : Oc) : Prop := ∀ k q, o = .inl (k, q) → (1 ≤ k ∧ k ≤ 4) → ∀ f', FM f' f → f' 0 14 = q → Q (some (vI k)) (f', u)
def HOM (n : Int) (f : Nat → Int → Int) (u : Int → Int) (Q : Qt) (o : Oc) : Prop := ∀ D' e, o = .inr (D', e) → (0 ≤ e ∧ e ≤ n) → ∀ f', FM f' f → DM f' D' → f' 0 14 = f 0 14 → f' 0 15 = e → Q (some (vI 0)) (f', u)
theorem c_takeDuchy {l : Launch} {X : Cx} {Q : Qt} {f : Nat → Int → Int} {u T : Int → Int} {n : Int} {D : Nat → Int → Int} (hT : TXM f T n) (hD : DM f D) (p0 : 0 ≤ f 0 15) (p1 : f 0 15 ≤ n) (hb : HBM n f u Q (tkD T n D (f 0 15))) (ho : HOM n f u Q (tkD T n D (f 0 15))) : TM l X shM 2 mX10_takeDuchy [vR 0] (f, u) Q := by
  refine EX10_takeDuchy rfl ?_
  (first | refine BX10_takeDuchy_0 ?_ | refine BX10_takeDuchy_7 ?_)
  dsimp only [bX10_takeDuchy_0, bX10_takeDuchy_7, o_ald, o_gf, o_ic, o_ild, o_iret, o_ist, o_pf, o_v2, tk, lget, lput, lkill, lmask, ol, lent, flM_0_0, flM_0_1, flM_0_2, flM_0_3, flM_0_4, flM_0_5, flM_0_6, flM_0_7, flM_0_8, flM_0_9, flM_0_10, flM_0_11, flM_0_12, flM_0_13, flM_0_14, flM_0_15, flM_0_16, flM_0_17, flM_0_18, flM_0_19, flM_0_20, flM_0_21, flM_0_22, flM_0_23, flM_0_24, flM_0_25, flM_0_26, flM_0_27, flM_0_28, flM_0_29, flM_0_30, flM_0_31, flM_0_32, flM_0_33, flM_0_34, flM_0_35, flM_0_36, flM_0_37, flM_0_38, flM_0_39, flM_0_40, flM_0_41, arM_1, arM_2, arM_3, arM_4, arM_5, arM_6, arM_7, arM_8, arM_9, arM_10, arM_11, arM_12, arM_13, arM_14, arM_15, arM_16, arM_17, arM_18, arM_19, arM_20, arM_21, arM_22, arM_23, arM_24, arM_25]
  try simp only [up, upL, rp, sf, cpy, Nat.reduceEqDiff, reduceIte, Int.reduceNeg, Int.reduceLE, Int.reduceLT, Int.reduceEq, Int.reduceAdd, Int.reduceSub, Int.reduceMul, ne_eq, not_true_eq_false, not_false_eq_true, true_and, and_true, and_self, false_implies, true_implies, implies_true, forall_const, Nat.reduceAdd, Int.add_zero, Int.zero_add, true_or, or_true, false_or, or_false, List.length_nil, List.length_cons]
  refine ⟨rfl, c_takeNumber hT p0 p1 (by omega) (by omega) (fun z q h c hc c14 => ?_) (fun v q e h c hc c14 c15 c16 c17 => ?_)⟩
  · have hz := rdN_bad p1 h
    (first | refine BX10_takeDuchy_0 ?_ | refine BX10_takeDuchy_7 ?_)
    dsimp only [bX10_takeDuchy_0, bX10_takeDuchy_7, o_ald, o_gf, o_ic, o_ild, o_iret, o_ist, o_pf, o_v2, tk, lget, lput, lkill, lmask, ol, flM_0_0, flM_0_1, flM_0_2, flM_0_3, flM_0_4, flM_0_5, flM_0_6, flM_0_7, flM_0_8, flM_0_9, flM_0_10, flM_0_11, flM_0_12, flM_0_13, flM_0_14, flM_0_15, flM_0_16, flM_0_17, flM_0_18, flM_0_19, flM_0_20, flM_0_21, flM_0_22, flM_0_23, flM_0_24, flM_0_25, flM_0_26, flM_0_27, flM_0_28, flM_0_29, flM_0_30, flM_0_31, flM_0_32, flM_0_33, flM_0_34, flM_0_35, flM_0_36, flM_0_37, flM_0_38, flM_0_39, flM_0_40, flM_0_41, arM_1, arM_2, arM_3, arM_4, arM_5, arM_6, arM_7, arM_8, arM_9, arM_10, arM_11, arM_12, arM_13, arM_14, arM_15, arM_16, arM_17, arM_18, arM_19, arM_20, arM_21, arM_22, arM_23, arM_24, arM_25]
    try simp only [up, upL, rp, sf, cpy, Nat.reduceEqDiff, reduceIte, Int.reduceNeg, Int.reduceLE, Int.reduceLT, Int.reduceEq, Int.reduceAdd, Int.reduceSub, Int.reduceMul, ne_eq, not_true_eq_false, not_false_eq_true, true_and, and_true, and_self, false_implies, true_implies, implies_true, forall_const, Nat.reduceAdd, Int.add_zero, Int.zero_add, true_or, or_true, false_or, or_false, List.length_nil, List.length_cons]
    exact hb z q (by unfold tkD; rw [h]) (by omega) _ (FM_up0 (FM_rp FM_rf hc) (by omega)) c14
  · have hz := rdN_ok p1 h
    (first | refine BX10_takeDuchy_0 ?_ | refine BX10_takeDuchy_7 ?_)
    dsimp only [bX10_takeDuchy_0, bX10_takeDuchy_7, o_ald, o_gf, o_ic, o_ild, o_iret, o_ist, o_pf, o_v2, tk, lget, lput, lkill, lmask, ol, flM_0_0, flM_0_1, flM_0_2, flM_0_3, flM_0_4, flM_0_5, flM_0_6, flM_0_7, flM_0_8, flM_0_9, flM_0_10, flM_0_11, flM_0_12, flM_0_13, flM_0_14, flM_0_15, flM_0_16, flM_0_17, flM_0_18, flM_0_19, flM_0_20, flM_0_21, flM_0_22, flM_0_23, flM_0_24, flM_0_25, flM_0_26, flM_0_27, flM_0_28, flM_0_29, flM_0_30, flM_0_31, flM_0_32, flM_0_33, flM_0_34, flM_0_35, flM_0_36, flM_0_37, flM_0_38, flM_0_39, flM_0_40, flM_0_41, arM_1, arM_2, arM_3, arM_4, arM_5, arM_6, arM_7, arM_8, arM_9, arM_10, arM_11, arM_12, arM_13, arM_14, arM_15, arM_16, arM_17, arM_18, arM_19, arM_20, arM_21, arM_22, arM_23, arM_24, arM_25]
    try simp only [up, upL, rp, sf, cpy, Nat.reduceEqDiff, reduceIte, Int.reduceNeg, Int.reduceLE, Int.reduceLT, Int.reduceEq, Int.reduceAdd, Int.reduceSub, Int.reduceMul, ne_eq, not_true_eq_false, not_false_eq_true, true_and, and_true, and_self, false_implies, true_implies, implies_true, forall_const, Nat.reduceAdd, Int.add_zero, Int.zero_add, true_or, or_true, false_or, or_false, List.length_nil, List.length_cons]
    refine ho _ _ (by unfold tkD; rw [h]) (by omega) _ (FM_up0 (FM_rp FM_rf hc) (by omega)) ?_ c14 c15
    exact ⟨c16, (hc 19 (by omega)).trans hD.2.1, (hc 26 (by omega)).trans hD.2.2.1, (hc 25 (by omega)).trans hD.2.2.2.1, hD.2.2.2.2⟩
theorem c_takeRegent {l : Launch} {X : Cx} {Q : Qt} {f : Nat → Int → Int} {u T : Int → Int} {n : Int} {D : Nat → Int → Int} (hT : TXM f T n) (hD : DM f D) (hO : OkD D) (h8 : D 0 8 ≠ 6) (p0 : 0 ≤ f 0 15) (p1 : f 0 15 ≤ n) (hb : HBM n f u Q (tkR T n D (f 0 15))) (ho : HOM n f u Q (tkR T n D (f 0 15))) : TM l X shM 3 mX10_takeRegent [vR 0] (f, u) Q := by
  have hR := hO.1.2.2.1
  have e26 := hD.2.2.1
  have hF : FM (up f 0 26 (D 0 8 + 1)) f := FM_up0 FM_rf (by omega)
  refine EX10_takeRegent rfl ?_
  (first | refine BX10_takeRegent_0 ?_ | refine BX10_takeRegent_27 ?_)
  dsimp only [bX10_takeRegent_0, bX10_takeRegent_27, o_add, o_ald, o_dup, o_gf, o_ic, o_iret, o_pf, o_sub, o_v4, tk, lget, lput, lkill, lmask, ol, lent, flM_0_0, flM_0_1, flM_0_2, flM_0_3, flM_0_4, flM_0_5, flM_0_6, flM_0_7, flM_0_8, flM_0_9, flM_0_10, flM_0_11, flM_0_12, flM_0_13, flM_0_14, flM_0_15, flM_0_16, flM_0_17, flM_0_18, flM_0_19, flM_0_20, flM_0_21, flM_0_22, flM_0_23, flM_0_24, flM_0_25, flM_0_26, flM_0_27, flM_0_28, flM_0_29, flM_0_30, flM_0_31, flM_0_32, flM_0_33, flM_0_34, flM_0_35, flM_0_36, flM_0_37, flM_0_38, flM_0_39, flM_0_40, flM_0_41, arM_1, arM_2, arM_3, arM_4, arM_5, arM_6, arM_7, arM_8, arM_9, arM_10, arM_11, arM_12, arM_13, arM_14, arM_15, arM_16, arM_17, arM_18, arM_19, arM_20, arM_21, arM_22, arM_23, arM_24, arM_25]
  try simp only [up, upL, rp, sf, cpy, Nat.reduceEqDiff, reduceIte, Int.reduceNeg, Int.reduceLE, Int.reduceLT, Int.reduceEq, Int.reduceAdd, Int.reduceSub, Int.reduceMul, ne_eq, not_true_eq_false, not_false_eq_true, true_and, and_true, and_self, false_implies, true_implies, implies_true, forall_const, Nat.reduceAdd, Int.add_zero, Int.zero_add, true_or, or_true, false_or, or_false, List.length_nil, List.length_cons]
  rw [e26, Int.add_sub_cancel]
  refine ⟨rfl, c_into arM_14 (by omega) (by omega) (TXM_F hT hF) p0 p1 (by omega) (by omega) (fun z q h c v hc c14 => ?_) (fun v q e h c hc c14 c15 => ?_)⟩
  · have h : rdN T n 1 30 (f 0 15) = .inl (z, q) := h
    have hz := rdN_bad p1 h
    (first | refine BX10_takeRegent_0 ?_ | refine BX10_takeRegent_27 ?_)
    dsimp only [bX10_takeRegent_0, bX10_takeRegent_27, o_add, o_ald, o_dup, o_gf, o_ic, o_iret, o_pf, o_sub, o_v4, tk, lget, lput, lkill, lmask, ol, flM_0_0, flM_0_1, flM_0_2, flM_0_3, flM_0_4, flM_0_5, flM_0_6, flM_0_7, flM_0_8, flM_0_9, flM_0_10, flM_0_11, flM_0_12, flM_0_13, flM_0_14, flM_0_15, flM_0_16, flM_0_17, flM_0_18, flM_0_19, flM_0_20, flM_0_21, flM_0_22, flM_0_23, flM_0_24, flM_0_25, flM_0_26, flM_0_27, flM_0_28, flM_0_29, flM_0_30, flM_0_31, flM_0_32, flM_0_33, flM_0_34, flM_0_35, flM_0_36, flM_0_37, flM_0_38, flM_0_39, flM_0_40, flM_0_41, arM_1, arM_2, arM_3, arM_4, arM_5, arM_6, arM_7, arM_8, arM_9, arM_10, arM_11, arM_12, arM_13, arM_14, arM_15, arM_16, arM_17, arM_18, arM_19, arM_20, arM_21, arM_22, arM_23, arM_24, arM_25]
    try simp only [up, upL, rp, sf, cpy, Nat.reduceEqDiff, reduceIte, Int.reduceNeg, Int.reduceLE, Int.reduceLT, Int.reduceEq, Int.reduceAdd, Int.reduceSub, Int.reduceMul, ne_eq, not_true_eq_false, not_false_eq_true, true_and, and_true, and_self, false_implies, true_implies, implies_true, forall_const, Nat.reduceAdd, Int.add_zero, Int.zero_add, true_or, or_true, false_or, or_false, List.length_nil, List.length_cons]
    exact hb z q (by unfold tkR; rw [h]) (by omega) _ (FM_up (FM_rp hF hc) (by omega) (by omega)) c14
  · have h : rdN T n 1 30 (f 0 15) = .inr (v, q, e) := h
    have hz := rdN_ok p1 h
    (first | refine BX10_takeRegent_0 ?_ | refine BX10_takeRegent_27 ?_)
    dsimp only [bX10_takeRegent_0, bX10_takeRegent_27, o_add, o_ald, o_dup, o_gf, o_ic, o_iret, o_pf, o_sub, o_v4, tk, lget, lput, lkill, lmask, ol, flM_0_0, flM_0_1, flM_0_2, flM_0_3, flM_0_4, flM_0_5, flM_0_6, flM_0_7, flM_0_8, flM_0_9, flM_0_10, flM_0_11, flM_0_12, flM_0_13, flM_0_14, flM_0_15, flM_0_16, flM_0_17, flM_0_18, flM_0_19, flM_0_20, flM_0_21, flM_0_22, flM_0_23, flM_0_24, flM_0_25, flM_0_26, flM_0_27, flM_0_28, flM_0_29, flM_0_30, flM_0_31, flM_0_32, flM_0_33, flM_0_34, flM_0_35, flM_0_36, flM_0_37, flM_0_38, flM_0_39, flM_0_40, flM_0_41, arM_1, arM_2, arM_3, arM_4, arM_5, arM_6, arM_7, arM_8, arM_9, arM_10, arM_11, arM_12, arM_13, arM_14, arM_15, arM_16, arM_17, arM_18, arM_19, arM_20, arM_21, arM_22, arM_23, arM_24, arM_25]
    try simp only [up, upL, rp, sf, cpy, Nat.reduceEqDiff, reduceIte, Int.reduceNeg, Int.reduceLE, Int.reduceLT, Int.reduceEq, Int.reduceAdd, Int.reduceSub, Int.reduceMul, ne_eq, not_true_eq_false, not_false_eq_true, true_and, and_true, and_self, false_implies, true_implies, implies_true, forall_const, Nat.reduceAdd, Int.add_zero, Int.zero_add, true_or, or_true, false_or, or_false, List.length_nil, List.length_cons]
    refine ho _ _ (by unfold tkR; rw [h]) (by omega) _ (FM_up (FM_rp hF hc) (by omega) (by omega)) ?_ c14 c15
    refine ⟨(hc 18 (by omega)).trans hD.1, (hc 19 (by omega)).trans hD.2.1, (hc 26 (by omega)), (hc 25 (by omega)).trans hD.2.2.2.1, hD.2.2.2.2.1, fun r r0 r1 => ?_⟩
    have r1 : r < D 0 8 + 1 := r1
    show (if r = D 0 8 then v else f 14 r) = (if r = D 0 8 then v else D 6 r)
    by_cases hr : r = D 0 8
    · rw [if_pos hr, if_pos hr]
    · rw [if_neg hr, if_neg hr]; exact hD.2.2.2.2.2 r r0 (by omega)
theorem c_takeInside {l : Launch} {X : Cx} {Q : Qt} {f : Nat → Int → Int} {u T : Int → Int} {n : Int} {D : Nat → Int → Int} (hT : TXM f T n) (hD : DM f D) (hO : OkD D) (p0 : 0 ≤ f 0 15) (p1 : f 0 15 ≤ n) (hb : HBM n f u Q (tkI T n D (f 0 15))) (ho : HOM n f u Q (tkI T n D (f 0 15))) : TM l X shM 2 mX10_takeInside [vR 0] (f, u) Q := by
  have hB := hO.1.2.1
  have e25 := hD.2.2.2.1
  have e19 := hD.2.1
  have b46 : ∀ (M : Me) (a z : Int), (1 ≤ z ∧ z ≤ 4) → Q (some (vI z)) M → Tf l X shM 2 mX10_takeInside Q 46 [some (vR 0), none, some (vI a)] [vI z] M := by
    intro M a z hz q
    (first | refine BX10_takeInside_0 ?_ | refine BX10_takeInside_21 ?_ | refine BX10_takeInside_35 ?_ | refine BX10_takeInside_46 ?_ | refine BX10_takeInside_53 ?_ | refine BX10_takeInside_74 ?_ | refine BX10_takeInside_83 ?_ | refine BX10_takeInside_84 ?_)
    dsimp only [bX10_takeInside_0, bX10_takeInside_21, bX10_takeInside_35, bX10_takeInside_46, bX10_takeInside_53, bX10_takeInside_74, bX10_takeInside_83, bX10_takeInside_84, o_add, o_ald, o_ceq, o_cge, o_dup, o_gf, o_ial, o_ias, o_ic, o_ild, o_iret, o_ist, o_pf, o_sub, o_v2, o_zle, tk, lget, lput, lkill, lmask, ol, flM_0_0, flM_0_1, flM_0_2, flM_0_3, flM_0_4, flM_0_5, flM_0_6, flM_0_7, flM_0_8, flM_0_9, flM_0_10, flM_0_11, flM_0_12, flM_0_13, flM_0_14, flM_0_15, flM_0_16, flM_0_17, flM_0_18, flM_0_19, flM_0_20, flM_0_21, flM_0_22, flM_0_23, flM_0_24, flM_0_25, flM_0_26, flM_0_27, flM_0_28, flM_0_29, flM_0_30, flM_0_31, flM_0_32, flM_0_33, flM_0_34, flM_0_35, flM_0_36, flM_0_37, flM_0_38, flM_0_39, flM_0_40, flM_0_41, arM_1, arM_2, arM_3, arM_4, arM_5, arM_6, arM_7, arM_8, arM_9, arM_10, arM_11, arM_12, arM_13, arM_14, arM_15, arM_16, arM_17, arM_18, arM_19, arM_20, arM_21, arM_22, arM_23, arM_24, arM_25]
    try simp only [up, upL, rp, sf, cpy, Nat.reduceEqDiff, reduceIte, Int.reduceNeg, Int.reduceLE, Int.reduceLT, Int.reduceEq, Int.reduceAdd, Int.reduceSub, Int.reduceMul, ne_eq, not_true_eq_false, not_false_eq_true, true_and, and_true, and_self, false_implies, true_implies, implies_true, forall_const, Nat.reduceAdd, Int.add_zero, Int.zero_add, true_or, or_true, false_or, or_false, List.length_nil, List.length_cons]
    exact ⟨by omega, fun h => absurd h (by omega), fun h => q⟩
  have hF : FM (up f 0 25 (D 0 7 + 1)) f := FM_up0 FM_rf (by omega)
  refine EX10_takeInside rfl ?_
  (first | refine BX10_takeInside_0 ?_ | refine BX10_takeInside_21 ?_ | refine BX10_takeInside_35 ?_ | refine BX10_takeInside_46 ?_ | refine BX10_takeInside_53 ?_ | refine BX10_takeInside_74 ?_ | refine BX10_takeInside_83 ?_ | refine BX10_takeInside_84 ?_)
  dsimp only [bX10_takeInside_0, bX10_takeInside_21, bX10_takeInside_35, bX10_takeInside_46, bX10_takeInside_53, bX10_takeInside_74, bX10_takeInside_83, bX10_takeInside_84, o_add, o_ald, o_ceq, o_cge, o_dup, o_gf, o_ial, o_ias, o_ic, o_ild, o_iret, o_ist, o_pf, o_sub, o_v2, o_zle, tk, lget, lput, lkill, lmask, ol, lent, flM_0_0, flM_0_1, flM_0_2, flM_0_3, flM_0_4, flM_0_5, flM_0_6, flM_0_7, flM_0_8, flM_0_9, flM_0_10, flM_0_11, flM_0_12, flM_0_13, flM_0_14, flM_0_15, flM_0_16, flM_0_17, flM_0_18, flM_0_19, flM_0_20, flM_0_21, flM_0_22, flM_0_23, flM_0_24, flM_0_25, flM_0_26, flM_0_27, flM_0_28, flM_0_29, flM_0_30, flM_0_31, flM_0_32, flM_0_33, flM_0_34, flM_0_35, flM_0_36, flM_0_37, flM_0_38, flM_0_39, flM_0_40, flM_0_41, arM_1, arM_2, arM_3, arM_4, arM_5, arM_6, arM_7, arM_8, arM_9, arM_10, arM_11, arM_12, arM_13, arM_14, arM_15, arM_16, arM_17, arM_18, arM_19, arM_20, arM_21, arM_22, arM_23, arM_24, arM_25]
  try simp only [up, upL, rp, sf, cpy, Nat.reduceEqDiff, reduceIte, Int.reduceNeg, Int.reduceLE, Int.reduceLT, Int.reduceEq, Int.reduceAdd, Int.reduceSub, Int.reduceMul, ne_eq, not_true_eq_false, not_false_eq_true, true_and, and_true, and_self, false_implies, true_implies, implies_true, forall_const, Nat.reduceAdd, Int.add_zero, Int.zero_add, true_or, or_true, false_or, or_false, List.length_nil, List.length_cons]
  rw [e25, e19]
  refine ⟨rfl, c_takeNumber (TXM_F hT hF) p0 p1 (by omega) (by omega) (fun z q h c hc c14 => ?_) (fun a q e h c hc c14 c15 c16 c17 => ?_)⟩
  · have h : rdN T n 0 (D 0 1 - 1) (f 0 15) = .inl (z, q) := h
    have hz := rdN_bad p1 h
    (first | refine BX10_takeInside_0 ?_ | refine BX10_takeInside_21 ?_ | refine BX10_takeInside_35 ?_ | refine BX10_takeInside_46 ?_ | refine BX10_takeInside_53 ?_ | refine BX10_takeInside_74 ?_ | refine BX10_takeInside_83 ?_ | refine BX10_takeInside_84 ?_)
    dsimp only [bX10_takeInside_0, bX10_takeInside_21, bX10_takeInside_35, bX10_takeInside_46, bX10_takeInside_53, bX10_takeInside_74, bX10_takeInside_83, bX10_takeInside_84, o_add, o_ald, o_ceq, o_cge, o_dup, o_gf, o_ial, o_ias, o_ic, o_ild, o_iret, o_ist, o_pf, o_sub, o_v2, o_zle, tk, lget, lput, lkill, lmask, ol, flM_0_0, flM_0_1, flM_0_2, flM_0_3, flM_0_4, flM_0_5, flM_0_6, flM_0_7, flM_0_8, flM_0_9, flM_0_10, flM_0_11, flM_0_12, flM_0_13, flM_0_14, flM_0_15, flM_0_16, flM_0_17, flM_0_18, flM_0_19, flM_0_20, flM_0_21, flM_0_22, flM_0_23, flM_0_24, flM_0_25, flM_0_26, flM_0_27, flM_0_28, flM_0_29, flM_0_30, flM_0_31, flM_0_32, flM_0_33, flM_0_34, flM_0_35, flM_0_36, flM_0_37, flM_0_38, flM_0_39, flM_0_40, flM_0_41, arM_1, arM_2, arM_3, arM_4, arM_5, arM_6, arM_7, arM_8, arM_9, arM_10, arM_11, arM_12, arM_13, arM_14, arM_15, arM_16, arM_17, arM_18, arM_19, arM_20, arM_21, arM_22, arM_23, arM_24, arM_25]
    try simp only [up, upL, rp, sf, cpy, Nat.reduceEqDiff, reduceIte, Int.reduceNeg, Int.reduceLE, Int.reduceLT, Int.reduceEq, Int.reduceAdd, Int.reduceSub, Int.reduceMul, ne_eq, not_true_eq_false, not_false_eq_true, true_and, and_true, and_self, false_implies, true_implies, implies_true, forall_const, Nat.reduceAdd, Int.add_zero, Int.zero_add, true_or, or_true, false_or, or_false, List.length_nil, List.length_cons]
    refine ⟨by omega, fun h => absurd h (by omega), fun _ => ?_⟩
    exact b46 _ _ _ (by omega) (hb z q (by unfold tkI; rw [h]) (by omega) _ (FM_rp hF hc) c14)
  · have h : rdN T n 0 (D 0 1 - 1) (f 0 15) = .inr (a, q, e) := h
    have hz := rdN_ok p1 h
    have e2 : tkI T n D (f 0 15) = tkI2 T n D a e := by unfold tkI; rw [h]
    rw [e2] at hb ho
    have c19 : c 19 = D 0 1 := (hc 19 (by omega)).trans e19
    (first | refine BX10_takeInside_0 ?_ | refine BX10_takeInside_21 ?_ | refine BX10_takeInside_35 ?_ | refine BX10_takeInside_46 ?_ | refine BX10_takeInside_53 ?_ | refine BX10_takeInside_74 ?_ | refine BX10_takeInside_83 ?_ | refine BX10_takeInside_84 ?_)
    dsimp only [bX10_takeInside_0, bX10_takeInside_21, bX10_takeInside_35, bX10_takeInside_46, bX10_takeInside_53, bX10_takeInside_74, bX10_takeInside_83, bX10_takeInside_84, o_add, o_ald, o_ceq, o_cge, o_dup, o_gf, o_ial, o_ias, o_ic, o_ild, o_iret, o_ist, o_pf, o_sub, o_v2, o_zle, tk, lget, lput, lkill, lmask, ol, flM_0_0, flM_0_1, flM_0_2, flM_0_3, flM_0_4, flM_0_5, flM_0_6, flM_0_7, flM_0_8, flM_0_9, flM_0_10, flM_0_11, flM_0_12, flM_0_13, flM_0_14, flM_0_15, flM_0_16, flM_0_17, flM_0_18, flM_0_19, flM_0_20, flM_0_21, flM_0_22, flM_0_23, flM_0_24, flM_0_25, flM_0_26, flM_0_27, flM_0_28, flM_0_29, flM_0_30, flM_0_31, flM_0_32, flM_0_33, flM_0_34, flM_0_35, flM_0_36, flM_0_37, flM_0_38, flM_0_39, flM_0_40, flM_0_41, arM_1, arM_2, arM_3, arM_4, arM_5, arM_6, arM_7, arM_8, arM_9, arM_10, arM_11, arM_12, arM_13, arM_14, arM_15, arM_16, arM_17, arM_18, arM_19, arM_20, arM_21, arM_22, arM_23, arM_24, arM_25]
    try simp only [up, upL, rp, sf, cpy, Nat.reduceEqDiff, reduceIte, Int.reduceNeg, Int.reduceLE, Int.reduceLT, Int.reduceEq, Int.reduceAdd, Int.reduceSub, Int.reduceMul, ne_eq, not_true_eq_false, not_false_eq_true, true_and, and_true, and_self, false_implies, true_implies, implies_true, forall_const, Nat.reduceAdd, Int.add_zero, Int.zero_add, true_or, or_true, false_or, or_false, List.length_nil, List.length_cons]
    rw [c16]
    (first | refine BX10_takeInside_0 ?_ | refine BX10_takeInside_21 ?_ | refine BX10_takeInside_35 ?_ | refine BX10_takeInside_46 ?_ | refine BX10_takeInside_53 ?_ | refine BX10_takeInside_74 ?_ | refine BX10_takeInside_83 ?_ | refine BX10_takeInside_84 ?_)
    dsimp only [bX10_takeInside_0, bX10_takeInside_21, bX10_takeInside_35, bX10_takeInside_46, bX10_takeInside_53, bX10_takeInside_74, bX10_takeInside_83, bX10_takeInside_84, o_add, o_ald, o_ceq, o_cge, o_dup, o_gf, o_ial, o_ias, o_ic, o_ild, o_iret, o_ist, o_pf, o_sub, o_v2, o_zle, tk, lget, lput, lkill, lmask, ol, flM_0_0, flM_0_1, flM_0_2, flM_0_3, flM_0_4, flM_0_5, flM_0_6, flM_0_7, flM_0_8, flM_0_9, flM_0_10, flM_0_11, flM_0_12, flM_0_13, flM_0_14, flM_0_15, flM_0_16, flM_0_17, flM_0_18, flM_0_19, flM_0_20, flM_0_21, flM_0_22, flM_0_23, flM_0_24, flM_0_25, flM_0_26, flM_0_27, flM_0_28, flM_0_29, flM_0_30, flM_0_31, flM_0_32, flM_0_33, flM_0_34, flM_0_35, flM_0_36, flM_0_37, flM_0_38, flM_0_39, flM_0_40, flM_0_41, arM_1, arM_2, arM_3, arM_4, arM_5, arM_6, arM_7, arM_8, arM_9, arM_10, arM_11, arM_12, arM_13, arM_14, arM_15, arM_16, arM_17, arM_18, arM_19, arM_20, arM_21, arM_22, arM_23, arM_24, arM_25]
    try simp only [up, upL, rp, sf, cpy, Nat.reduceEqDiff, reduceIte, Int.reduceNeg, Int.reduceLE, Int.reduceLT, Int.reduceEq, Int.reduceAdd, Int.reduceSub, Int.reduceMul, ne_eq, not_true_eq_false, not_false_eq_true, true_and, and_true, and_self, false_implies, true_implies, implies_true, forall_const, Nat.reduceAdd, Int.add_zero, Int.zero_add, true_or, or_true, false_or, or_false, List.length_nil, List.length_cons]
    rw [c19]
    have hF2 := FM_rp hF hc
    refine ⟨rfl, c_takeNumber (TXM_F hT hF2) (show 0 ≤ c 15 by omega) (show c 15 ≤ n by omega) (by omega) (by omega) (fun z q h2 d hd d14 => ?_) (fun b q2 e2 h2 d hd d14 d15 d16 d17 => ?_)⟩
    · have h2 : rdN T n 0 (D 0 1 - 1) (c 15) = .inl (z, q) := h2
      rw [c15] at h2
      have hz2 := rdN_bad (by omega) h2
      exact b46 _ _ _ (by omega) (hb z q (by unfold tkI2; rw [h2]) (by omega) _ (FM_rp hF2 hd) d14)
    · have h2 : rdN T n 0 (D 0 1 - 1) (c 15) = .inr (b, q2, e2) := h2
      rw [c15] at h2
      have hz2 := rdN_ok (by omega) h2
      have e3 : tkI2 T n D a e = if b ≤ a ∨ D 5 b ≠ -1 then .inl (4, q2) else .inr (addi D a b, e2) := by unfold tkI2; rw [h2]
      rw [e3] at hb ho
      have ob := (hD.2.2.2.2.1 b (by omega) (by omega)).2.2.2.2
      have o5 := (hO.1.2.2.2.2.2.1 b (by omega) (by omega)).2.2.2.2
      have hF3 := FM_rp hF2 hd
      have bad : (b ≤ a ∨ D 5 b ≠ -1) → Tf l X shM 2 mX10_takeInside Q 74 [some (vR 0), none, none] [] (rp (rp (up f 0 25 (D 0 7 + 1)) 0 c) 0 d, u) := by
        intro hh
        rw [if_pos hh] at hb
        (first | refine BX10_takeInside_0 ?_ | refine BX10_takeInside_21 ?_ | refine BX10_takeInside_35 ?_ | refine BX10_takeInside_46 ?_ | refine BX10_takeInside_53 ?_ | refine BX10_takeInside_74 ?_ | refine BX10_takeInside_83 ?_ | refine BX10_takeInside_84 ?_)
        dsimp only [bX10_takeInside_0, bX10_takeInside_21, bX10_takeInside_35, bX10_takeInside_46, bX10_takeInside_53, bX10_takeInside_74, bX10_takeInside_83, bX10_takeInside_84, o_add, o_ald, o_ceq, o_cge, o_dup, o_gf, o_ial, o_ias, o_ic, o_ild, o_iret, o_ist, o_pf, o_sub, o_v2, o_zle, tk, lget, lput, lkill, lmask, ol, flM_0_0, flM_0_1, flM_0_2, flM_0_3, flM_0_4, flM_0_5, flM_0_6, flM_0_7, flM_0_8, flM_0_9, flM_0_10, flM_0_11, flM_0_12, flM_0_13, flM_0_14, flM_0_15, flM_0_16, flM_0_17, flM_0_18, flM_0_19, flM_0_20, flM_0_21, flM_0_22, flM_0_23, flM_0_24, flM_0_25, flM_0_26, flM_0_27, flM_0_28, flM_0_29, flM_0_30, flM_0_31, flM_0_32, flM_0_33, flM_0_34, flM_0_35, flM_0_36, flM_0_37, flM_0_38, flM_0_39, flM_0_40, flM_0_41, arM_1, arM_2, arM_3, arM_4, arM_5, arM_6, arM_7, arM_8, arM_9, arM_10, arM_11, arM_12, arM_13, arM_14, arM_15, arM_16, arM_17, arM_18, arM_19, arM_20, arM_21, arM_22, arM_23, arM_24, arM_25]
        try simp only [up, upL, rp, sf, cpy, Nat.reduceEqDiff, reduceIte, Int.reduceNeg, Int.reduceLE, Int.reduceLT, Int.reduceEq, Int.reduceAdd, Int.reduceSub, Int.reduceMul, ne_eq, not_true_eq_false, not_false_eq_true, true_and, and_true, and_self, false_implies, true_implies, implies_true, forall_const, Nat.reduceAdd, Int.add_zero, Int.zero_add, true_or, or_true, false_or, or_false, List.length_nil, List.length_cons]
        rw [d17]
        refine ⟨rfl, c_fails ?_⟩
        (first | refine BX10_takeInside_0 ?_ | refine BX10_takeInside_21 ?_ | refine BX10_takeInside_35 ?_ | refine BX10_takeInside_46 ?_ | refine BX10_takeInside_53 ?_ | refine BX10_takeInside_74 ?_ | refine BX10_takeInside_83 ?_ | refine BX10_takeInside_84 ?_)
        dsimp only [bX10_takeInside_0, bX10_takeInside_21, bX10_takeInside_35, bX10_takeInside_46, bX10_takeInside_53, bX10_takeInside_74, bX10_takeInside_83, bX10_takeInside_84, o_add, o_ald, o_ceq, o_cge, o_dup, o_gf, o_ial, o_ias, o_ic, o_ild, o_iret, o_ist, o_pf, o_sub, o_v2, o_zle, tk, lget, lput, lkill, lmask, ol, flM_0_0, flM_0_1, flM_0_2, flM_0_3, flM_0_4, flM_0_5, flM_0_6, flM_0_7, flM_0_8, flM_0_9, flM_0_10, flM_0_11, flM_0_12, flM_0_13, flM_0_14, flM_0_15, flM_0_16, flM_0_17, flM_0_18, flM_0_19, flM_0_20, flM_0_21, flM_0_22, flM_0_23, flM_0_24, flM_0_25, flM_0_26, flM_0_27, flM_0_28, flM_0_29, flM_0_30, flM_0_31, flM_0_32, flM_0_33, flM_0_34, flM_0_35, flM_0_36, flM_0_37, flM_0_38, flM_0_39, flM_0_40, flM_0_41, arM_1, arM_2, arM_3, arM_4, arM_5, arM_6, arM_7, arM_8, arM_9, arM_10, arM_11, arM_12, arM_13, arM_14, arM_15, arM_16, arM_17, arM_18, arM_19, arM_20, arM_21, arM_22, arM_23, arM_24, arM_25]
        try simp only [up, upL, rp, sf, cpy, Nat.reduceEqDiff, reduceIte, Int.reduceNeg, Int.reduceLE, Int.reduceLT, Int.reduceEq, Int.reduceAdd, Int.reduceSub, Int.reduceMul, ne_eq, not_true_eq_false, not_false_eq_true, true_and, and_true, and_self, false_implies, true_implies, implies_true, forall_const, Nat.reduceAdd, Int.add_zero, Int.zero_add, true_or, or_true, false_or, or_false, List.length_nil, List.length_cons]
        refine hb 4 q2 rfl (by omega) _ (FM_rp hF3 (fun k hk => ?_)) rfl
        show (if k = 14 then _ else _) = _
        rw [if_neg (by omega)]
      (first | refine BX10_takeInside_0 ?_ | refine BX10_takeInside_21 ?_ | refine BX10_takeInside_35 ?_ | refine BX10_takeInside_46 ?_ | refine BX10_takeInside_53 ?_ | refine BX10_takeInside_74 ?_ | refine BX10_takeInside_83 ?_ | refine BX10_takeInside_84 ?_)
      dsimp only [bX10_takeInside_0, bX10_takeInside_21, bX10_takeInside_35, bX10_takeInside_46, bX10_takeInside_53, bX10_takeInside_74, bX10_takeInside_83, bX10_takeInside_84, o_add, o_ald, o_ceq, o_cge, o_dup, o_gf, o_ial, o_ias, o_ic, o_ild, o_iret, o_ist, o_pf, o_sub, o_v2, o_zle, tk, lget, lput, lkill, lmask, ol, flM_0_0, flM_0_1, flM_0_2, flM_0_3, flM_0_4, flM_0_5, flM_0_6, flM_0_7, flM_0_8, flM_0_9, flM_0_10, flM_0_11, flM_0_12, flM_0_13, flM_0_14, flM_0_15, flM_0_16, flM_0_17, flM_0_18, flM_0_19, flM_0_20, flM_0_21, flM_0_22, flM_0_23, flM_0_24, flM_0_25, flM_0_26, flM_0_27, flM_0_28, flM_0_29, flM_0_30, flM_0_31, flM_0_32, flM_0_33, flM_0_34, flM_0_35, flM_0_36, flM_0_37, flM_0_38, flM_0_39, flM_0_40, flM_0_41, arM_1, arM_2, arM_3, arM_4, arM_5, arM_6, arM_7, arM_8, arM_9, arM_10, arM_11, arM_12, arM_13, arM_14, arM_15, arM_16, arM_17, arM_18, arM_19, arM_20, arM_21, arM_22, arM_23, arM_24, arM_25]
      try simp only [up, upL, rp, sf, cpy, Nat.reduceEqDiff, reduceIte, Int.reduceNeg, Int.reduceLE, Int.reduceLT, Int.reduceEq, Int.reduceAdd, Int.reduceSub, Int.reduceMul, ne_eq, not_true_eq_false, not_false_eq_true, true_and, and_true, and_self, false_implies, true_implies, implies_true, forall_const, Nat.reduceAdd, Int.add_zero, Int.zero_add, true_or, or_true, false_or, or_false, List.length_nil, List.length_cons]
      (first | refine BX10_takeInside_0 ?_ | refine BX10_takeInside_21 ?_ | refine BX10_takeInside_35 ?_ | refine BX10_takeInside_46 ?_ | refine BX10_takeInside_53 ?_ | refine BX10_takeInside_74 ?_ | refine BX10_takeInside_83 ?_ | refine BX10_takeInside_84 ?_)
      dsimp only [bX10_takeInside_0, bX10_takeInside_21, bX10_takeInside_35, bX10_takeInside_46, bX10_takeInside_53, bX10_takeInside_74, bX10_takeInside_83, bX10_takeInside_84, o_add, o_ald, o_ceq, o_cge, o_dup, o_gf, o_ial, o_ias, o_ic, o_ild, o_iret, o_ist, o_pf, o_sub, o_v2, o_zle, tk, lget, lput, lkill, lmask, ol, flM_0_0, flM_0_1, flM_0_2, flM_0_3, flM_0_4, flM_0_5, flM_0_6, flM_0_7, flM_0_8, flM_0_9, flM_0_10, flM_0_11, flM_0_12, flM_0_13, flM_0_14, flM_0_15, flM_0_16, flM_0_17, flM_0_18, flM_0_19, flM_0_20, flM_0_21, flM_0_22, flM_0_23, flM_0_24, flM_0_25, flM_0_26, flM_0_27, flM_0_28, flM_0_29, flM_0_30, flM_0_31, flM_0_32, flM_0_33, flM_0_34, flM_0_35, flM_0_36, flM_0_37, flM_0_38, flM_0_39, flM_0_40, flM_0_41, arM_1, arM_2, arM_3, arM_4, arM_5, arM_6, arM_7, arM_8, arM_9, arM_10, arM_11, arM_12, arM_13, arM_14, arM_15, arM_16, arM_17, arM_18, arM_19, arM_20, arM_21, arM_22, arM_23, arM_24, arM_25]
      try simp only [up, upL, rp, sf, cpy, Nat.reduceEqDiff, reduceIte, Int.reduceNeg, Int.reduceLE, Int.reduceLT, Int.reduceEq, Int.reduceAdd, Int.reduceSub, Int.reduceMul, ne_eq, not_true_eq_false, not_false_eq_true, true_and, and_true, and_self, false_implies, true_implies, implies_true, forall_const, Nat.reduceAdd, Int.add_zero, Int.zero_add, true_or, or_true, false_or, or_false, List.length_nil, List.length_cons]
      rw [d16, ob]
      refine ⟨by omega, by omega, fun h6 => bad (Or.inl h6), fun h6 => ⟨by omega, by omega, fun h7 => ?_, fun h7 => bad (Or.inr h7)⟩⟩
      rw [if_neg (by omega)] at hb ho
      (first | refine BX10_takeInside_0 ?_ | refine BX10_takeInside_21 ?_ | refine BX10_takeInside_35 ?_ | refine BX10_takeInside_46 ?_ | refine BX10_takeInside_53 ?_ | refine BX10_takeInside_74 ?_ | refine BX10_takeInside_83 ?_ | refine BX10_takeInside_84 ?_)
      dsimp only [bX10_takeInside_0, bX10_takeInside_21, bX10_takeInside_35, bX10_takeInside_46, bX10_takeInside_53, bX10_takeInside_74, bX10_takeInside_83, bX10_takeInside_84, o_add, o_ald, o_ceq, o_cge, o_dup, o_gf, o_ial, o_ias, o_ic, o_ild, o_iret, o_ist, o_pf, o_sub, o_v2, o_zle, tk, lget, lput, lkill, lmask, ol, flM_0_0, flM_0_1, flM_0_2, flM_0_3, flM_0_4, flM_0_5, flM_0_6, flM_0_7, flM_0_8, flM_0_9, flM_0_10, flM_0_11, flM_0_12, flM_0_13, flM_0_14, flM_0_15, flM_0_16, flM_0_17, flM_0_18, flM_0_19, flM_0_20, flM_0_21, flM_0_22, flM_0_23, flM_0_24, flM_0_25, flM_0_26, flM_0_27, flM_0_28, flM_0_29, flM_0_30, flM_0_31, flM_0_32, flM_0_33, flM_0_34, flM_0_35, flM_0_36, flM_0_37, flM_0_38, flM_0_39, flM_0_40, flM_0_41, arM_1, arM_2, arM_3, arM_4, arM_5, arM_6, arM_7, arM_8, arM_9, arM_10, arM_11, arM_12, arM_13, arM_14, arM_15, arM_16, arM_17, arM_18, arM_19, arM_20, arM_21, arM_22, arM_23, arM_24, arM_25]
      try simp only [up, upL, rp, sf, cpy, Nat.reduceEqDiff, reduceIte, Int.reduceNeg, Int.reduceLE, Int.reduceLT, Int.reduceEq, Int.reduceAdd, Int.reduceSub, Int.reduceMul, ne_eq, not_true_eq_false, not_false_eq_true, true_and, and_true, and_self, false_implies, true_implies, implies_true, forall_const, Nat.reduceAdd, Int.add_zero, Int.zero_add, true_or, or_true, false_or, or_false, List.length_nil, List.length_cons]
      rw [d16]
      refine ⟨by omega, ?_⟩
      refine ho _ _ rfl (by omega) _ (FM_up hF3 (by omega) (by omega)) ?_ (d14.trans c14) d15
      refine ⟨((hd 18 (by omega)).trans (hc 18 (by omega))).trans hD.1, ((hd 19 (by omega)).trans (hc 19 (by omega))).trans hD.2.1, ((hd 26 (by omega)).trans (hc 26 (by omega))).trans hD.2.2.1, (hd 25 (by omega)).trans (hc 25 (by omega)), fun r r0 r1 => ?_, hD.2.2.2.2.2⟩
      have r1 : r < D 0 1 := r1
      have hh := hD.2.2.2.2.1 r r0 r1
      refine ⟨hh.1, hh.2.1, hh.2.2.1, hh.2.2.2.1, ?_⟩
      show (if r = b then a else f 13 r) = (if r = b then a else D 5 r)
      by_cases hr : r = b
      · rw [if_pos hr, if_pos hr]
      · rw [if_neg hr, if_neg hr]; exact hh.2.2.2.2
def BW (f' f : Nat → Int → Int) (b : Int) : Prop := FM f' f ∧ f' 0 14 = f 0 14 ∧ f' 0 18 = f 0 18 ∧ f' 0 19 = b + 1 ∧ f' 0 25 = f 0 25 ∧ f' 0 26 = f 0 26 ∧ f' 14 = f 14 ∧ f' 13 b = -1 ∧ (∀ k, 9 ≤ k → k ≤ 13 → ∀ i, i ≠ b → f' k i = f k i)
theorem BW_into {f' f : Nat → Int → Int} {c : Int → Int} {b v : Int} {a : Nat} (h : BW f' f b) (hc : RM c (f' 0)) (c14 : c 14 = f' 0 14) (a0 : 9 ≤ a) (a1 : a ≤ 12) : BW (up (rp f' 0 c) a b v) f b := by
  obtain ⟨h1, h2, h3, h4, h5, h6, h7, h8, h9⟩ := h
  have e0 : up (rp f' 0 c) a b v 0 = c := by rw [up_to, rp_ne (by omega), rp_k]
  refine ⟨FM_up (FM_rp h1 hc) a0 (by omega), ?_, ?_, ?_, ?_, ?_, ?_, ?_, fun k k0 k1 i hi => ?_⟩
  · rw [e0]; exact c14.trans h2
  · rw [e0]; exact (hc 18 (by omega)).trans h3
  · rw [e0]; exact (hc 19 (by omega)).trans h4
  · rw [e0]; exact (hc 25 (by omega)).trans h5
  · rw [e0]; exact (hc 26 (by omega)).trans h6
  · rw [up_to, rp_ne (by omega), rp_ne (by omega)]; exact h7
  · rw [up_to, rp_ne (by omega), rp_ne (by omega)]; exact h8
  · rw [up_to]
    by_cases hk : k = a
    · subst hk
      rw [rp_k, rp_ne (by omega)]
      show (if i = b then v else f' k i) = _
      rw [if_neg hi]
      exact h9 k k0 k1 i hi
    · rw [rp_ne hk, rp_ne (by omega)]
      exact h9 k k0 k1 i hi
theorem c_takeBox {l : Launch} {X : Cx} {Q : Qt} {f : Nat → Int → Int} {u T : Int → Int} {n : Int} {D : Nat → Int → Int} (hT : TXM f T n) (hD : DM f D) (hO : OkD D) (h7 : D 0 1 ≠ 7) (p0 : 0 ≤ f 0 15) (p1 : f 0 15 ≤ n) (hb : HBM n f u Q (tkB T n D (f 0 15))) (ho : HOM n f u Q (tkB T n D (f 0 15))) : TM l X shM 3 mX10_takeBox [vR 0] (f, u) Q := by
  have hB := hO.1.2.1
  have e19 := hD.2.1
  have b102 : ∀ (M : Me) (z : Int), Q (some (vI z)) M → Tf l X shM 3 mX10_takeBox Q 102 [none, none, none] [vI z] M := by
    intro M z q
    (first | refine BX10_takeBox_0 ?_ | refine BX10_takeBox_34 ?_ | refine BX10_takeBox_43 ?_ | refine BX10_takeBox_61 ?_ | refine BX10_takeBox_70 ?_ | refine BX10_takeBox_82 ?_ | refine BX10_takeBox_91 ?_ | refine BX10_takeBox_102 ?_)
    dsimp only [bX10_takeBox_0, bX10_takeBox_34, bX10_takeBox_43, bX10_takeBox_61, bX10_takeBox_70, bX10_takeBox_82, bX10_takeBox_91, bX10_takeBox_102, o_add, o_ald, o_dup, o_gf, o_ial, o_ias, o_ic, o_ild, o_iret, o_ist, o_pf, o_sub, o_v4, o_zle, tk, lget, lput, lkill, lmask, ol, flM_0_0, flM_0_1, flM_0_2, flM_0_3, flM_0_4, flM_0_5, flM_0_6, flM_0_7, flM_0_8, flM_0_9, flM_0_10, flM_0_11, flM_0_12, flM_0_13, flM_0_14, flM_0_15, flM_0_16, flM_0_17, flM_0_18, flM_0_19, flM_0_20, flM_0_21, flM_0_22, flM_0_23, flM_0_24, flM_0_25, flM_0_26, flM_0_27, flM_0_28, flM_0_29, flM_0_30, flM_0_31, flM_0_32, flM_0_33, flM_0_34, flM_0_35, flM_0_36, flM_0_37, flM_0_38, flM_0_39, flM_0_40, flM_0_41, arM_1, arM_2, arM_3, arM_4, arM_5, arM_6, arM_7, arM_8, arM_9, arM_10, arM_11, arM_12, arM_13, arM_14, arM_15, arM_16, arM_17, arM_18, arM_19, arM_20, arM_21, arM_22, arM_23, arM_24, arM_25]
    try simp only [up, upL, rp, sf, cpy, Nat.reduceEqDiff, reduceIte, Int.reduceNeg, Int.reduceLE, Int.reduceLT, Int.reduceEq, Int.reduceAdd, Int.reduceSub, Int.reduceMul, ne_eq, not_true_eq_false, not_false_eq_true, true_and, and_true, and_self, false_implies, true_implies, implies_true, forall_const, Nat.reduceAdd, Int.add_zero, Int.zero_add, true_or, or_true, false_or, or_false, List.length_nil, List.length_cons]
    exact q
  have b82 : ∀ (M : Me) (z : Int), (1 ≤ z ∧ z ≤ 4) → Q (some (vI z)) M → Tf l X shM 3 mX10_takeBox Q 82 [some (vR 0), some (vI (D 0 1)), none] [vI z] M := by
    intro M z hz q
    (first | refine BX10_takeBox_0 ?_ | refine BX10_takeBox_34 ?_ | refine BX10_takeBox_43 ?_ | refine BX10_takeBox_61 ?_ | refine BX10_takeBox_70 ?_ | refine BX10_takeBox_82 ?_ | refine BX10_takeBox_91 ?_ | refine BX10_takeBox_102 ?_)
    dsimp only [bX10_takeBox_0, bX10_takeBox_34, bX10_takeBox_43, bX10_takeBox_61, bX10_takeBox_70, bX10_takeBox_82, bX10_takeBox_91, bX10_takeBox_102, o_add, o_ald, o_dup, o_gf, o_ial, o_ias, o_ic, o_ild, o_iret, o_ist, o_pf, o_sub, o_v4, o_zle, tk, lget, lput, lkill, lmask, ol, flM_0_0, flM_0_1, flM_0_2, flM_0_3, flM_0_4, flM_0_5, flM_0_6, flM_0_7, flM_0_8, flM_0_9, flM_0_10, flM_0_11, flM_0_12, flM_0_13, flM_0_14, flM_0_15, flM_0_16, flM_0_17, flM_0_18, flM_0_19, flM_0_20, flM_0_21, flM_0_22, flM_0_23, flM_0_24, flM_0_25, flM_0_26, flM_0_27, flM_0_28, flM_0_29, flM_0_30, flM_0_31, flM_0_32, flM_0_33, flM_0_34, flM_0_35, flM_0_36, flM_0_37, flM_0_38, flM_0_39, flM_0_40, flM_0_41, arM_1, arM_2, arM_3, arM_4, arM_5, arM_6, arM_7, arM_8, arM_9, arM_10, arM_11, arM_12, arM_13, arM_14, arM_15, arM_16, arM_17, arM_18, arM_19, arM_20, arM_21, arM_22, arM_23, arM_24, arM_25]
    try simp only [up, upL, rp, sf, cpy, Nat.reduceEqDiff, reduceIte, Int.reduceNeg, Int.reduceLE, Int.reduceLT, Int.reduceEq, Int.reduceAdd, Int.reduceSub, Int.reduceMul, ne_eq, not_true_eq_false, not_false_eq_true, true_and, and_true, and_self, false_implies, true_implies, implies_true, forall_const, Nat.reduceAdd, Int.add_zero, Int.zero_add, true_or, or_true, false_or, or_false, List.length_nil, List.length_cons]
    exact ⟨by omega, fun h => absurd h (by omega), fun h => b102 _ _ q⟩
  have b61 : ∀ (M : Me) (z : Int), (1 ≤ z ∧ z ≤ 4) → Q (some (vI z)) M → Tf l X shM 3 mX10_takeBox Q 61 [some (vR 0), some (vI (D 0 1)), none] [vI z] M := by
    intro M z hz q
    (first | refine BX10_takeBox_0 ?_ | refine BX10_takeBox_34 ?_ | refine BX10_takeBox_43 ?_ | refine BX10_takeBox_61 ?_ | refine BX10_takeBox_70 ?_ | refine BX10_takeBox_82 ?_ | refine BX10_takeBox_91 ?_ | refine BX10_takeBox_102 ?_)
    dsimp only [bX10_takeBox_0, bX10_takeBox_34, bX10_takeBox_43, bX10_takeBox_61, bX10_takeBox_70, bX10_takeBox_82, bX10_takeBox_91, bX10_takeBox_102, o_add, o_ald, o_dup, o_gf, o_ial, o_ias, o_ic, o_ild, o_iret, o_ist, o_pf, o_sub, o_v4, o_zle, tk, lget, lput, lkill, lmask, ol, flM_0_0, flM_0_1, flM_0_2, flM_0_3, flM_0_4, flM_0_5, flM_0_6, flM_0_7, flM_0_8, flM_0_9, flM_0_10, flM_0_11, flM_0_12, flM_0_13, flM_0_14, flM_0_15, flM_0_16, flM_0_17, flM_0_18, flM_0_19, flM_0_20, flM_0_21, flM_0_22, flM_0_23, flM_0_24, flM_0_25, flM_0_26, flM_0_27, flM_0_28, flM_0_29, flM_0_30, flM_0_31, flM_0_32, flM_0_33, flM_0_34, flM_0_35, flM_0_36, flM_0_37, flM_0_38, flM_0_39, flM_0_40, flM_0_41, arM_1, arM_2, arM_3, arM_4, arM_5, arM_6, arM_7, arM_8, arM_9, arM_10, arM_11, arM_12, arM_13, arM_14, arM_15, arM_16, arM_17, arM_18, arM_19, arM_20, arM_21, arM_22, arM_23, arM_24, arM_25]
    try simp only [up, upL, rp, sf, cpy, Nat.reduceEqDiff, reduceIte, Int.reduceNeg, Int.reduceLE, Int.reduceLT, Int.reduceEq, Int.reduceAdd, Int.reduceSub, Int.reduceMul, ne_eq, not_true_eq_false, not_false_eq_true, true_and, and_true, and_self, false_implies, true_implies, implies_true, forall_const, Nat.reduceAdd, Int.add_zero, Int.zero_add, true_or, or_true, false_or, or_false, List.length_nil, List.length_cons]
    exact ⟨by omega, fun h => absurd h (by omega), fun h => b82 _ _ hz q⟩
  have b34 : ∀ (M : Me) (z : Int), (1 ≤ z ∧ z ≤ 4) → Q (some (vI z)) M → Tf l X shM 3 mX10_takeBox Q 34 [some (vR 0), some (vI (D 0 1)), none] [vI z] M := by
    intro M z hz q
    (first | refine BX10_takeBox_0 ?_ | refine BX10_takeBox_34 ?_ | refine BX10_takeBox_43 ?_ | refine BX10_takeBox_61 ?_ | refine BX10_takeBox_70 ?_ | refine BX10_takeBox_82 ?_ | refine BX10_takeBox_91 ?_ | refine BX10_takeBox_102 ?_)
    dsimp only [bX10_takeBox_0, bX10_takeBox_34, bX10_takeBox_43, bX10_takeBox_61, bX10_takeBox_70, bX10_takeBox_82, bX10_takeBox_91, bX10_takeBox_102, o_add, o_ald, o_dup, o_gf, o_ial, o_ias, o_ic, o_ild, o_iret, o_ist, o_pf, o_sub, o_v4, o_zle, tk, lget, lput, lkill, lmask, ol, flM_0_0, flM_0_1, flM_0_2, flM_0_3, flM_0_4, flM_0_5, flM_0_6, flM_0_7, flM_0_8, flM_0_9, flM_0_10, flM_0_11, flM_0_12, flM_0_13, flM_0_14, flM_0_15, flM_0_16, flM_0_17, flM_0_18, flM_0_19, flM_0_20, flM_0_21, flM_0_22, flM_0_23, flM_0_24, flM_0_25, flM_0_26, flM_0_27, flM_0_28, flM_0_29, flM_0_30, flM_0_31, flM_0_32, flM_0_33, flM_0_34, flM_0_35, flM_0_36, flM_0_37, flM_0_38, flM_0_39, flM_0_40, flM_0_41, arM_1, arM_2, arM_3, arM_4, arM_5, arM_6, arM_7, arM_8, arM_9, arM_10, arM_11, arM_12, arM_13, arM_14, arM_15, arM_16, arM_17, arM_18, arM_19, arM_20, arM_21, arM_22, arM_23, arM_24, arM_25]
    try simp only [up, upL, rp, sf, cpy, Nat.reduceEqDiff, reduceIte, Int.reduceNeg, Int.reduceLE, Int.reduceLT, Int.reduceEq, Int.reduceAdd, Int.reduceSub, Int.reduceMul, ne_eq, not_true_eq_false, not_false_eq_true, true_and, and_true, and_self, false_implies, true_implies, implies_true, forall_const, Nat.reduceAdd, Int.add_zero, Int.zero_add, true_or, or_true, false_or, or_false, List.length_nil, List.length_cons]
    exact ⟨by omega, fun h => absurd h (by omega), fun h => b61 _ _ hz q⟩
  have s91 : ∀ (g : Nat → Int → Int) (t h s p : Int), BW g f (D 0 1) → g 9 (D 0 1) = t → g 10 (D 0 1) = h → g 11 (D 0 1) = s → g 0 15 = p → 0 ≤ p → p ≤ n → HBM n f u Q (tkB4 T n D t h s p) → HOM n f u Q (tkB4 T n D t h s p) → Tf l X shM 3 mX10_takeBox Q 91 [some (vR 0), some (vI (D 0 1)), none] [] (g, u) := by
    intro g t h s p hg g9 g10 g11 g15 p0 p1 hb ho
    (first | refine BX10_takeBox_0 ?_ | refine BX10_takeBox_34 ?_ | refine BX10_takeBox_43 ?_ | refine BX10_takeBox_61 ?_ | refine BX10_takeBox_70 ?_ | refine BX10_takeBox_82 ?_ | refine BX10_takeBox_91 ?_ | refine BX10_takeBox_102 ?_)
    dsimp only [bX10_takeBox_0, bX10_takeBox_34, bX10_takeBox_43, bX10_takeBox_61, bX10_takeBox_70, bX10_takeBox_82, bX10_takeBox_91, bX10_takeBox_102, o_add, o_ald, o_dup, o_gf, o_ial, o_ias, o_ic, o_ild, o_iret, o_ist, o_pf, o_sub, o_v4, o_zle, tk, lget, lput, lkill, lmask, ol, flM_0_0, flM_0_1, flM_0_2, flM_0_3, flM_0_4, flM_0_5, flM_0_6, flM_0_7, flM_0_8, flM_0_9, flM_0_10, flM_0_11, flM_0_12, flM_0_13, flM_0_14, flM_0_15, flM_0_16, flM_0_17, flM_0_18, flM_0_19, flM_0_20, flM_0_21, flM_0_22, flM_0_23, flM_0_24, flM_0_25, flM_0_26, flM_0_27, flM_0_28, flM_0_29, flM_0_30, flM_0_31, flM_0_32, flM_0_33, flM_0_34, flM_0_35, flM_0_36, flM_0_37, flM_0_38, flM_0_39, flM_0_40, flM_0_41, arM_1, arM_2, arM_3, arM_4, arM_5, arM_6, arM_7, arM_8, arM_9, arM_10, arM_11, arM_12, arM_13, arM_14, arM_15, arM_16, arM_17, arM_18, arM_19, arM_20, arM_21, arM_22, arM_23, arM_24, arM_25]
    try simp only [up, upL, rp, sf, cpy, Nat.reduceEqDiff, reduceIte, Int.reduceNeg, Int.reduceLE, Int.reduceLT, Int.reduceEq, Int.reduceAdd, Int.reduceSub, Int.reduceMul, ne_eq, not_true_eq_false, not_false_eq_true, true_and, and_true, and_self, false_implies, true_implies, implies_true, forall_const, Nat.reduceAdd, Int.add_zero, Int.zero_add, true_or, or_true, false_or, or_false, List.length_nil, List.length_cons]
    refine ⟨rfl, c_into arM_12 (by omega) (by omega) (TXM_F hT hg.1) (by omega) (by omega) (by omega) (by omega) (fun z q hh c v hc c14 => ?_) (fun v q e hh c hc c14 c15 => ?_)⟩
    · rw [g15] at hh
      have hz := rdN_bad p1 hh
      exact b102 _ _ (hb z q (by unfold tkB4; rw [hh]) (by omega) _ (FM_up (FM_rp hg.1 hc) (by omega) (by omega)) c14)
    · rw [g15] at hh
      have hz := rdN_ok p1 hh
      have hw := BW_into (v := v) hg hc c14 (show 9 ≤ 12 by omega) (by omega)
      refine b102 _ _ (ho _ _ (by unfold tkB4; rw [hh]) (by omega) _ hw.1 ?_ hw.2.1 c15)
      obtain ⟨w1, w2, w3, w4, w5, w6, w7, w8, w9⟩ := hw
      refine ⟨w3.trans hD.1, w4, w6.trans hD.2.2.1, w5.trans hD.2.2.2.1, fun r r0 r1 => ?_, fun r r0 r1 => ?_⟩
      · have r1 : r < D 0 1 + 1 := r1
        show g 9 r = (if r = D 0 1 then t else D 1 r) ∧ g 10 r = (if r = D 0 1 then h else D 2 r) ∧ g 11 r = (if r = D 0 1 then s else D 3 r) ∧ (if r = D 0 1 then v else g 12 r) = (if r = D 0 1 then v else D 4 r) ∧ g 13 r = (if r = D 0 1 then -1 else D 5 r)
        by_cases hr : r = D 0 1
        · simp only [if_pos hr]
          rw [hr]
          exact ⟨g9, g10, g11, trivial, hg.2.2.2.2.2.2.2.1⟩
        · simp only [if_neg hr]
          have h9 := hg.2.2.2.2.2.2.2.2
          have hd := hD.2.2.2.2.1 r r0 (by omega)
          exact ⟨(h9 9 (by omega) (by omega) r hr).trans hd.1, (h9 10 (by omega) (by omega) r hr).trans hd.2.1, (h9 11 (by omega) (by omega) r hr).trans hd.2.2.1, (h9 12 (by omega) (by omega) r hr).trans hd.2.2.2.1, (h9 13 (by omega) (by omega) r hr).trans hd.2.2.2.2⟩
      · rw [w7]
        exact hD.2.2.2.2.2 r r0 r1
  have s70 : ∀ (g : Nat → Int → Int) (t h p : Int), BW g f (D 0 1) → g 9 (D 0 1) = t → g 10 (D 0 1) = h → g 0 15 = p → 0 ≤ p → p ≤ n → HBM n f u Q (tkB3 T n D t h p) → HOM n f u Q (tkB3 T n D t h p) → Tf l X shM 3 mX10_takeBox Q 70 [some (vR 0), some (vI (D 0 1)), none] [] (g, u) := by
    intro g t h p hg g9 g10 g15 p0 p1 hb ho
    (first | refine BX10_takeBox_0 ?_ | refine BX10_takeBox_34 ?_ | refine BX10_takeBox_43 ?_ | refine BX10_takeBox_61 ?_ | refine BX10_takeBox_70 ?_ | refine BX10_takeBox_82 ?_ | refine BX10_takeBox_91 ?_ | refine BX10_takeBox_102 ?_)
    dsimp only [bX10_takeBox_0, bX10_takeBox_34, bX10_takeBox_43, bX10_takeBox_61, bX10_takeBox_70, bX10_takeBox_82, bX10_takeBox_91, bX10_takeBox_102, o_add, o_ald, o_dup, o_gf, o_ial, o_ias, o_ic, o_ild, o_iret, o_ist, o_pf, o_sub, o_v4, o_zle, tk, lget, lput, lkill, lmask, ol, flM_0_0, flM_0_1, flM_0_2, flM_0_3, flM_0_4, flM_0_5, flM_0_6, flM_0_7, flM_0_8, flM_0_9, flM_0_10, flM_0_11, flM_0_12, flM_0_13, flM_0_14, flM_0_15, flM_0_16, flM_0_17, flM_0_18, flM_0_19, flM_0_20, flM_0_21, flM_0_22, flM_0_23, flM_0_24, flM_0_25, flM_0_26, flM_0_27, flM_0_28, flM_0_29, flM_0_30, flM_0_31, flM_0_32, flM_0_33, flM_0_34, flM_0_35, flM_0_36, flM_0_37, flM_0_38, flM_0_39, flM_0_40, flM_0_41, arM_1, arM_2, arM_3, arM_4, arM_5, arM_6, arM_7, arM_8, arM_9, arM_10, arM_11, arM_12, arM_13, arM_14, arM_15, arM_16, arM_17, arM_18, arM_19, arM_20, arM_21, arM_22, arM_23, arM_24, arM_25]
    try simp only [up, upL, rp, sf, cpy, Nat.reduceEqDiff, reduceIte, Int.reduceNeg, Int.reduceLE, Int.reduceLT, Int.reduceEq, Int.reduceAdd, Int.reduceSub, Int.reduceMul, ne_eq, not_true_eq_false, not_false_eq_true, true_and, and_true, and_self, false_implies, true_implies, implies_true, forall_const, Nat.reduceAdd, Int.add_zero, Int.zero_add, true_or, or_true, false_or, or_false, List.length_nil, List.length_cons]
    refine ⟨rfl, c_into arM_11 (by omega) (by omega) (TXM_F hT hg.1) (by omega) (by omega) (by omega) (by omega) (fun z q hh c v hc c14 => ?_) (fun v q e hh c hc c14 c15 => ?_)⟩
    · rw [g15] at hh
      have hz := rdN_bad p1 hh
      exact b82 _ _ (by omega) (hb z q (by unfold tkB3; rw [hh]) (by omega) _ (FM_up (FM_rp hg.1 hc) (by omega) (by omega)) c14)
    · rw [g15] at hh
      have hz := rdN_ok p1 hh
      have hw := BW_into (v := v) hg hc c14 (show 9 ≤ 11 by omega) (by omega)
      have e2 : tkB3 T n D t h p = tkB4 T n D t h v e := by unfold tkB3; rw [hh]
      rw [e2] at hb ho
      (first | refine BX10_takeBox_0 ?_ | refine BX10_takeBox_34 ?_ | refine BX10_takeBox_43 ?_ | refine BX10_takeBox_61 ?_ | refine BX10_takeBox_70 ?_ | refine BX10_takeBox_82 ?_ | refine BX10_takeBox_91 ?_ | refine BX10_takeBox_102 ?_)
      dsimp only [bX10_takeBox_0, bX10_takeBox_34, bX10_takeBox_43, bX10_takeBox_61, bX10_takeBox_70, bX10_takeBox_82, bX10_takeBox_91, bX10_takeBox_102, o_add, o_ald, o_dup, o_gf, o_ial, o_ias, o_ic, o_ild, o_iret, o_ist, o_pf, o_sub, o_v4, o_zle, tk, lget, lput, lkill, lmask, ol, flM_0_0, flM_0_1, flM_0_2, flM_0_3, flM_0_4, flM_0_5, flM_0_6, flM_0_7, flM_0_8, flM_0_9, flM_0_10, flM_0_11, flM_0_12, flM_0_13, flM_0_14, flM_0_15, flM_0_16, flM_0_17, flM_0_18, flM_0_19, flM_0_20, flM_0_21, flM_0_22, flM_0_23, flM_0_24, flM_0_25, flM_0_26, flM_0_27, flM_0_28, flM_0_29, flM_0_30, flM_0_31, flM_0_32, flM_0_33, flM_0_34, flM_0_35, flM_0_36, flM_0_37, flM_0_38, flM_0_39, flM_0_40, flM_0_41, arM_1, arM_2, arM_3, arM_4, arM_5, arM_6, arM_7, arM_8, arM_9, arM_10, arM_11, arM_12, arM_13, arM_14, arM_15, arM_16, arM_17, arM_18, arM_19, arM_20, arM_21, arM_22, arM_23, arM_24, arM_25]
      try simp only [up, upL, rp, sf, cpy, Nat.reduceEqDiff, reduceIte, Int.reduceNeg, Int.reduceLE, Int.reduceLT, Int.reduceEq, Int.reduceAdd, Int.reduceSub, Int.reduceMul, ne_eq, not_true_eq_false, not_false_eq_true, true_and, and_true, and_self, false_implies, true_implies, implies_true, forall_const, Nat.reduceAdd, Int.add_zero, Int.zero_add, true_or, or_true, false_or, or_false, List.length_nil, List.length_cons]
      refine s91 _ t h v e hw g9 g10 ?_ c15 (by omega) (by omega) hb ho
      show (if D 0 1 = D 0 1 then v else _) = v
      rw [if_pos rfl]
  have s43 : ∀ (g : Nat → Int → Int) (t p : Int), (2 ≤ t ∧ t ≤ 60) → BW g f (D 0 1) → g 9 (D 0 1) = t → g 0 15 = p → 0 ≤ p → p ≤ n → HBM n f u Q (tkB2 T n D t p) → HOM n f u Q (tkB2 T n D t p) → Tf l X shM 3 mX10_takeBox Q 43 [some (vR 0), some (vI (D 0 1)), none] [] (g, u) := by
    intro g t p ht hg g9 g15 p0 p1 hb ho
    (first | refine BX10_takeBox_0 ?_ | refine BX10_takeBox_34 ?_ | refine BX10_takeBox_43 ?_ | refine BX10_takeBox_61 ?_ | refine BX10_takeBox_70 ?_ | refine BX10_takeBox_82 ?_ | refine BX10_takeBox_91 ?_ | refine BX10_takeBox_102 ?_)
    dsimp only [bX10_takeBox_0, bX10_takeBox_34, bX10_takeBox_43, bX10_takeBox_61, bX10_takeBox_70, bX10_takeBox_82, bX10_takeBox_91, bX10_takeBox_102, o_add, o_ald, o_dup, o_gf, o_ial, o_ias, o_ic, o_ild, o_iret, o_ist, o_pf, o_sub, o_v4, o_zle, tk, lget, lput, lkill, lmask, ol, flM_0_0, flM_0_1, flM_0_2, flM_0_3, flM_0_4, flM_0_5, flM_0_6, flM_0_7, flM_0_8, flM_0_9, flM_0_10, flM_0_11, flM_0_12, flM_0_13, flM_0_14, flM_0_15, flM_0_16, flM_0_17, flM_0_18, flM_0_19, flM_0_20, flM_0_21, flM_0_22, flM_0_23, flM_0_24, flM_0_25, flM_0_26, flM_0_27, flM_0_28, flM_0_29, flM_0_30, flM_0_31, flM_0_32, flM_0_33, flM_0_34, flM_0_35, flM_0_36, flM_0_37, flM_0_38, flM_0_39, flM_0_40, flM_0_41, arM_1, arM_2, arM_3, arM_4, arM_5, arM_6, arM_7, arM_8, arM_9, arM_10, arM_11, arM_12, arM_13, arM_14, arM_15, arM_16, arM_17, arM_18, arM_19, arM_20, arM_21, arM_22, arM_23, arM_24, arM_25]
    try simp only [up, upL, rp, sf, cpy, Nat.reduceEqDiff, reduceIte, Int.reduceNeg, Int.reduceLE, Int.reduceLT, Int.reduceEq, Int.reduceAdd, Int.reduceSub, Int.reduceMul, ne_eq, not_true_eq_false, not_false_eq_true, true_and, and_true, and_self, false_implies, true_implies, implies_true, forall_const, Nat.reduceAdd, Int.add_zero, Int.zero_add, true_or, or_true, false_or, or_false, List.length_nil, List.length_cons]
    rw [g9]
    refine ⟨by omega, rfl, c_into arM_10 (by omega) (by omega) (TXM_F hT hg.1) (by omega) (by omega) (by omega) (by omega) (fun z q hh c v hc c14 => ?_) (fun v q e hh c hc c14 c15 => ?_)⟩
    · rw [g15] at hh
      have hz := rdN_bad p1 hh
      exact b61 _ _ (by omega) (hb z q (by unfold tkB2; rw [hh]) (by omega) _ (FM_up (FM_rp hg.1 hc) (by omega) (by omega)) c14)
    · rw [g15] at hh
      have hz := rdN_ok p1 hh
      have hw := BW_into (v := v) hg hc c14 (show 9 ≤ 10 by omega) (by omega)
      have e2 : tkB2 T n D t p = tkB3 T n D t v e := by unfold tkB2; rw [hh]
      rw [e2] at hb ho
      (first | refine BX10_takeBox_0 ?_ | refine BX10_takeBox_34 ?_ | refine BX10_takeBox_43 ?_ | refine BX10_takeBox_61 ?_ | refine BX10_takeBox_70 ?_ | refine BX10_takeBox_82 ?_ | refine BX10_takeBox_91 ?_ | refine BX10_takeBox_102 ?_)
      dsimp only [bX10_takeBox_0, bX10_takeBox_34, bX10_takeBox_43, bX10_takeBox_61, bX10_takeBox_70, bX10_takeBox_82, bX10_takeBox_91, bX10_takeBox_102, o_add, o_ald, o_dup, o_gf, o_ial, o_ias, o_ic, o_ild, o_iret, o_ist, o_pf, o_sub, o_v4, o_zle, tk, lget, lput, lkill, lmask, ol, flM_0_0, flM_0_1, flM_0_2, flM_0_3, flM_0_4, flM_0_5, flM_0_6, flM_0_7, flM_0_8, flM_0_9, flM_0_10, flM_0_11, flM_0_12, flM_0_13, flM_0_14, flM_0_15, flM_0_16, flM_0_17, flM_0_18, flM_0_19, flM_0_20, flM_0_21, flM_0_22, flM_0_23, flM_0_24, flM_0_25, flM_0_26, flM_0_27, flM_0_28, flM_0_29, flM_0_30, flM_0_31, flM_0_32, flM_0_33, flM_0_34, flM_0_35, flM_0_36, flM_0_37, flM_0_38, flM_0_39, flM_0_40, flM_0_41, arM_1, arM_2, arM_3, arM_4, arM_5, arM_6, arM_7, arM_8, arM_9, arM_10, arM_11, arM_12, arM_13, arM_14, arM_15, arM_16, arM_17, arM_18, arM_19, arM_20, arM_21, arM_22, arM_23, arM_24, arM_25]
      try simp only [up, upL, rp, sf, cpy, Nat.reduceEqDiff, reduceIte, Int.reduceNeg, Int.reduceLE, Int.reduceLT, Int.reduceEq, Int.reduceAdd, Int.reduceSub, Int.reduceMul, ne_eq, not_true_eq_false, not_false_eq_true, true_and, and_true, and_self, false_implies, true_implies, implies_true, forall_const, Nat.reduceAdd, Int.add_zero, Int.zero_add, true_or, or_true, false_or, or_false, List.length_nil, List.length_cons]
      refine s70 _ t v e hw g9 ?_ c15 (by omega) (by omega) hb ho
      show (if D 0 1 = D 0 1 then v else _) = v
      rw [if_pos rfl]
  have hg0 : BW (up (up f 0 19 (D 0 1 + 1)) 13 (D 0 1) (-1)) f (D 0 1) := by
    refine ⟨FM_up (FM_up0 FM_rf (by omega)) (by omega) (by omega), rfl, rfl, rfl, rfl, rfl, rfl, ?_, fun k k0 k1 i hi => ?_⟩
    · show (if D 0 1 = D 0 1 then (-1 : Int) else _) = -1
      rw [if_pos rfl]
    · rw [up_to]
      by_cases hk : k = 13
      · subst hk
        rw [rp_k]
        show (if i = D 0 1 then (-1 : Int) else f 13 i) = _
        rw [if_neg hi]
      · rw [rp_ne hk, up_to, rp_ne (by omega)]
  refine EX10_takeBox rfl ?_
  (first | refine BX10_takeBox_0 ?_ | refine BX10_takeBox_34 ?_ | refine BX10_takeBox_43 ?_ | refine BX10_takeBox_61 ?_ | refine BX10_takeBox_70 ?_ | refine BX10_takeBox_82 ?_ | refine BX10_takeBox_91 ?_ | refine BX10_takeBox_102 ?_)
  dsimp only [bX10_takeBox_0, bX10_takeBox_34, bX10_takeBox_43, bX10_takeBox_61, bX10_takeBox_70, bX10_takeBox_82, bX10_takeBox_91, bX10_takeBox_102, o_add, o_ald, o_dup, o_gf, o_ial, o_ias, o_ic, o_ild, o_iret, o_ist, o_pf, o_sub, o_v4, o_zle, tk, lget, lput, lkill, lmask, ol, lent, flM_0_0, flM_0_1, flM_0_2, flM_0_3, flM_0_4, flM_0_5, flM_0_6, flM_0_7, flM_0_8, flM_0_9, flM_0_10, flM_0_11, flM_0_12, flM_0_13, flM_0_14, flM_0_15, flM_0_16, flM_0_17, flM_0_18, flM_0_19, flM_0_20, flM_0_21, flM_0_22, flM_0_23, flM_0_24, flM_0_25, flM_0_26, flM_0_27, flM_0_28, flM_0_29, flM_0_30, flM_0_31, flM_0_32, flM_0_33, flM_0_34, flM_0_35, flM_0_36, flM_0_37, flM_0_38, flM_0_39, flM_0_40, flM_0_41, arM_1, arM_2, arM_3, arM_4, arM_5, arM_6, arM_7, arM_8, arM_9, arM_10, arM_11, arM_12, arM_13, arM_14, arM_15, arM_16, arM_17, arM_18, arM_19, arM_20, arM_21, arM_22, arM_23, arM_24, arM_25]
  try simp only [up, upL, rp, sf, cpy, Nat.reduceEqDiff, reduceIte, Int.reduceNeg, Int.reduceLE, Int.reduceLT, Int.reduceEq, Int.reduceAdd, Int.reduceSub, Int.reduceMul, ne_eq, not_true_eq_false, not_false_eq_true, true_and, and_true, and_self, false_implies, true_implies, implies_true, forall_const, Nat.reduceAdd, Int.add_zero, Int.zero_add, true_or, or_true, false_or, or_false, List.length_nil, List.length_cons]
  rw [e19]
  refine ⟨by omega, rfl, c_into arM_9 (by omega) (by omega) (TXM_F hT hg0.1) p0 p1 (by omega) (by omega) (fun z q hh c v hc c14 => ?_) (fun v q e hh c hc c14 c15 => ?_)⟩
  · have hh : rdN T n 2 60 (f 0 15) = .inl (z, q) := hh
    have hz := rdN_bad p1 hh
    exact b34 _ _ (by omega) (hb z q (by unfold tkB; rw [hh]) (by omega) _ (FM_up (FM_rp hg0.1 hc) (by omega) (by omega)) c14)
  · have hh : rdN T n 2 60 (f 0 15) = .inr (v, q, e) := hh
    have hz := rdN_ok p1 hh
    have hw := BW_into (v := v) hg0 hc c14 (show 9 ≤ 9 by omega) (by omega)
    have e2 : tkB T n D (f 0 15) = tkB2 T n D v e := by unfold tkB; rw [hh]
    rw [e2] at hb ho
    (first | refine BX10_takeBox_0 ?_ | refine BX10_takeBox_34 ?_ | refine BX10_takeBox_43 ?_ | refine BX10_takeBox_61 ?_ | refine BX10_takeBox_70 ?_ | refine BX10_takeBox_82 ?_ | refine BX10_takeBox_91 ?_ | refine BX10_takeBox_102 ?_)
    dsimp only [bX10_takeBox_0, bX10_takeBox_34, bX10_takeBox_43, bX10_takeBox_61, bX10_takeBox_70, bX10_takeBox_82, bX10_takeBox_91, bX10_takeBox_102, o_add, o_ald, o_dup, o_gf, o_ial, o_ias, o_ic, o_ild, o_iret, o_ist, o_pf, o_sub, o_v4, o_zle, tk, lget, lput, lkill, lmask, ol, flM_0_0, flM_0_1, flM_0_2, flM_0_3, flM_0_4, flM_0_5, flM_0_6, flM_0_7, flM_0_8, flM_0_9, flM_0_10, flM_0_11, flM_0_12, flM_0_13, flM_0_14, flM_0_15, flM_0_16, flM_0_17, flM_0_18, flM_0_19, flM_0_20, flM_0_21, flM_0_22, flM_0_23, flM_0_24, flM_0_25, flM_0_26, flM_0_27, flM_0_28, flM_0_29, flM_0_30, flM_0_31, flM_0_32, flM_0_33, flM_0_34, flM_0_35, flM_0_36, flM_0_37, flM_0_38, flM_0_39, flM_0_40, flM_0_41, arM_1, arM_2, arM_3, arM_4, arM_5, arM_6, arM_7, arM_8, arM_9, arM_10, arM_11, arM_12, arM_13, arM_14, arM_15, arM_16, arM_17, arM_18, arM_19, arM_20, arM_21, arM_22, arM_23, arM_24, arM_25]
    try simp only [up, upL, rp, sf, cpy, Nat.reduceEqDiff, reduceIte, Int.reduceNeg, Int.reduceLE, Int.reduceLT, Int.reduceEq, Int.reduceAdd, Int.reduceSub, Int.reduceMul, ne_eq, not_true_eq_false, not_false_eq_true, true_and, and_true, and_self, false_implies, true_implies, implies_true, forall_const, Nat.reduceAdd, Int.add_zero, Int.zero_add, true_or, or_true, false_or, or_false, List.length_nil, List.length_cons]
    refine s43 _ v e (by omega) hw ?_ c15 (by omega) (by omega) hb ho
    show (if D 0 1 = D 0 1 then v else _) = v
    rw [if_pos rfl]
