/-! the text: blanks, numbers, ends of clauses -/
def TX (C : Nat → Int → Int) (T : Int → Int) (n : Int) : Prop := (C 1 2 = n ∧ 0 ≤ n ∧ n ≤ 240) ∧ ∀ i, 0 ≤ i → i < n → C 9 i = T i ∧ 0 ≤ T i ∧ T i ≤ 255
def TXM (f : Nat → Int → Int) (T : Int → Int) (n : Int) : Prop := (f 0 13 = n ∧ 0 ≤ n ∧ n ≤ 240) ∧ ∀ i, 0 ≤ i → i < n → f 8 i = T i ∧ 0 ≤ T i ∧ T i ≤ 255
def isD (c : Int) : Bool := decide (48 ≤ c ∧ c ≤ 57)
def skf (T : Int → Int) (n : Int) : Nat → Int → Int
  | 0, p => p
  | j + 1, p => if p < n ∧ T p = 32 then skf T n j (p + 1) else p
def sk (T : Int → Int) (n p : Int) : Int := skf T n (n - p).toNat p
theorem skf_bd {T : Int → Int} {n : Int} : ∀ (j : Nat) (p : Int), p ≤ skf T n j p ∧ skf T n j p ≤ p + j
  | 0, p => ⟨by simp [skf], by simp [skf]⟩
  | j + 1, p => by
    have := skf_bd (T := T) (n := n) j (p + 1)
    unfold skf
    split <;> omega
theorem sk_bd {T : Int → Int} {n p : Int} (h : p ≤ n) : p ≤ sk T n p ∧ sk T n p ≤ n := by
  have := skf_bd (T := T) (n := n) (n - p).toNat p
  unfold sk
  omega
theorem skf_end {T : Int → Int} {n : Int} : ∀ (j : Nat) (p : Int), p + j = n → ¬ (skf T n j p < n ∧ T (skf T n j p) = 32)
  | 0, p, h => by simp [skf]; omega
  | j + 1, p, h => by
    have := skf_end (T := T) (n := n) j (p + 1) (by omega)
    unfold skf
    split
    · exact this
    · assumption
theorem sk_end {T : Int → Int} {n p : Int} (h : p ≤ n) : ¬ (sk T n p < n ∧ T (sk T n p) = 32) := skf_end _ _ (by omega)
theorem sk_id {T : Int → Int} {n p : Int} (h : ¬ (p < n ∧ T p = 32)) : sk T n p = p := by
  unfold sk
  cases (n - p).toNat with
  | zero => rfl
  | succ j => show (if p < n ∧ T p = 32 then _ else _) = _; rw [if_neg h]
def dgf (T : Int → Int) (n : Int) : Nat → Int → Int
  | 0, p => p
  | j + 1, p => if p < n ∧ isD (T p) = true then dgf T n j (p + 1) else p
theorem dgf_bd {T : Int → Int} {n : Int} : ∀ (j : Nat) (p : Int), p ≤ dgf T n j p ∧ dgf T n j p ≤ p + j
  | 0, p => ⟨by simp [dgf], by simp [dgf]⟩
  | j + 1, p => by
    have := dgf_bd (T := T) (n := n) j (p + 1)
    unfold dgf
    split <;> omega
def vcf (T : Int → Int) (n a : Int) : Nat → Int → Int → Int
  | 0, _, v => v
  | j + 1, p, v => if p < n ∧ isD (T p) = true then vcf T n a j (p + 1) (if p - a < 3 then v * 10 + T p - 48 else v) else v
def vmf (T : Int → Int) (n : Int) : Nat → Int → Int → Int
  | 0, _, v => v
  | j + 1, p, v => if p < n ∧ isD (T p) = true then vmf T n j (p + 1) (if 10000 < v then v else 10 * v + T p - 48) else v
theorem vcf_bd {T : Int → Int} {n a : Int} : ∀ (j : Nat) (p v : Int), a ≤ p → 0 ≤ v → v ≤ 999 → (p - a = 0 → v = 0) → (p - a = 1 → v ≤ 9) → (p - a = 2 → v ≤ 99) → 0 ≤ vcf T n a j p v ∧ vcf T n a j p v ≤ 999
  | 0, p, v, _, h0, h1, _, _, _ => ⟨h0, h1⟩
  | j + 1, p, v, hp, h0, h1, k0, k1, k2 => by
    unfold vcf
    split
    · rename_i h
      have hd := of_decide_eq_true h.2
      exact vcf_bd j (p + 1) _ (by omega) (by split <;> omega) (by split <;> omega) (fun e => by omega) (fun e => by split <;> omega) (fun e => by split <;> omega)
    · exact ⟨h0, h1⟩
theorem vmf_bd {T : Int → Int} {n : Int} : ∀ (j : Nat) (p v : Int), 0 ≤ v → v ≤ 100009 → 0 ≤ vmf T n j p v ∧ vmf T n j p v ≤ 100009
  | 0, p, v, h0, h1 => ⟨h0, h1⟩
  | j + 1, p, v, h0, h1 => by
    unfold vmf
    split
    · rename_i h
      have hd := of_decide_eq_true h.2
      exact vmf_bd j (p + 1) _ (by split <;> omega) (by split <;> omega)
    · exact ⟨h0, h1⟩
theorem v_eq {T : Int → Int} {n a : Int} : ∀ (j : Nat) (p v : Int), a ≤ p → dgf T n j p - a ≤ 3 → 0 ≤ v → v ≤ 999 → (p - a = 0 → v = 0) → (p - a = 1 → v ≤ 9) → (p - a = 2 → v ≤ 99) → vmf T n j p v = vcf T n a j p v
  | 0, p, v, _, _, _, _, _, _, _ => rfl
  | j + 1, p, v, hp, he, h0, h1, k0, k1, k2 => by
    by_cases h : p < n ∧ isD (T p) = true
    · have hd := of_decide_eq_true h.2
      have e1 : dgf T n (j + 1) p = dgf T n j (p + 1) := by show (if _ then _ else _) = _; rw [if_pos h]
      rw [e1] at he
      have hb := dgf_bd (T := T) (n := n) j (p + 1)
      have e2 : vmf T n (j + 1) p v = vmf T n j (p + 1) (10 * v + T p - 48) := by show (if _ then _ else _) = _; rw [if_pos h, if_neg (by omega)]
      have e3 : vcf T n a (j + 1) p v = vcf T n a j (p + 1) (v * 10 + T p - 48) := by show (if _ then _ else _) = _; rw [if_pos h, if_pos (by omega)]
      rw [e2, e3, show v * 10 + T p - 48 = 10 * v + T p - 48 by omega]
      exact v_eq j (p + 1) _ (by omega) he (by omega) (by omega) (fun e => by omega) (fun e => by omega) (fun e => by omega)
    · have e2 : vmf T n (j + 1) p v = v := by show (if _ then _ else _) = _; rw [if_neg h]
      have e3 : vcf T n a (j + 1) p v = v := by show (if _ then _ else _) = _; rw [if_neg h]
      rw [e2, e3]
abbrev Ot : Type := (Int × Int) ⊕ (Int × Int × Int)
def rdE (T : Int → Int) (n p : Int) : Int := dgf T n (n - sk T n p).toNat (sk T n p)
def rdV (T : Int → Int) (n p : Int) : Int := vcf T n (sk T n p) (n - sk T n p).toNat (sk T n p) 0
/-- a number that is read from p on: its fault and where; or its worth, where it begins, and its end -/
def rdN (T : Int → Int) (n lo hi p : Int) : Ot := if rdE T n p = sk T n p then .inl (1, sk T n p) else if 3 < rdE T n p - sk T n p ∨ rdV T n p < lo ∨ hi < rdV T n p then .inl (2, sk T n p) else .inr (rdV T n p, sk T n p, rdE T n p)
theorem rd_bd {T : Int → Int} {n p : Int} (h : p ≤ n) : sk T n p ≤ rdE T n p ∧ rdE T n p ≤ n ∧ 0 ≤ rdV T n p ∧ rdV T n p ≤ 999 := by
  have h1 := sk_bd (T := T) h
  have h2 := dgf_bd (T := T) (n := n) (n - sk T n p).toNat (sk T n p)
  have h3 := vcf_bd (T := T) (n := n) (a := sk T n p) (n - sk T n p).toNat (sk T n p) 0 (by omega) (by omega) (by omega) (fun _ => rfl) (fun _ => by omega) (fun _ => by omega)
  unfold rdE rdV
  omega
theorem rdN_bad {T : Int → Int} {n lo hi p k q : Int} (hp : p ≤ n) (h : rdN T n lo hi p = .inl (k, q)) : (1 ≤ k ∧ k ≤ 2) ∧ p ≤ q ∧ q ≤ n := by
  have h1 := sk_bd (T := T) hp
  unfold rdN at h
  split at h
  · have := Sum.inl.inj h; cases this; omega
  · split at h
    · have := Sum.inl.inj h; cases this; omega
    · cases h
theorem rdN_ok {T : Int → Int} {n lo hi p v q e : Int} (hp : p ≤ n) (h : rdN T n lo hi p = .inr (v, q, e)) : (lo ≤ v ∧ v ≤ hi) ∧ (0 ≤ v ∧ v ≤ 999) ∧ p ≤ q ∧ q < e ∧ e ≤ n := by
  have h1 := sk_bd (T := T) hp
  have h2 := rd_bd (T := T) hp
  unfold rdN at h
  split at h
  · cases h
  · split at h
    · cases h
    · have := Sum.inr.inj h; cases this; omega
/-! the class -/
theorem k_skip {l : Launch} {X : Cx} {Q : Qt} {C : Nat → Int → Int} {w T : Int → Int} {n : Int} (hT : TX C T n) (p0 : 0 ≤ C 1 5) (p1 : C 1 5 ≤ n) (hq : Q none (rp C 1 (sf (C 1) 5 (sk T n (C 1 5))), w)) : TM l X shC 0 mX5_skipBlanks [vR 1] (C, w) Q := by
  have hn := hT.1
  have L : ∀ (j : Nat) (c : Int → Int), c 2 = n → 0 ≤ c 5 → c 5 + j = n → Q none (rp C 1 (sf c 5 (skf T n j (c 5))), w) → Tf l X shC 0 mX5_skipBlanks Q 0 [some (vR 1)] [] (rp C 1 c, w) := by
    intro j
    induction j with
    | zero =>
      intro c c2 c0 c1 hq
      have hq : Q none (rp C 1 (sf c 5 (c 5)), w) := hq
      rw [sf_self] at hq
      (first | refine BX5_skipBlanks_0 ?_ | refine BX5_skipBlanks_38 ?_)
      dsimp only [bX5_skipBlanks_0, bX5_skipBlanks_38, o_add, o_ald, o_cge, o_cne, o_dup, o_gf, o_ial, o_ic, o_pf, o_vret, tk, lget, lput, lkill, lmask, ol, flC_0_0, flC_0_1, flC_0_2, flC_0_3, flC_0_4, flC_0_5, flC_0_6, flC_0_7, flC_0_8, flC_0_9, flC_0_10, flC_1_0, flC_1_1, flC_1_2, flC_1_3, flC_1_4, flC_1_5, flC_1_6, flC_1_7, flC_2_0, flC_2_1, flC_2_2, flC_2_3, flC_2_4, flC_2_5, flC_2_6, flC_2_7, flC_2_8, arC_3, arC_4, arC_5, arC_6, arC_7, arC_8, arC_9, flC_10_0, flC_10_1, flC_10_2, flC_10_3, flC_10_4, flC_10_5, flC_10_6, flC_10_7, flC_10_8, arC_11, arC_12, arC_13, arC_14, arC_15, arC_16, flC_17_0, arC_18, flC_19_0, flC_19_1, flC_19_2, arC_20, flC_21_0, flC_21_1, flC_21_2, arC_22, arC_23, flC_24_0, flC_24_1, flC_24_2, arC_25, flC_26_0, flC_26_1, flC_26_2, arC_27, arC_28, flC_29_0, arC_30, flC_31_0, flC_31_1, arC_32, arC_33, arC_34]
      try simp only [up, upL, rp, sf, cpy, Nat.reduceEqDiff, reduceIte, Int.reduceNeg, Int.reduceLE, Int.reduceLT, Int.reduceEq, Int.reduceAdd, Int.reduceSub, Int.reduceMul, ne_eq, not_true_eq_false, not_false_eq_true, true_and, and_true, and_self, false_implies, true_implies, implies_true, forall_const, Nat.reduceAdd, Int.add_zero, Int.zero_add, true_or, or_true, false_or, or_false, List.length_nil, List.length_cons]
      refine ⟨by omega, by omega, fun h => ?_, fun h => absurd h (by omega)⟩
      (first | refine BX5_skipBlanks_0 ?_ | refine BX5_skipBlanks_38 ?_)
      dsimp only [bX5_skipBlanks_0, bX5_skipBlanks_38, o_add, o_ald, o_cge, o_cne, o_dup, o_gf, o_ial, o_ic, o_pf, o_vret, tk, lget, lput, lkill, lmask, ol, flC_0_0, flC_0_1, flC_0_2, flC_0_3, flC_0_4, flC_0_5, flC_0_6, flC_0_7, flC_0_8, flC_0_9, flC_0_10, flC_1_0, flC_1_1, flC_1_2, flC_1_3, flC_1_4, flC_1_5, flC_1_6, flC_1_7, flC_2_0, flC_2_1, flC_2_2, flC_2_3, flC_2_4, flC_2_5, flC_2_6, flC_2_7, flC_2_8, arC_3, arC_4, arC_5, arC_6, arC_7, arC_8, arC_9, flC_10_0, flC_10_1, flC_10_2, flC_10_3, flC_10_4, flC_10_5, flC_10_6, flC_10_7, flC_10_8, arC_11, arC_12, arC_13, arC_14, arC_15, arC_16, flC_17_0, arC_18, flC_19_0, flC_19_1, flC_19_2, arC_20, flC_21_0, flC_21_1, flC_21_2, arC_22, arC_23, flC_24_0, flC_24_1, flC_24_2, arC_25, flC_26_0, flC_26_1, flC_26_2, arC_27, arC_28, flC_29_0, arC_30, flC_31_0, flC_31_1, arC_32, arC_33, arC_34]
      try simp only [up, upL, rp, sf, cpy, Nat.reduceEqDiff, reduceIte, Int.reduceNeg, Int.reduceLE, Int.reduceLT, Int.reduceEq, Int.reduceAdd, Int.reduceSub, Int.reduceMul, ne_eq, not_true_eq_false, not_false_eq_true, true_and, and_true, and_self, false_implies, true_implies, implies_true, forall_const, Nat.reduceAdd, Int.add_zero, Int.zero_add, true_or, or_true, false_or, or_false, List.length_nil, List.length_cons]
      exact hq
    | succ j ih =>
      intro c c2 c0 c1 hq
      have hc := hT.2 (c 5) c0 (by omega)
      have hq : Q none (rp C 1 (sf c 5 (if c 5 < n ∧ T (c 5) = 32 then skf T n j (c 5 + 1) else c 5)), w) := hq
      (first | refine BX5_skipBlanks_0 ?_ | refine BX5_skipBlanks_38 ?_)
      dsimp only [bX5_skipBlanks_0, bX5_skipBlanks_38, o_add, o_ald, o_cge, o_cne, o_dup, o_gf, o_ial, o_ic, o_pf, o_vret, tk, lget, lput, lkill, lmask, ol, flC_0_0, flC_0_1, flC_0_2, flC_0_3, flC_0_4, flC_0_5, flC_0_6, flC_0_7, flC_0_8, flC_0_9, flC_0_10, flC_1_0, flC_1_1, flC_1_2, flC_1_3, flC_1_4, flC_1_5, flC_1_6, flC_1_7, flC_2_0, flC_2_1, flC_2_2, flC_2_3, flC_2_4, flC_2_5, flC_2_6, flC_2_7, flC_2_8, arC_3, arC_4, arC_5, arC_6, arC_7, arC_8, arC_9, flC_10_0, flC_10_1, flC_10_2, flC_10_3, flC_10_4, flC_10_5, flC_10_6, flC_10_7, flC_10_8, arC_11, arC_12, arC_13, arC_14, arC_15, arC_16, flC_17_0, arC_18, flC_19_0, flC_19_1, flC_19_2, arC_20, flC_21_0, flC_21_1, flC_21_2, arC_22, arC_23, flC_24_0, flC_24_1, flC_24_2, arC_25, flC_26_0, flC_26_1, flC_26_2, arC_27, arC_28, flC_29_0, arC_30, flC_31_0, flC_31_1, arC_32, arC_33, arC_34]
      try simp only [up, upL, rp, sf, cpy, Nat.reduceEqDiff, reduceIte, Int.reduceNeg, Int.reduceLE, Int.reduceLT, Int.reduceEq, Int.reduceAdd, Int.reduceSub, Int.reduceMul, ne_eq, not_true_eq_false, not_false_eq_true, true_and, and_true, and_self, false_implies, true_implies, implies_true, forall_const, Nat.reduceAdd, Int.add_zero, Int.zero_add, true_or, or_true, false_or, or_false, List.length_nil, List.length_cons]
      rw [hc.1]
      refine ⟨by omega, by omega, fun h => absurd h (by omega), fun h => ⟨by omega, by omega, fun h5 => ?_, fun h5 => ?_⟩⟩
      · rw [if_neg (by omega), sf_self] at hq
        (first | refine BX5_skipBlanks_0 ?_ | refine BX5_skipBlanks_38 ?_)
        dsimp only [bX5_skipBlanks_0, bX5_skipBlanks_38, o_add, o_ald, o_cge, o_cne, o_dup, o_gf, o_ial, o_ic, o_pf, o_vret, tk, lget, lput, lkill, lmask, ol, flC_0_0, flC_0_1, flC_0_2, flC_0_3, flC_0_4, flC_0_5, flC_0_6, flC_0_7, flC_0_8, flC_0_9, flC_0_10, flC_1_0, flC_1_1, flC_1_2, flC_1_3, flC_1_4, flC_1_5, flC_1_6, flC_1_7, flC_2_0, flC_2_1, flC_2_2, flC_2_3, flC_2_4, flC_2_5, flC_2_6, flC_2_7, flC_2_8, arC_3, arC_4, arC_5, arC_6, arC_7, arC_8, arC_9, flC_10_0, flC_10_1, flC_10_2, flC_10_3, flC_10_4, flC_10_5, flC_10_6, flC_10_7, flC_10_8, arC_11, arC_12, arC_13, arC_14, arC_15, arC_16, flC_17_0, arC_18, flC_19_0, flC_19_1, flC_19_2, arC_20, flC_21_0, flC_21_1, flC_21_2, arC_22, arC_23, flC_24_0, flC_24_1, flC_24_2, arC_25, flC_26_0, flC_26_1, flC_26_2, arC_27, arC_28, flC_29_0, arC_30, flC_31_0, flC_31_1, arC_32, arC_33, arC_34]
        try simp only [up, upL, rp, sf, cpy, Nat.reduceEqDiff, reduceIte, Int.reduceNeg, Int.reduceLE, Int.reduceLT, Int.reduceEq, Int.reduceAdd, Int.reduceSub, Int.reduceMul, ne_eq, not_true_eq_false, not_false_eq_true, true_and, and_true, and_self, false_implies, true_implies, implies_true, forall_const, Nat.reduceAdd, Int.add_zero, Int.zero_add, true_or, or_true, false_or, or_false, List.length_nil, List.length_cons]
        exact hq
      · rw [if_pos ⟨by omega, h5⟩] at hq
        rw [up_to, rp_rp, rp_k]
        have e5 : sf c 5 (c 5 + 1) 5 = c 5 + 1 := by simp [sf]
        refine ih (sf c 5 (c 5 + 1)) ?_ (by rw [e5]; omega) (by rw [e5]; omega) ?_
        · show c 2 = n; exact c2
        · rw [e5, sf_sf]; exact hq
  refine EX5_skipBlanks rfl ?_
  have := L (n - C 1 5).toNat (C 1) hn.1 p0 (by omega) hq
  rw [rp_self] at this
  exact this
def RC (c d : Int → Int) : Prop := c 2 = d 2 ∧ c 7 = d 7
theorem k_blame {l : Launch} {X : Cx} {Q : Qt} {M : Me} {k q : Int} (hq : Q none (rp M.1 1 (sf (sf (M.1 1) 4 k) 3 q), M.2)) : TM l X shC 0 mX5_blame [vR 1, vI k, vI q] M Q := by
  refine EX5_blame rfl ?_
  (first | refine BX5_blame_0 ?_)
  dsimp only [bX5_blame_0, o_ald, o_ild, o_pf, o_vret, tk, lget, lput, lkill, lmask, ol, lent, flC_0_0, flC_0_1, flC_0_2, flC_0_3, flC_0_4, flC_0_5, flC_0_6, flC_0_7, flC_0_8, flC_0_9, flC_0_10, flC_1_0, flC_1_1, flC_1_2, flC_1_3, flC_1_4, flC_1_5, flC_1_6, flC_1_7, flC_2_0, flC_2_1, flC_2_2, flC_2_3, flC_2_4, flC_2_5, flC_2_6, flC_2_7, flC_2_8, arC_3, arC_4, arC_5, arC_6, arC_7, arC_8, arC_9, flC_10_0, flC_10_1, flC_10_2, flC_10_3, flC_10_4, flC_10_5, flC_10_6, flC_10_7, flC_10_8, arC_11, arC_12, arC_13, arC_14, arC_15, arC_16, flC_17_0, arC_18, flC_19_0, flC_19_1, flC_19_2, arC_20, flC_21_0, flC_21_1, flC_21_2, arC_22, arC_23, flC_24_0, flC_24_1, flC_24_2, arC_25, flC_26_0, flC_26_1, flC_26_2, arC_27, arC_28, flC_29_0, arC_30, flC_31_0, flC_31_1, arC_32, arC_33, arC_34]
  try simp only [up, upL, rp, sf, cpy, Nat.reduceEqDiff, reduceIte, Int.reduceNeg, Int.reduceLE, Int.reduceLT, Int.reduceEq, Int.reduceAdd, Int.reduceSub, Int.reduceMul, ne_eq, not_true_eq_false, not_false_eq_true, true_and, and_true, and_self, false_implies, true_implies, implies_true, forall_const, Nat.reduceAdd, Int.add_zero, Int.zero_add, true_or, or_true, false_or, or_false, List.length_nil, List.length_cons]
  rw [up_to, up_to, rp_rp, rp_k]
  exact hq
theorem k_readNumber {l : Launch} {X : Cx} {Q : Qt} {C : Nat → Int → Int} {w T : Int → Int} {n lo hi : Int} (hT : TX C T n) (h4 : C 1 4 = 0) (p0 : 0 ≤ C 1 5) (p1 : C 1 5 ≤ n) (hl : -100 ≤ lo ∧ lo ≤ 1000) (hh : -100 ≤ hi ∧ hi ≤ 1000)
    (hbad : ∀ k q, rdN T n lo hi (C 1 5) = .inl (k, q) → ∀ v c, RC c (C 1) → c 4 = k → c 3 = q → (0 ≤ c 5 ∧ c 5 ≤ n) → Q (some (vI v)) (rp C 1 c, w))
    (hok : ∀ v q e, rdN T n lo hi (C 1 5) = .inr (v, q, e) → ∀ c, RC c (C 1) → c 3 = C 1 3 → c 4 = 0 → c 5 = e → c 6 = q → Q (some (vI v)) (rp C 1 c, w)) : TM l X shC 1 mX5_readNumber [vR 1, vI lo, vI hi] (C, w) Q := by
  have hn := hT.1
  have hs := sk_bd (T := T) p1
  have hb := rd_bd (T := T) p1
  -- behind the figures
  have fin : ∀ c : Int → Int, RC c (C 1) → c 3 = C 1 3 → c 4 = 0 → c 5 = rdE T n (C 1 5) → c 6 = sk T n (C 1 5) → Tf l X shC 1 mX5_readNumber Q 106 [some (vR 1), some (vI lo), some (vI hi), some (vI (rdV T n (C 1 5))), none] [] (rp C 1 c, w) := by
    intro c hc c3 c4 c5 c6
    have bad2 : ¬ rdE T n (C 1 5) = sk T n (C 1 5) → (3 < rdE T n (C 1 5) - sk T n (C 1 5) ∨ rdV T n (C 1 5) < lo ∨ hi < rdV T n (C 1 5)) → Tf l X shC 1 mX5_readNumber Q 150 [some (vR 1), none, none, some (vI (rdV T n (C 1 5))), none] [] (rp C 1 c, w) := by
      intro q1 q2
      (first | refine BX5_readNumber_0 ?_ | refine BX5_readNumber_9 ?_ | refine BX5_readNumber_13 ?_ | refine BX5_readNumber_23 ?_ | refine BX5_readNumber_93 ?_ | refine BX5_readNumber_106 ?_ | refine BX5_readNumber_131 ?_ | refine BX5_readNumber_134 ?_ | refine BX5_readNumber_150 ?_ | refine BX5_readNumber_159 ?_)
      dsimp only [bX5_readNumber_0, bX5_readNumber_9, bX5_readNumber_13, bX5_readNumber_23, bX5_readNumber_93, bX5_readNumber_106, bX5_readNumber_131, bX5_readNumber_134, bX5_readNumber_150, bX5_readNumber_159, o_add, o_ald, o_cge, o_cgt, o_cle, o_clt, o_dup, o_gf, o_ial, o_ic, o_ild, o_iret, o_ist, o_mul, o_pf, o_sub, o_v0, o_v2, o_zeq, o_zne, tk, lget, lput, lkill, lmask, ol, flC_0_0, flC_0_1, flC_0_2, flC_0_3, flC_0_4, flC_0_5, flC_0_6, flC_0_7, flC_0_8, flC_0_9, flC_0_10, flC_1_0, flC_1_1, flC_1_2, flC_1_3, flC_1_4, flC_1_5, flC_1_6, flC_1_7, flC_2_0, flC_2_1, flC_2_2, flC_2_3, flC_2_4, flC_2_5, flC_2_6, flC_2_7, flC_2_8, arC_3, arC_4, arC_5, arC_6, arC_7, arC_8, arC_9, flC_10_0, flC_10_1, flC_10_2, flC_10_3, flC_10_4, flC_10_5, flC_10_6, flC_10_7, flC_10_8, arC_11, arC_12, arC_13, arC_14, arC_15, arC_16, flC_17_0, arC_18, flC_19_0, flC_19_1, flC_19_2, arC_20, flC_21_0, flC_21_1, flC_21_2, arC_22, arC_23, flC_24_0, flC_24_1, flC_24_2, arC_25, flC_26_0, flC_26_1, flC_26_2, arC_27, arC_28, flC_29_0, arC_30, flC_31_0, flC_31_1, arC_32, arC_33, arC_34]
      try simp only [up, upL, rp, sf, cpy, Nat.reduceEqDiff, reduceIte, Int.reduceNeg, Int.reduceLE, Int.reduceLT, Int.reduceEq, Int.reduceAdd, Int.reduceSub, Int.reduceMul, ne_eq, not_true_eq_false, not_false_eq_true, true_and, and_true, and_self, false_implies, true_implies, implies_true, forall_const, Nat.reduceAdd, Int.add_zero, Int.zero_add, true_or, or_true, false_or, or_false, List.length_nil, List.length_cons]
      refine ⟨rfl, k_blame ?_⟩
      (first | refine BX5_readNumber_0 ?_ | refine BX5_readNumber_9 ?_ | refine BX5_readNumber_13 ?_ | refine BX5_readNumber_23 ?_ | refine BX5_readNumber_93 ?_ | refine BX5_readNumber_106 ?_ | refine BX5_readNumber_131 ?_ | refine BX5_readNumber_134 ?_ | refine BX5_readNumber_150 ?_ | refine BX5_readNumber_159 ?_)
      dsimp only [bX5_readNumber_0, bX5_readNumber_9, bX5_readNumber_13, bX5_readNumber_23, bX5_readNumber_93, bX5_readNumber_106, bX5_readNumber_131, bX5_readNumber_134, bX5_readNumber_150, bX5_readNumber_159, o_add, o_ald, o_cge, o_cgt, o_cle, o_clt, o_dup, o_gf, o_ial, o_ic, o_ild, o_iret, o_ist, o_mul, o_pf, o_sub, o_v0, o_v2, o_zeq, o_zne, tk, lget, lput, lkill, lmask, ol, flC_0_0, flC_0_1, flC_0_2, flC_0_3, flC_0_4, flC_0_5, flC_0_6, flC_0_7, flC_0_8, flC_0_9, flC_0_10, flC_1_0, flC_1_1, flC_1_2, flC_1_3, flC_1_4, flC_1_5, flC_1_6, flC_1_7, flC_2_0, flC_2_1, flC_2_2, flC_2_3, flC_2_4, flC_2_5, flC_2_6, flC_2_7, flC_2_8, arC_3, arC_4, arC_5, arC_6, arC_7, arC_8, arC_9, flC_10_0, flC_10_1, flC_10_2, flC_10_3, flC_10_4, flC_10_5, flC_10_6, flC_10_7, flC_10_8, arC_11, arC_12, arC_13, arC_14, arC_15, arC_16, flC_17_0, arC_18, flC_19_0, flC_19_1, flC_19_2, arC_20, flC_21_0, flC_21_1, flC_21_2, arC_22, arC_23, flC_24_0, flC_24_1, flC_24_2, arC_25, flC_26_0, flC_26_1, flC_26_2, arC_27, arC_28, flC_29_0, arC_30, flC_31_0, flC_31_1, arC_32, arC_33, arC_34]
      try simp only [up, upL, rp, sf, cpy, Nat.reduceEqDiff, reduceIte, Int.reduceNeg, Int.reduceLE, Int.reduceLT, Int.reduceEq, Int.reduceAdd, Int.reduceSub, Int.reduceMul, ne_eq, not_true_eq_false, not_false_eq_true, true_and, and_true, and_self, false_implies, true_implies, implies_true, forall_const, Nat.reduceAdd, Int.add_zero, Int.zero_add, true_or, or_true, false_or, or_false, List.length_nil, List.length_cons]
      rw [rp_rp, rp_k]
      refine hbad 2 (sk T n (C 1 5)) (by unfold rdN; rw [if_neg q1, if_pos q2]) _ _ ?_ ?_ ?_ ?_
      · exact hc
      · rfl
      · show (c 6 : Int) = _; exact c6
      · show 0 ≤ c 5 ∧ c 5 ≤ n; omega
    (first | refine BX5_readNumber_0 ?_ | refine BX5_readNumber_9 ?_ | refine BX5_readNumber_13 ?_ | refine BX5_readNumber_23 ?_ | refine BX5_readNumber_93 ?_ | refine BX5_readNumber_106 ?_ | refine BX5_readNumber_131 ?_ | refine BX5_readNumber_134 ?_ | refine BX5_readNumber_150 ?_ | refine BX5_readNumber_159 ?_)
    dsimp only [bX5_readNumber_0, bX5_readNumber_9, bX5_readNumber_13, bX5_readNumber_23, bX5_readNumber_93, bX5_readNumber_106, bX5_readNumber_131, bX5_readNumber_134, bX5_readNumber_150, bX5_readNumber_159, o_add, o_ald, o_cge, o_cgt, o_cle, o_clt, o_dup, o_gf, o_ial, o_ic, o_ild, o_iret, o_ist, o_mul, o_pf, o_sub, o_v0, o_v2, o_zeq, o_zne, tk, lget, lput, lkill, lmask, ol, flC_0_0, flC_0_1, flC_0_2, flC_0_3, flC_0_4, flC_0_5, flC_0_6, flC_0_7, flC_0_8, flC_0_9, flC_0_10, flC_1_0, flC_1_1, flC_1_2, flC_1_3, flC_1_4, flC_1_5, flC_1_6, flC_1_7, flC_2_0, flC_2_1, flC_2_2, flC_2_3, flC_2_4, flC_2_5, flC_2_6, flC_2_7, flC_2_8, arC_3, arC_4, arC_5, arC_6, arC_7, arC_8, arC_9, flC_10_0, flC_10_1, flC_10_2, flC_10_3, flC_10_4, flC_10_5, flC_10_6, flC_10_7, flC_10_8, arC_11, arC_12, arC_13, arC_14, arC_15, arC_16, flC_17_0, arC_18, flC_19_0, flC_19_1, flC_19_2, arC_20, flC_21_0, flC_21_1, flC_21_2, arC_22, arC_23, flC_24_0, flC_24_1, flC_24_2, arC_25, flC_26_0, flC_26_1, flC_26_2, arC_27, arC_28, flC_29_0, arC_30, flC_31_0, flC_31_1, arC_32, arC_33, arC_34]
    try simp only [up, upL, rp, sf, cpy, Nat.reduceEqDiff, reduceIte, Int.reduceNeg, Int.reduceLE, Int.reduceLT, Int.reduceEq, Int.reduceAdd, Int.reduceSub, Int.reduceMul, ne_eq, not_true_eq_false, not_false_eq_true, true_and, and_true, and_self, false_implies, true_implies, implies_true, forall_const, Nat.reduceAdd, Int.add_zero, Int.zero_add, true_or, or_true, false_or, or_false, List.length_nil, List.length_cons]
    rw [c5, c6]
    refine ⟨by omega, fun h => ?_, fun h => ?_⟩
    · (first | refine BX5_readNumber_0 ?_ | refine BX5_readNumber_9 ?_ | refine BX5_readNumber_13 ?_ | refine BX5_readNumber_23 ?_ | refine BX5_readNumber_93 ?_ | refine BX5_readNumber_106 ?_ | refine BX5_readNumber_131 ?_ | refine BX5_readNumber_134 ?_ | refine BX5_readNumber_150 ?_ | refine BX5_readNumber_159 ?_)
      dsimp only [bX5_readNumber_0, bX5_readNumber_9, bX5_readNumber_13, bX5_readNumber_23, bX5_readNumber_93, bX5_readNumber_106, bX5_readNumber_131, bX5_readNumber_134, bX5_readNumber_150, bX5_readNumber_159, o_add, o_ald, o_cge, o_cgt, o_cle, o_clt, o_dup, o_gf, o_ial, o_ic, o_ild, o_iret, o_ist, o_mul, o_pf, o_sub, o_v0, o_v2, o_zeq, o_zne, tk, lget, lput, lkill, lmask, ol, flC_0_0, flC_0_1, flC_0_2, flC_0_3, flC_0_4, flC_0_5, flC_0_6, flC_0_7, flC_0_8, flC_0_9, flC_0_10, flC_1_0, flC_1_1, flC_1_2, flC_1_3, flC_1_4, flC_1_5, flC_1_6, flC_1_7, flC_2_0, flC_2_1, flC_2_2, flC_2_3, flC_2_4, flC_2_5, flC_2_6, flC_2_7, flC_2_8, arC_3, arC_4, arC_5, arC_6, arC_7, arC_8, arC_9, flC_10_0, flC_10_1, flC_10_2, flC_10_3, flC_10_4, flC_10_5, flC_10_6, flC_10_7, flC_10_8, arC_11, arC_12, arC_13, arC_14, arC_15, arC_16, flC_17_0, arC_18, flC_19_0, flC_19_1, flC_19_2, arC_20, flC_21_0, flC_21_1, flC_21_2, arC_22, arC_23, flC_24_0, flC_24_1, flC_24_2, arC_25, flC_26_0, flC_26_1, flC_26_2, arC_27, arC_28, flC_29_0, arC_30, flC_31_0, flC_31_1, arC_32, arC_33, arC_34]
      try simp only [up, upL, rp, sf, cpy, Nat.reduceEqDiff, reduceIte, Int.reduceNeg, Int.reduceLE, Int.reduceLT, Int.reduceEq, Int.reduceAdd, Int.reduceSub, Int.reduceMul, ne_eq, not_true_eq_false, not_false_eq_true, true_and, and_true, and_self, false_implies, true_implies, implies_true, forall_const, Nat.reduceAdd, Int.add_zero, Int.zero_add, true_or, or_true, false_or, or_false, List.length_nil, List.length_cons]
      refine ⟨by omega, fun h5 => bad2 (by omega) (by omega), fun h5 => ⟨by omega, by omega, fun h6 => bad2 (by omega) (by omega), fun h6 => ⟨by omega, by omega, fun h7 => ?_, fun h7 => bad2 (by omega) (by omega)⟩⟩⟩
      (first | refine BX5_readNumber_0 ?_ | refine BX5_readNumber_9 ?_ | refine BX5_readNumber_13 ?_ | refine BX5_readNumber_23 ?_ | refine BX5_readNumber_93 ?_ | refine BX5_readNumber_106 ?_ | refine BX5_readNumber_131 ?_ | refine BX5_readNumber_134 ?_ | refine BX5_readNumber_150 ?_ | refine BX5_readNumber_159 ?_)
      dsimp only [bX5_readNumber_0, bX5_readNumber_9, bX5_readNumber_13, bX5_readNumber_23, bX5_readNumber_93, bX5_readNumber_106, bX5_readNumber_131, bX5_readNumber_134, bX5_readNumber_150, bX5_readNumber_159, o_add, o_ald, o_cge, o_cgt, o_cle, o_clt, o_dup, o_gf, o_ial, o_ic, o_ild, o_iret, o_ist, o_mul, o_pf, o_sub, o_v0, o_v2, o_zeq, o_zne, tk, lget, lput, lkill, lmask, ol, flC_0_0, flC_0_1, flC_0_2, flC_0_3, flC_0_4, flC_0_5, flC_0_6, flC_0_7, flC_0_8, flC_0_9, flC_0_10, flC_1_0, flC_1_1, flC_1_2, flC_1_3, flC_1_4, flC_1_5, flC_1_6, flC_1_7, flC_2_0, flC_2_1, flC_2_2, flC_2_3, flC_2_4, flC_2_5, flC_2_6, flC_2_7, flC_2_8, arC_3, arC_4, arC_5, arC_6, arC_7, arC_8, arC_9, flC_10_0, flC_10_1, flC_10_2, flC_10_3, flC_10_4, flC_10_5, flC_10_6, flC_10_7, flC_10_8, arC_11, arC_12, arC_13, arC_14, arC_15, arC_16, flC_17_0, arC_18, flC_19_0, flC_19_1, flC_19_2, arC_20, flC_21_0, flC_21_1, flC_21_2, arC_22, arC_23, flC_24_0, flC_24_1, flC_24_2, arC_25, flC_26_0, flC_26_1, flC_26_2, arC_27, arC_28, flC_29_0, arC_30, flC_31_0, flC_31_1, arC_32, arC_33, arC_34]
      try simp only [up, upL, rp, sf, cpy, Nat.reduceEqDiff, reduceIte, Int.reduceNeg, Int.reduceLE, Int.reduceLT, Int.reduceEq, Int.reduceAdd, Int.reduceSub, Int.reduceMul, ne_eq, not_true_eq_false, not_false_eq_true, true_and, and_true, and_self, false_implies, true_implies, implies_true, forall_const, Nat.reduceAdd, Int.add_zero, Int.zero_add, true_or, or_true, false_or, or_false, List.length_nil, List.length_cons]
      exact hok _ _ _ (by unfold rdN; rw [if_neg (by omega), if_neg (by omega)]) c hc c3 c4 c5 c6
    · refine ⟨rfl, k_blame ?_⟩
      (first | refine BX5_readNumber_0 ?_ | refine BX5_readNumber_9 ?_ | refine BX5_readNumber_13 ?_ | refine BX5_readNumber_23 ?_ | refine BX5_readNumber_93 ?_ | refine BX5_readNumber_106 ?_ | refine BX5_readNumber_131 ?_ | refine BX5_readNumber_134 ?_ | refine BX5_readNumber_150 ?_ | refine BX5_readNumber_159 ?_)
      dsimp only [bX5_readNumber_0, bX5_readNumber_9, bX5_readNumber_13, bX5_readNumber_23, bX5_readNumber_93, bX5_readNumber_106, bX5_readNumber_131, bX5_readNumber_134, bX5_readNumber_150, bX5_readNumber_159, o_add, o_ald, o_cge, o_cgt, o_cle, o_clt, o_dup, o_gf, o_ial, o_ic, o_ild, o_iret, o_ist, o_mul, o_pf, o_sub, o_v0, o_v2, o_zeq, o_zne, tk, lget, lput, lkill, lmask, ol, flC_0_0, flC_0_1, flC_0_2, flC_0_3, flC_0_4, flC_0_5, flC_0_6, flC_0_7, flC_0_8, flC_0_9, flC_0_10, flC_1_0, flC_1_1, flC_1_2, flC_1_3, flC_1_4, flC_1_5, flC_1_6, flC_1_7, flC_2_0, flC_2_1, flC_2_2, flC_2_3, flC_2_4, flC_2_5, flC_2_6, flC_2_7, flC_2_8, arC_3, arC_4, arC_5, arC_6, arC_7, arC_8, arC_9, flC_10_0, flC_10_1, flC_10_2, flC_10_3, flC_10_4, flC_10_5, flC_10_6, flC_10_7, flC_10_8, arC_11, arC_12, arC_13, arC_14, arC_15, arC_16, flC_17_0, arC_18, flC_19_0, flC_19_1, flC_19_2, arC_20, flC_21_0, flC_21_1, flC_21_2, arC_22, arC_23, flC_24_0, flC_24_1, flC_24_2, arC_25, flC_26_0, flC_26_1, flC_26_2, arC_27, arC_28, flC_29_0, arC_30, flC_31_0, flC_31_1, arC_32, arC_33, arC_34]
      try simp only [up, upL, rp, sf, cpy, Nat.reduceEqDiff, reduceIte, Int.reduceNeg, Int.reduceLE, Int.reduceLT, Int.reduceEq, Int.reduceAdd, Int.reduceSub, Int.reduceMul, ne_eq, not_true_eq_false, not_false_eq_true, true_and, and_true, and_self, false_implies, true_implies, implies_true, forall_const, Nat.reduceAdd, Int.add_zero, Int.zero_add, true_or, or_true, false_or, or_false, List.length_nil, List.length_cons]
      (first | refine BX5_readNumber_0 ?_ | refine BX5_readNumber_9 ?_ | refine BX5_readNumber_13 ?_ | refine BX5_readNumber_23 ?_ | refine BX5_readNumber_93 ?_ | refine BX5_readNumber_106 ?_ | refine BX5_readNumber_131 ?_ | refine BX5_readNumber_134 ?_ | refine BX5_readNumber_150 ?_ | refine BX5_readNumber_159 ?_)
      dsimp only [bX5_readNumber_0, bX5_readNumber_9, bX5_readNumber_13, bX5_readNumber_23, bX5_readNumber_93, bX5_readNumber_106, bX5_readNumber_131, bX5_readNumber_134, bX5_readNumber_150, bX5_readNumber_159, o_add, o_ald, o_cge, o_cgt, o_cle, o_clt, o_dup, o_gf, o_ial, o_ic, o_ild, o_iret, o_ist, o_mul, o_pf, o_sub, o_v0, o_v2, o_zeq, o_zne, tk, lget, lput, lkill, lmask, ol, flC_0_0, flC_0_1, flC_0_2, flC_0_3, flC_0_4, flC_0_5, flC_0_6, flC_0_7, flC_0_8, flC_0_9, flC_0_10, flC_1_0, flC_1_1, flC_1_2, flC_1_3, flC_1_4, flC_1_5, flC_1_6, flC_1_7, flC_2_0, flC_2_1, flC_2_2, flC_2_3, flC_2_4, flC_2_5, flC_2_6, flC_2_7, flC_2_8, arC_3, arC_4, arC_5, arC_6, arC_7, arC_8, arC_9, flC_10_0, flC_10_1, flC_10_2, flC_10_3, flC_10_4, flC_10_5, flC_10_6, flC_10_7, flC_10_8, arC_11, arC_12, arC_13, arC_14, arC_15, arC_16, flC_17_0, arC_18, flC_19_0, flC_19_1, flC_19_2, arC_20, flC_21_0, flC_21_1, flC_21_2, arC_22, arC_23, flC_24_0, flC_24_1, flC_24_2, arC_25, flC_26_0, flC_26_1, flC_26_2, arC_27, arC_28, flC_29_0, arC_30, flC_31_0, flC_31_1, arC_32, arC_33, arC_34]
      try simp only [up, upL, rp, sf, cpy, Nat.reduceEqDiff, reduceIte, Int.reduceNeg, Int.reduceLE, Int.reduceLT, Int.reduceEq, Int.reduceAdd, Int.reduceSub, Int.reduceMul, ne_eq, not_true_eq_false, not_false_eq_true, true_and, and_true, and_self, false_implies, true_implies, implies_true, forall_const, Nat.reduceAdd, Int.add_zero, Int.zero_add, true_or, or_true, false_or, or_false, List.length_nil, List.length_cons]
      rw [rp_rp, rp_k]
      refine hbad 1 (sk T n (C 1 5)) (by unfold rdN; rw [if_pos (by omega)]) _ _ ?_ ?_ ?_ ?_
      · exact hc
      · rfl
      · show (rdE T n (C 1 5) : Int) = _; omega
      · show 0 ≤ c 5 ∧ c 5 ≤ n; omega
  have L : ∀ (j : Nat) (v : Int) (c : Int → Int), RC c (C 1) → c 3 = C 1 3 → c 4 = 0 → c 6 = sk T n (C 1 5) → sk T n (C 1 5) ≤ c 5 → c 5 + j = n → dgf T n j (c 5) = rdE T n (C 1 5) → vcf T n (sk T n (C 1 5)) j (c 5) v = rdV T n (C 1 5) → Tf l X shC 1 mX5_readNumber Q 23 [some (vR 1), some (vI lo), some (vI hi), some (vI v), none] [] (rp C 1 c, w) := by
    intro j
    induction j with
    | zero =>
      intro v c hc c3 c4 c6 c5 cn hd hv
      have hd : c 5 = rdE T n (C 1 5) := hd
      have hv : v = rdV T n (C 1 5) := hv
      have c2 : c 2 = n := hc.1.trans hn.1
      (first | refine BX5_readNumber_0 ?_ | refine BX5_readNumber_9 ?_ | refine BX5_readNumber_13 ?_ | refine BX5_readNumber_23 ?_ | refine BX5_readNumber_93 ?_ | refine BX5_readNumber_106 ?_ | refine BX5_readNumber_131 ?_ | refine BX5_readNumber_134 ?_ | refine BX5_readNumber_150 ?_ | refine BX5_readNumber_159 ?_)
      dsimp only [bX5_readNumber_0, bX5_readNumber_9, bX5_readNumber_13, bX5_readNumber_23, bX5_readNumber_93, bX5_readNumber_106, bX5_readNumber_131, bX5_readNumber_134, bX5_readNumber_150, bX5_readNumber_159, o_add, o_ald, o_cge, o_cgt, o_cle, o_clt, o_dup, o_gf, o_ial, o_ic, o_ild, o_iret, o_ist, o_mul, o_pf, o_sub, o_v0, o_v2, o_zeq, o_zne, tk, lget, lput, lkill, lmask, ol, flC_0_0, flC_0_1, flC_0_2, flC_0_3, flC_0_4, flC_0_5, flC_0_6, flC_0_7, flC_0_8, flC_0_9, flC_0_10, flC_1_0, flC_1_1, flC_1_2, flC_1_3, flC_1_4, flC_1_5, flC_1_6, flC_1_7, flC_2_0, flC_2_1, flC_2_2, flC_2_3, flC_2_4, flC_2_5, flC_2_6, flC_2_7, flC_2_8, arC_3, arC_4, arC_5, arC_6, arC_7, arC_8, arC_9, flC_10_0, flC_10_1, flC_10_2, flC_10_3, flC_10_4, flC_10_5, flC_10_6, flC_10_7, flC_10_8, arC_11, arC_12, arC_13, arC_14, arC_15, arC_16, flC_17_0, arC_18, flC_19_0, flC_19_1, flC_19_2, arC_20, flC_21_0, flC_21_1, flC_21_2, arC_22, arC_23, flC_24_0, flC_24_1, flC_24_2, arC_25, flC_26_0, flC_26_1, flC_26_2, arC_27, arC_28, flC_29_0, arC_30, flC_31_0, flC_31_1, arC_32, arC_33, arC_34]
      try simp only [up, upL, rp, sf, cpy, Nat.reduceEqDiff, reduceIte, Int.reduceNeg, Int.reduceLE, Int.reduceLT, Int.reduceEq, Int.reduceAdd, Int.reduceSub, Int.reduceMul, ne_eq, not_true_eq_false, not_false_eq_true, true_and, and_true, and_self, false_implies, true_implies, implies_true, forall_const, Nat.reduceAdd, Int.add_zero, Int.zero_add, true_or, or_true, false_or, or_false, List.length_nil, List.length_cons]
      rw [c2]
      refine ⟨by omega, by omega, fun h => ?_, fun h => absurd h (by omega)⟩
      rw [hv]
      exact fin c hc c3 c4 hd c6
    | succ j ih =>
      intro v c hc c3 c4 c6 c5 cn hd hv
      have hd : (if c 5 < n ∧ isD (T (c 5)) = true then dgf T n j (c 5 + 1) else c 5) = rdE T n (C 1 5) := hd
      have hv : (if c 5 < n ∧ isD (T (c 5)) = true then vcf T n (sk T n (C 1 5)) j (c 5 + 1) (if c 5 - sk T n (C 1 5) < 3 then v * 10 + T (c 5) - 48 else v) else v) = rdV T n (C 1 5) := hv
      have c2 : c 2 = n := hc.1.trans hn.1
      have ht := hT.2 (c 5) (by omega) (by omega)
      have no : ¬ isD (T (c 5)) = true → Tf l X shC 1 mX5_readNumber Q 106 [some (vR 1), some (vI lo), some (vI hi), some (vI v), none] [] (rp C 1 c, w) := by
        intro h
        rw [if_neg (fun q => h q.2)] at hd hv
        rw [hv]
        exact fin c hc c3 c4 hd c6
      have e5 : sf c 5 (c 5 + 1) 5 = c 5 + 1 := by simp [sf]
      have go : ∀ v', isD (T (c 5)) = true → v' = (if c 5 - sk T n (C 1 5) < 3 then v * 10 + T (c 5) - 48 else v) → Tf l X shC 1 mX5_readNumber Q 93 [some (vR 1), some (vI lo), some (vI hi), some (vI v'), none] [] (rp C 1 c, w) := by
        intro v' h h'
        rw [if_pos ⟨by omega, h⟩] at hd hv
        rw [← h'] at hv
        (first | refine BX5_readNumber_0 ?_ | refine BX5_readNumber_9 ?_ | refine BX5_readNumber_13 ?_ | refine BX5_readNumber_23 ?_ | refine BX5_readNumber_93 ?_ | refine BX5_readNumber_106 ?_ | refine BX5_readNumber_131 ?_ | refine BX5_readNumber_134 ?_ | refine BX5_readNumber_150 ?_ | refine BX5_readNumber_159 ?_)
        dsimp only [bX5_readNumber_0, bX5_readNumber_9, bX5_readNumber_13, bX5_readNumber_23, bX5_readNumber_93, bX5_readNumber_106, bX5_readNumber_131, bX5_readNumber_134, bX5_readNumber_150, bX5_readNumber_159, o_add, o_ald, o_cge, o_cgt, o_cle, o_clt, o_dup, o_gf, o_ial, o_ic, o_ild, o_iret, o_ist, o_mul, o_pf, o_sub, o_v0, o_v2, o_zeq, o_zne, tk, lget, lput, lkill, lmask, ol, flC_0_0, flC_0_1, flC_0_2, flC_0_3, flC_0_4, flC_0_5, flC_0_6, flC_0_7, flC_0_8, flC_0_9, flC_0_10, flC_1_0, flC_1_1, flC_1_2, flC_1_3, flC_1_4, flC_1_5, flC_1_6, flC_1_7, flC_2_0, flC_2_1, flC_2_2, flC_2_3, flC_2_4, flC_2_5, flC_2_6, flC_2_7, flC_2_8, arC_3, arC_4, arC_5, arC_6, arC_7, arC_8, arC_9, flC_10_0, flC_10_1, flC_10_2, flC_10_3, flC_10_4, flC_10_5, flC_10_6, flC_10_7, flC_10_8, arC_11, arC_12, arC_13, arC_14, arC_15, arC_16, flC_17_0, arC_18, flC_19_0, flC_19_1, flC_19_2, arC_20, flC_21_0, flC_21_1, flC_21_2, arC_22, arC_23, flC_24_0, flC_24_1, flC_24_2, arC_25, flC_26_0, flC_26_1, flC_26_2, arC_27, arC_28, flC_29_0, arC_30, flC_31_0, flC_31_1, arC_32, arC_33, arC_34]
        try simp only [up, upL, rp, sf, cpy, Nat.reduceEqDiff, reduceIte, Int.reduceNeg, Int.reduceLE, Int.reduceLT, Int.reduceEq, Int.reduceAdd, Int.reduceSub, Int.reduceMul, ne_eq, not_true_eq_false, not_false_eq_true, true_and, and_true, and_self, false_implies, true_implies, implies_true, forall_const, Nat.reduceAdd, Int.add_zero, Int.zero_add, true_or, or_true, false_or, or_false, List.length_nil, List.length_cons]
        rw [up_to, rp_rp, rp_k]
        refine ih v' (sf c 5 (c 5 + 1)) hc c3 c4 c6 (by rw [e5]; omega) (by rw [e5]; omega) (by rw [e5]; exact hd) (by rw [e5]; exact hv)
      (first | refine BX5_readNumber_0 ?_ | refine BX5_readNumber_9 ?_ | refine BX5_readNumber_13 ?_ | refine BX5_readNumber_23 ?_ | refine BX5_readNumber_93 ?_ | refine BX5_readNumber_106 ?_ | refine BX5_readNumber_131 ?_ | refine BX5_readNumber_134 ?_ | refine BX5_readNumber_150 ?_ | refine BX5_readNumber_159 ?_)
      dsimp only [bX5_readNumber_0, bX5_readNumber_9, bX5_readNumber_13, bX5_readNumber_23, bX5_readNumber_93, bX5_readNumber_106, bX5_readNumber_131, bX5_readNumber_134, bX5_readNumber_150, bX5_readNumber_159, o_add, o_ald, o_cge, o_cgt, o_cle, o_clt, o_dup, o_gf, o_ial, o_ic, o_ild, o_iret, o_ist, o_mul, o_pf, o_sub, o_v0, o_v2, o_zeq, o_zne, tk, lget, lput, lkill, lmask, ol, flC_0_0, flC_0_1, flC_0_2, flC_0_3, flC_0_4, flC_0_5, flC_0_6, flC_0_7, flC_0_8, flC_0_9, flC_0_10, flC_1_0, flC_1_1, flC_1_2, flC_1_3, flC_1_4, flC_1_5, flC_1_6, flC_1_7, flC_2_0, flC_2_1, flC_2_2, flC_2_3, flC_2_4, flC_2_5, flC_2_6, flC_2_7, flC_2_8, arC_3, arC_4, arC_5, arC_6, arC_7, arC_8, arC_9, flC_10_0, flC_10_1, flC_10_2, flC_10_3, flC_10_4, flC_10_5, flC_10_6, flC_10_7, flC_10_8, arC_11, arC_12, arC_13, arC_14, arC_15, arC_16, flC_17_0, arC_18, flC_19_0, flC_19_1, flC_19_2, arC_20, flC_21_0, flC_21_1, flC_21_2, arC_22, arC_23, flC_24_0, flC_24_1, flC_24_2, arC_25, flC_26_0, flC_26_1, flC_26_2, arC_27, arC_28, flC_29_0, arC_30, flC_31_0, flC_31_1, arC_32, arC_33, arC_34]
      try simp only [up, upL, rp, sf, cpy, Nat.reduceEqDiff, reduceIte, Int.reduceNeg, Int.reduceLE, Int.reduceLT, Int.reduceEq, Int.reduceAdd, Int.reduceSub, Int.reduceMul, ne_eq, not_true_eq_false, not_false_eq_true, true_and, and_true, and_self, false_implies, true_implies, implies_true, forall_const, Nat.reduceAdd, Int.add_zero, Int.zero_add, true_or, or_true, false_or, or_false, List.length_nil, List.length_cons]
      rw [c2, ht.1, c6]
      refine ⟨by omega, by omega, fun h => absurd h (by omega), fun h => ⟨by omega, by omega, fun h5 => no (fun q => by have := of_decide_eq_true q; omega), fun h5 => ⟨by omega, by omega, fun h6 => no (fun q => by have := of_decide_eq_true q; omega), fun h6 => ⟨by omega, fun h7 => ?_, fun h7 => ?_⟩⟩⟩⟩
      · exact go v (decide_eq_true (by omega)) (by rw [if_neg (by omega)])
      · refine ⟨by omega, ?_⟩
        exact go _ (decide_eq_true (by omega)) (by rw [if_pos (by omega)])
  refine EX5_readNumber rfl ?_
  (first | refine BX5_readNumber_0 ?_ | refine BX5_readNumber_9 ?_ | refine BX5_readNumber_13 ?_ | refine BX5_readNumber_23 ?_ | refine BX5_readNumber_93 ?_ | refine BX5_readNumber_106 ?_ | refine BX5_readNumber_131 ?_ | refine BX5_readNumber_134 ?_ | refine BX5_readNumber_150 ?_ | refine BX5_readNumber_159 ?_)
  dsimp only [bX5_readNumber_0, bX5_readNumber_9, bX5_readNumber_13, bX5_readNumber_23, bX5_readNumber_93, bX5_readNumber_106, bX5_readNumber_131, bX5_readNumber_134, bX5_readNumber_150, bX5_readNumber_159, o_add, o_ald, o_cge, o_cgt, o_cle, o_clt, o_dup, o_gf, o_ial, o_ic, o_ild, o_iret, o_ist, o_mul, o_pf, o_sub, o_v0, o_v2, o_zeq, o_zne, tk, lget, lput, lkill, lmask, ol, lent, flC_0_0, flC_0_1, flC_0_2, flC_0_3, flC_0_4, flC_0_5, flC_0_6, flC_0_7, flC_0_8, flC_0_9, flC_0_10, flC_1_0, flC_1_1, flC_1_2, flC_1_3, flC_1_4, flC_1_5, flC_1_6, flC_1_7, flC_2_0, flC_2_1, flC_2_2, flC_2_3, flC_2_4, flC_2_5, flC_2_6, flC_2_7, flC_2_8, arC_3, arC_4, arC_5, arC_6, arC_7, arC_8, arC_9, flC_10_0, flC_10_1, flC_10_2, flC_10_3, flC_10_4, flC_10_5, flC_10_6, flC_10_7, flC_10_8, arC_11, arC_12, arC_13, arC_14, arC_15, arC_16, flC_17_0, arC_18, flC_19_0, flC_19_1, flC_19_2, arC_20, flC_21_0, flC_21_1, flC_21_2, arC_22, arC_23, flC_24_0, flC_24_1, flC_24_2, arC_25, flC_26_0, flC_26_1, flC_26_2, arC_27, arC_28, flC_29_0, arC_30, flC_31_0, flC_31_1, arC_32, arC_33, arC_34]
  try simp only [up, upL, rp, sf, cpy, Nat.reduceEqDiff, reduceIte, Int.reduceNeg, Int.reduceLE, Int.reduceLT, Int.reduceEq, Int.reduceAdd, Int.reduceSub, Int.reduceMul, ne_eq, not_true_eq_false, not_false_eq_true, true_and, and_true, and_self, false_implies, true_implies, implies_true, forall_const, Nat.reduceAdd, Int.add_zero, Int.zero_add, true_or, or_true, false_or, or_false, List.length_nil, List.length_cons]
  rw [h4]
  refine ⟨by decide, fun _ => ?_, fun h => absurd rfl h⟩
  (first | refine BX5_readNumber_0 ?_ | refine BX5_readNumber_9 ?_ | refine BX5_readNumber_13 ?_ | refine BX5_readNumber_23 ?_ | refine BX5_readNumber_93 ?_ | refine BX5_readNumber_106 ?_ | refine BX5_readNumber_131 ?_ | refine BX5_readNumber_134 ?_ | refine BX5_readNumber_150 ?_ | refine BX5_readNumber_159 ?_)
  dsimp only [bX5_readNumber_0, bX5_readNumber_9, bX5_readNumber_13, bX5_readNumber_23, bX5_readNumber_93, bX5_readNumber_106, bX5_readNumber_131, bX5_readNumber_134, bX5_readNumber_150, bX5_readNumber_159, o_add, o_ald, o_cge, o_cgt, o_cle, o_clt, o_dup, o_gf, o_ial, o_ic, o_ild, o_iret, o_ist, o_mul, o_pf, o_sub, o_v0, o_v2, o_zeq, o_zne, tk, lget, lput, lkill, lmask, ol, flC_0_0, flC_0_1, flC_0_2, flC_0_3, flC_0_4, flC_0_5, flC_0_6, flC_0_7, flC_0_8, flC_0_9, flC_0_10, flC_1_0, flC_1_1, flC_1_2, flC_1_3, flC_1_4, flC_1_5, flC_1_6, flC_1_7, flC_2_0, flC_2_1, flC_2_2, flC_2_3, flC_2_4, flC_2_5, flC_2_6, flC_2_7, flC_2_8, arC_3, arC_4, arC_5, arC_6, arC_7, arC_8, arC_9, flC_10_0, flC_10_1, flC_10_2, flC_10_3, flC_10_4, flC_10_5, flC_10_6, flC_10_7, flC_10_8, arC_11, arC_12, arC_13, arC_14, arC_15, arC_16, flC_17_0, arC_18, flC_19_0, flC_19_1, flC_19_2, arC_20, flC_21_0, flC_21_1, flC_21_2, arC_22, arC_23, flC_24_0, flC_24_1, flC_24_2, arC_25, flC_26_0, flC_26_1, flC_26_2, arC_27, arC_28, flC_29_0, arC_30, flC_31_0, flC_31_1, arC_32, arC_33, arC_34]
  try simp only [up, upL, rp, sf, cpy, Nat.reduceEqDiff, reduceIte, Int.reduceNeg, Int.reduceLE, Int.reduceLT, Int.reduceEq, Int.reduceAdd, Int.reduceSub, Int.reduceMul, ne_eq, not_true_eq_false, not_false_eq_true, true_and, and_true, and_self, false_implies, true_implies, implies_true, forall_const, Nat.reduceAdd, Int.add_zero, Int.zero_add, true_or, or_true, false_or, or_false, List.length_nil, List.length_cons]
  refine ⟨rfl, k_skip hT p0 p1 ?_⟩
  (first | refine BX5_readNumber_0 ?_ | refine BX5_readNumber_9 ?_ | refine BX5_readNumber_13 ?_ | refine BX5_readNumber_23 ?_ | refine BX5_readNumber_93 ?_ | refine BX5_readNumber_106 ?_ | refine BX5_readNumber_131 ?_ | refine BX5_readNumber_134 ?_ | refine BX5_readNumber_150 ?_ | refine BX5_readNumber_159 ?_)
  dsimp only [bX5_readNumber_0, bX5_readNumber_9, bX5_readNumber_13, bX5_readNumber_23, bX5_readNumber_93, bX5_readNumber_106, bX5_readNumber_131, bX5_readNumber_134, bX5_readNumber_150, bX5_readNumber_159, o_add, o_ald, o_cge, o_cgt, o_cle, o_clt, o_dup, o_gf, o_ial, o_ic, o_ild, o_iret, o_ist, o_mul, o_pf, o_sub, o_v0, o_v2, o_zeq, o_zne, tk, lget, lput, lkill, lmask, ol, flC_0_0, flC_0_1, flC_0_2, flC_0_3, flC_0_4, flC_0_5, flC_0_6, flC_0_7, flC_0_8, flC_0_9, flC_0_10, flC_1_0, flC_1_1, flC_1_2, flC_1_3, flC_1_4, flC_1_5, flC_1_6, flC_1_7, flC_2_0, flC_2_1, flC_2_2, flC_2_3, flC_2_4, flC_2_5, flC_2_6, flC_2_7, flC_2_8, arC_3, arC_4, arC_5, arC_6, arC_7, arC_8, arC_9, flC_10_0, flC_10_1, flC_10_2, flC_10_3, flC_10_4, flC_10_5, flC_10_6, flC_10_7, flC_10_8, arC_11, arC_12, arC_13, arC_14, arC_15, arC_16, flC_17_0, arC_18, flC_19_0, flC_19_1, flC_19_2, arC_20, flC_21_0, flC_21_1, flC_21_2, arC_22, arC_23, flC_24_0, flC_24_1, flC_24_2, arC_25, flC_26_0, flC_26_1, flC_26_2, arC_27, arC_28, flC_29_0, arC_30, flC_31_0, flC_31_1, arC_32, arC_33, arC_34]
  try simp only [up, upL, rp, sf, cpy, Nat.reduceEqDiff, reduceIte, Int.reduceNeg, Int.reduceLE, Int.reduceLT, Int.reduceEq, Int.reduceAdd, Int.reduceSub, Int.reduceMul, ne_eq, not_true_eq_false, not_false_eq_true, true_and, and_true, and_self, false_implies, true_implies, implies_true, forall_const, Nat.reduceAdd, Int.add_zero, Int.zero_add, true_or, or_true, false_or, or_false, List.length_nil, List.length_cons]
  rw [up_to, rp_rp, rp_k]
  have e5 : sf (sf (C 1) 5 (sk T n (C 1 5))) 6 (sk T n (C 1 5)) 5 = sk T n (C 1 5) := by simp [sf]
  exact L (n - sk T n (C 1 5)).toNat 0 (sf (sf (C 1) 5 (sk T n (C 1 5))) 6 (sk T n (C 1 5))) ⟨rfl, rfl⟩ rfl h4 (by simp [sf]) (by rw [e5]; omega) (by rw [e5]; omega) (by rw [e5]; rfl) (by rw [e5]; rfl)
theorem k_readNumber_bad {l : Launch} {X : Cx} {Q : Qt} {M : Me} {lo hi : Int} (h4 : 1 ≤ M.1 1 4 ∧ M.1 1 4 ≤ 4) (hq : Q (some (vI (-1))) M) : TM l X shC 1 mX5_readNumber [vR 1, vI lo, vI hi] M Q := by
  refine EX5_readNumber rfl ?_
  (first | refine BX5_readNumber_0 ?_ | refine BX5_readNumber_9 ?_ | refine BX5_readNumber_13 ?_ | refine BX5_readNumber_23 ?_ | refine BX5_readNumber_93 ?_ | refine BX5_readNumber_106 ?_ | refine BX5_readNumber_131 ?_ | refine BX5_readNumber_134 ?_ | refine BX5_readNumber_150 ?_ | refine BX5_readNumber_159 ?_)
  dsimp only [bX5_readNumber_0, bX5_readNumber_9, bX5_readNumber_13, bX5_readNumber_23, bX5_readNumber_93, bX5_readNumber_106, bX5_readNumber_131, bX5_readNumber_134, bX5_readNumber_150, bX5_readNumber_159, o_add, o_ald, o_cge, o_cgt, o_cle, o_clt, o_dup, o_gf, o_ial, o_ic, o_ild, o_iret, o_ist, o_mul, o_pf, o_sub, o_v0, o_v2, o_zeq, o_zne, tk, lget, lput, lkill, lmask, ol, lent, flC_0_0, flC_0_1, flC_0_2, flC_0_3, flC_0_4, flC_0_5, flC_0_6, flC_0_7, flC_0_8, flC_0_9, flC_0_10, flC_1_0, flC_1_1, flC_1_2, flC_1_3, flC_1_4, flC_1_5, flC_1_6, flC_1_7, flC_2_0, flC_2_1, flC_2_2, flC_2_3, flC_2_4, flC_2_5, flC_2_6, flC_2_7, flC_2_8, arC_3, arC_4, arC_5, arC_6, arC_7, arC_8, arC_9, flC_10_0, flC_10_1, flC_10_2, flC_10_3, flC_10_4, flC_10_5, flC_10_6, flC_10_7, flC_10_8, arC_11, arC_12, arC_13, arC_14, arC_15, arC_16, flC_17_0, arC_18, flC_19_0, flC_19_1, flC_19_2, arC_20, flC_21_0, flC_21_1, flC_21_2, arC_22, arC_23, flC_24_0, flC_24_1, flC_24_2, arC_25, flC_26_0, flC_26_1, flC_26_2, arC_27, arC_28, flC_29_0, arC_30, flC_31_0, flC_31_1, arC_32, arC_33, arC_34]
  try simp only [up, upL, rp, sf, cpy, Nat.reduceEqDiff, reduceIte, Int.reduceNeg, Int.reduceLE, Int.reduceLT, Int.reduceEq, Int.reduceAdd, Int.reduceSub, Int.reduceMul, ne_eq, not_true_eq_false, not_false_eq_true, true_and, and_true, and_self, false_implies, true_implies, implies_true, forall_const, Nat.reduceAdd, Int.add_zero, Int.zero_add, true_or, or_true, false_or, or_false, List.length_nil, List.length_cons]
  exact ⟨by omega, fun h => absurd h (by omega), fun h => hq⟩
theorem k_closes {l : Launch} {X : Cx} {Q : Qt} {C : Nat → Int → Int} {w T : Int → Int} {n : Int} (hT : TX C T n) (h4 : C 1 4 = 0) (p0 : 0 ≤ C 1 5) (p1 : C 1 5 ≤ n)
    (hbad : ¬ (sk T n (C 1 5) < n ∧ T (sk T n (C 1 5)) = 59) → ∀ c, RC c (C 1) → c 4 = 1 → c 3 = sk T n (C 1 5) → (0 ≤ c 5 ∧ c 5 ≤ n) → Q (some (vI 0)) (rp C 1 c, w))
    (hok : sk T n (C 1 5) < n ∧ T (sk T n (C 1 5)) = 59 → ∀ c, RC c (C 1) → c 3 = C 1 3 → c 4 = 0 → c 5 = sk T n (C 1 5) + 1 → Q (some (vI 1)) (rp C 1 c, w)) : TM l X shC 1 mX5_closes [vR 1] (C, w) Q := by
  have hn := hT.1
  have hs := sk_bd (T := T) p1
  have no : ¬ (sk T n (C 1 5) < n ∧ T (sk T n (C 1 5)) = 59) → Tf l X shC 1 mX5_closes Q 38 [some (vR 1)] [] (rp C 1 (sf (C 1) 5 (sk T n (C 1 5))), w) := by
    intro h
    (first | refine BX5_closes_0 ?_ | refine BX5_closes_9 ?_ | refine BX5_closes_13 ?_ | refine BX5_closes_38 ?_ | refine BX5_closes_47 ?_ | refine BX5_closes_49 ?_)
    dsimp only [bX5_closes_0, bX5_closes_9, bX5_closes_13, bX5_closes_38, bX5_closes_47, bX5_closes_49, o_add, o_ald, o_ceq, o_cge, o_dup, o_gf, o_ial, o_ic, o_pf, o_v0, o_v2, o_zeq, o_zret, tk, lget, lput, lkill, lmask, ol, flC_0_0, flC_0_1, flC_0_2, flC_0_3, flC_0_4, flC_0_5, flC_0_6, flC_0_7, flC_0_8, flC_0_9, flC_0_10, flC_1_0, flC_1_1, flC_1_2, flC_1_3, flC_1_4, flC_1_5, flC_1_6, flC_1_7, flC_2_0, flC_2_1, flC_2_2, flC_2_3, flC_2_4, flC_2_5, flC_2_6, flC_2_7, flC_2_8, arC_3, arC_4, arC_5, arC_6, arC_7, arC_8, arC_9, flC_10_0, flC_10_1, flC_10_2, flC_10_3, flC_10_4, flC_10_5, flC_10_6, flC_10_7, flC_10_8, arC_11, arC_12, arC_13, arC_14, arC_15, arC_16, flC_17_0, arC_18, flC_19_0, flC_19_1, flC_19_2, arC_20, flC_21_0, flC_21_1, flC_21_2, arC_22, arC_23, flC_24_0, flC_24_1, flC_24_2, arC_25, flC_26_0, flC_26_1, flC_26_2, arC_27, arC_28, flC_29_0, arC_30, flC_31_0, flC_31_1, arC_32, arC_33, arC_34]
    try simp only [up, upL, rp, sf, cpy, Nat.reduceEqDiff, reduceIte, Int.reduceNeg, Int.reduceLE, Int.reduceLT, Int.reduceEq, Int.reduceAdd, Int.reduceSub, Int.reduceMul, ne_eq, not_true_eq_false, not_false_eq_true, true_and, and_true, and_self, false_implies, true_implies, implies_true, forall_const, Nat.reduceAdd, Int.add_zero, Int.zero_add, true_or, or_true, false_or, or_false, List.length_nil, List.length_cons]
    refine ⟨rfl, k_blame ?_⟩
    (first | refine BX5_closes_0 ?_ | refine BX5_closes_9 ?_ | refine BX5_closes_13 ?_ | refine BX5_closes_38 ?_ | refine BX5_closes_47 ?_ | refine BX5_closes_49 ?_)
    dsimp only [bX5_closes_0, bX5_closes_9, bX5_closes_13, bX5_closes_38, bX5_closes_47, bX5_closes_49, o_add, o_ald, o_ceq, o_cge, o_dup, o_gf, o_ial, o_ic, o_pf, o_v0, o_v2, o_zeq, o_zret, tk, lget, lput, lkill, lmask, ol, flC_0_0, flC_0_1, flC_0_2, flC_0_3, flC_0_4, flC_0_5, flC_0_6, flC_0_7, flC_0_8, flC_0_9, flC_0_10, flC_1_0, flC_1_1, flC_1_2, flC_1_3, flC_1_4, flC_1_5, flC_1_6, flC_1_7, flC_2_0, flC_2_1, flC_2_2, flC_2_3, flC_2_4, flC_2_5, flC_2_6, flC_2_7, flC_2_8, arC_3, arC_4, arC_5, arC_6, arC_7, arC_8, arC_9, flC_10_0, flC_10_1, flC_10_2, flC_10_3, flC_10_4, flC_10_5, flC_10_6, flC_10_7, flC_10_8, arC_11, arC_12, arC_13, arC_14, arC_15, arC_16, flC_17_0, arC_18, flC_19_0, flC_19_1, flC_19_2, arC_20, flC_21_0, flC_21_1, flC_21_2, arC_22, arC_23, flC_24_0, flC_24_1, flC_24_2, arC_25, flC_26_0, flC_26_1, flC_26_2, arC_27, arC_28, flC_29_0, arC_30, flC_31_0, flC_31_1, arC_32, arC_33, arC_34]
    try simp only [up, upL, rp, sf, cpy, Nat.reduceEqDiff, reduceIte, Int.reduceNeg, Int.reduceLE, Int.reduceLT, Int.reduceEq, Int.reduceAdd, Int.reduceSub, Int.reduceMul, ne_eq, not_true_eq_false, not_false_eq_true, true_and, and_true, and_self, false_implies, true_implies, implies_true, forall_const, Nat.reduceAdd, Int.add_zero, Int.zero_add, true_or, or_true, false_or, or_false, List.length_nil, List.length_cons]
    rw [rp_rp, rp_k]
    exact hbad h _ ⟨rfl, rfl⟩ rfl rfl (show 0 ≤ sk T n (C 1 5) ∧ sk T n (C 1 5) ≤ n by omega)
  refine EX5_closes rfl ?_
  (first | refine BX5_closes_0 ?_ | refine BX5_closes_9 ?_ | refine BX5_closes_13 ?_ | refine BX5_closes_38 ?_ | refine BX5_closes_47 ?_ | refine BX5_closes_49 ?_)
  dsimp only [bX5_closes_0, bX5_closes_9, bX5_closes_13, bX5_closes_38, bX5_closes_47, bX5_closes_49, o_add, o_ald, o_ceq, o_cge, o_dup, o_gf, o_ial, o_ic, o_pf, o_v0, o_v2, o_zeq, o_zret, tk, lget, lput, lkill, lmask, ol, lent, flC_0_0, flC_0_1, flC_0_2, flC_0_3, flC_0_4, flC_0_5, flC_0_6, flC_0_7, flC_0_8, flC_0_9, flC_0_10, flC_1_0, flC_1_1, flC_1_2, flC_1_3, flC_1_4, flC_1_5, flC_1_6, flC_1_7, flC_2_0, flC_2_1, flC_2_2, flC_2_3, flC_2_4, flC_2_5, flC_2_6, flC_2_7, flC_2_8, arC_3, arC_4, arC_5, arC_6, arC_7, arC_8, arC_9, flC_10_0, flC_10_1, flC_10_2, flC_10_3, flC_10_4, flC_10_5, flC_10_6, flC_10_7, flC_10_8, arC_11, arC_12, arC_13, arC_14, arC_15, arC_16, flC_17_0, arC_18, flC_19_0, flC_19_1, flC_19_2, arC_20, flC_21_0, flC_21_1, flC_21_2, arC_22, arC_23, flC_24_0, flC_24_1, flC_24_2, arC_25, flC_26_0, flC_26_1, flC_26_2, arC_27, arC_28, flC_29_0, arC_30, flC_31_0, flC_31_1, arC_32, arC_33, arC_34]
  try simp only [up, upL, rp, sf, cpy, Nat.reduceEqDiff, reduceIte, Int.reduceNeg, Int.reduceLE, Int.reduceLT, Int.reduceEq, Int.reduceAdd, Int.reduceSub, Int.reduceMul, ne_eq, not_true_eq_false, not_false_eq_true, true_and, and_true, and_self, false_implies, true_implies, implies_true, forall_const, Nat.reduceAdd, Int.add_zero, Int.zero_add, true_or, or_true, false_or, or_false, List.length_nil, List.length_cons]
  rw [h4]
  refine ⟨by decide, fun _ => ?_, fun h => absurd rfl h⟩
  (first | refine BX5_closes_0 ?_ | refine BX5_closes_9 ?_ | refine BX5_closes_13 ?_ | refine BX5_closes_38 ?_ | refine BX5_closes_47 ?_ | refine BX5_closes_49 ?_)
  dsimp only [bX5_closes_0, bX5_closes_9, bX5_closes_13, bX5_closes_38, bX5_closes_47, bX5_closes_49, o_add, o_ald, o_ceq, o_cge, o_dup, o_gf, o_ial, o_ic, o_pf, o_v0, o_v2, o_zeq, o_zret, tk, lget, lput, lkill, lmask, ol, flC_0_0, flC_0_1, flC_0_2, flC_0_3, flC_0_4, flC_0_5, flC_0_6, flC_0_7, flC_0_8, flC_0_9, flC_0_10, flC_1_0, flC_1_1, flC_1_2, flC_1_3, flC_1_4, flC_1_5, flC_1_6, flC_1_7, flC_2_0, flC_2_1, flC_2_2, flC_2_3, flC_2_4, flC_2_5, flC_2_6, flC_2_7, flC_2_8, arC_3, arC_4, arC_5, arC_6, arC_7, arC_8, arC_9, flC_10_0, flC_10_1, flC_10_2, flC_10_3, flC_10_4, flC_10_5, flC_10_6, flC_10_7, flC_10_8, arC_11, arC_12, arC_13, arC_14, arC_15, arC_16, flC_17_0, arC_18, flC_19_0, flC_19_1, flC_19_2, arC_20, flC_21_0, flC_21_1, flC_21_2, arC_22, arC_23, flC_24_0, flC_24_1, flC_24_2, arC_25, flC_26_0, flC_26_1, flC_26_2, arC_27, arC_28, flC_29_0, arC_30, flC_31_0, flC_31_1, arC_32, arC_33, arC_34]
  try simp only [up, upL, rp, sf, cpy, Nat.reduceEqDiff, reduceIte, Int.reduceNeg, Int.reduceLE, Int.reduceLT, Int.reduceEq, Int.reduceAdd, Int.reduceSub, Int.reduceMul, ne_eq, not_true_eq_false, not_false_eq_true, true_and, and_true, and_self, false_implies, true_implies, implies_true, forall_const, Nat.reduceAdd, Int.add_zero, Int.zero_add, true_or, or_true, false_or, or_false, List.length_nil, List.length_cons]
  refine ⟨rfl, k_skip hT p0 p1 ?_⟩
  (first | refine BX5_closes_0 ?_ | refine BX5_closes_9 ?_ | refine BX5_closes_13 ?_ | refine BX5_closes_38 ?_ | refine BX5_closes_47 ?_ | refine BX5_closes_49 ?_)
  dsimp only [bX5_closes_0, bX5_closes_9, bX5_closes_13, bX5_closes_38, bX5_closes_47, bX5_closes_49, o_add, o_ald, o_ceq, o_cge, o_dup, o_gf, o_ial, o_ic, o_pf, o_v0, o_v2, o_zeq, o_zret, tk, lget, lput, lkill, lmask, ol, flC_0_0, flC_0_1, flC_0_2, flC_0_3, flC_0_4, flC_0_5, flC_0_6, flC_0_7, flC_0_8, flC_0_9, flC_0_10, flC_1_0, flC_1_1, flC_1_2, flC_1_3, flC_1_4, flC_1_5, flC_1_6, flC_1_7, flC_2_0, flC_2_1, flC_2_2, flC_2_3, flC_2_4, flC_2_5, flC_2_6, flC_2_7, flC_2_8, arC_3, arC_4, arC_5, arC_6, arC_7, arC_8, arC_9, flC_10_0, flC_10_1, flC_10_2, flC_10_3, flC_10_4, flC_10_5, flC_10_6, flC_10_7, flC_10_8, arC_11, arC_12, arC_13, arC_14, arC_15, arC_16, flC_17_0, arC_18, flC_19_0, flC_19_1, flC_19_2, arC_20, flC_21_0, flC_21_1, flC_21_2, arC_22, arC_23, flC_24_0, flC_24_1, flC_24_2, arC_25, flC_26_0, flC_26_1, flC_26_2, arC_27, arC_28, flC_29_0, arC_30, flC_31_0, flC_31_1, arC_32, arC_33, arC_34]
  try simp only [up, upL, rp, sf, cpy, Nat.reduceEqDiff, reduceIte, Int.reduceNeg, Int.reduceLE, Int.reduceLT, Int.reduceEq, Int.reduceAdd, Int.reduceSub, Int.reduceMul, ne_eq, not_true_eq_false, not_false_eq_true, true_and, and_true, and_self, false_implies, true_implies, implies_true, forall_const, Nat.reduceAdd, Int.add_zero, Int.zero_add, true_or, or_true, false_or, or_false, List.length_nil, List.length_cons]
  rw [hn.1]
  refine ⟨by omega, by omega, fun h => no (by omega), fun h => ?_⟩
  have ht := hT.2 (sk T n (C 1 5)) (by omega) h
  rw [ht.1]
  refine ⟨by omega, by omega, fun h5 => ?_, fun h5 => no (by omega)⟩
  (first | refine BX5_closes_0 ?_ | refine BX5_closes_9 ?_ | refine BX5_closes_13 ?_ | refine BX5_closes_38 ?_ | refine BX5_closes_47 ?_ | refine BX5_closes_49 ?_)
  dsimp only [bX5_closes_0, bX5_closes_9, bX5_closes_13, bX5_closes_38, bX5_closes_47, bX5_closes_49, o_add, o_ald, o_ceq, o_cge, o_dup, o_gf, o_ial, o_ic, o_pf, o_v0, o_v2, o_zeq, o_zret, tk, lget, lput, lkill, lmask, ol, flC_0_0, flC_0_1, flC_0_2, flC_0_3, flC_0_4, flC_0_5, flC_0_6, flC_0_7, flC_0_8, flC_0_9, flC_0_10, flC_1_0, flC_1_1, flC_1_2, flC_1_3, flC_1_4, flC_1_5, flC_1_6, flC_1_7, flC_2_0, flC_2_1, flC_2_2, flC_2_3, flC_2_4, flC_2_5, flC_2_6, flC_2_7, flC_2_8, arC_3, arC_4, arC_5, arC_6, arC_7, arC_8, arC_9, flC_10_0, flC_10_1, flC_10_2, flC_10_3, flC_10_4, flC_10_5, flC_10_6, flC_10_7, flC_10_8, arC_11, arC_12, arC_13, arC_14, arC_15, arC_16, flC_17_0, arC_18, flC_19_0, flC_19_1, flC_19_2, arC_20, flC_21_0, flC_21_1, flC_21_2, arC_22, arC_23, flC_24_0, flC_24_1, flC_24_2, arC_25, flC_26_0, flC_26_1, flC_26_2, arC_27, arC_28, flC_29_0, arC_30, flC_31_0, flC_31_1, arC_32, arC_33, arC_34]
  try simp only [up, upL, rp, sf, cpy, Nat.reduceEqDiff, reduceIte, Int.reduceNeg, Int.reduceLE, Int.reduceLT, Int.reduceEq, Int.reduceAdd, Int.reduceSub, Int.reduceMul, ne_eq, not_true_eq_false, not_false_eq_true, true_and, and_true, and_self, false_implies, true_implies, implies_true, forall_const, Nat.reduceAdd, Int.add_zero, Int.zero_add, true_or, or_true, false_or, or_false, List.length_nil, List.length_cons]
  rw [up_to, rp_rp, rp_k, sf_sf]
  exact hok ⟨h, h5⟩ _ ⟨rfl, rfl⟩ rfl h4 rfl
theorem k_closes_bad {l : Launch} {X : Cx} {Q : Qt} {M : Me} (h4 : 1 ≤ M.1 1 4 ∧ M.1 1 4 ≤ 4) (hq : Q (some (vI 0)) M) : TM l X shC 1 mX5_closes [vR 1] M Q := by
  refine EX5_closes rfl ?_
  (first | refine BX5_closes_0 ?_ | refine BX5_closes_9 ?_ | refine BX5_closes_13 ?_ | refine BX5_closes_38 ?_ | refine BX5_closes_47 ?_ | refine BX5_closes_49 ?_)
  dsimp only [bX5_closes_0, bX5_closes_9, bX5_closes_13, bX5_closes_38, bX5_closes_47, bX5_closes_49, o_add, o_ald, o_ceq, o_cge, o_dup, o_gf, o_ial, o_ic, o_pf, o_v0, o_v2, o_zeq, o_zret, tk, lget, lput, lkill, lmask, ol, lent, flC_0_0, flC_0_1, flC_0_2, flC_0_3, flC_0_4, flC_0_5, flC_0_6, flC_0_7, flC_0_8, flC_0_9, flC_0_10, flC_1_0, flC_1_1, flC_1_2, flC_1_3, flC_1_4, flC_1_5, flC_1_6, flC_1_7, flC_2_0, flC_2_1, flC_2_2, flC_2_3, flC_2_4, flC_2_5, flC_2_6, flC_2_7, flC_2_8, arC_3, arC_4, arC_5, arC_6, arC_7, arC_8, arC_9, flC_10_0, flC_10_1, flC_10_2, flC_10_3, flC_10_4, flC_10_5, flC_10_6, flC_10_7, flC_10_8, arC_11, arC_12, arC_13, arC_14, arC_15, arC_16, flC_17_0, arC_18, flC_19_0, flC_19_1, flC_19_2, arC_20, flC_21_0, flC_21_1, flC_21_2, arC_22, arC_23, flC_24_0, flC_24_1, flC_24_2, arC_25, flC_26_0, flC_26_1, flC_26_2, arC_27, arC_28, flC_29_0, arC_30, flC_31_0, flC_31_1, arC_32, arC_33, arC_34]
  try simp only [up, upL, rp, sf, cpy, Nat.reduceEqDiff, reduceIte, Int.reduceNeg, Int.reduceLE, Int.reduceLT, Int.reduceEq, Int.reduceAdd, Int.reduceSub, Int.reduceMul, ne_eq, not_true_eq_false, not_false_eq_true, true_and, and_true, and_self, false_implies, true_implies, implies_true, forall_const, Nat.reduceAdd, Int.add_zero, Int.zero_add, true_or, or_true, false_or, or_false, List.length_nil, List.length_cons]
  exact ⟨by omega, fun h => absurd h (by omega), fun h => hq⟩
theorem k_opens_bad {l : Launch} {X : Cx} {Q : Qt} {M : Me} (hq : Q (some (vI 0)) (rp M.1 1 (sf (sf (M.1 1) 4 3) 3 (M.1 1 5)), M.2)) : TM l X shC 1 mX5_opens [vR 1, vI 1] M Q := by
  refine EX5_opens rfl ?_
  (first | refine BX5_opens_0 ?_ | refine BX5_opens_13 ?_ | refine BX5_opens_15 ?_)
  dsimp only [bX5_opens_0, bX5_opens_13, bX5_opens_15, o_add, o_ald, o_dup, o_gf, o_ic, o_ild, o_pf, o_v2, o_zeq, o_zret, tk, lget, lput, lkill, lmask, ol, lent, flC_0_0, flC_0_1, flC_0_2, flC_0_3, flC_0_4, flC_0_5, flC_0_6, flC_0_7, flC_0_8, flC_0_9, flC_0_10, flC_1_0, flC_1_1, flC_1_2, flC_1_3, flC_1_4, flC_1_5, flC_1_6, flC_1_7, flC_2_0, flC_2_1, flC_2_2, flC_2_3, flC_2_4, flC_2_5, flC_2_6, flC_2_7, flC_2_8, arC_3, arC_4, arC_5, arC_6, arC_7, arC_8, arC_9, flC_10_0, flC_10_1, flC_10_2, flC_10_3, flC_10_4, flC_10_5, flC_10_6, flC_10_7, flC_10_8, arC_11, arC_12, arC_13, arC_14, arC_15, arC_16, flC_17_0, arC_18, flC_19_0, flC_19_1, flC_19_2, arC_20, flC_21_0, flC_21_1, flC_21_2, arC_22, arC_23, flC_24_0, flC_24_1, flC_24_2, arC_25, flC_26_0, flC_26_1, flC_26_2, arC_27, arC_28, flC_29_0, arC_30, flC_31_0, flC_31_1, arC_32, arC_33, arC_34]
  try simp only [up, upL, rp, sf, cpy, Nat.reduceEqDiff, reduceIte, Int.reduceNeg, Int.reduceLE, Int.reduceLT, Int.reduceEq, Int.reduceAdd, Int.reduceSub, Int.reduceMul, ne_eq, not_true_eq_false, not_false_eq_true, true_and, and_true, and_self, false_implies, true_implies, implies_true, forall_const, Nat.reduceAdd, Int.add_zero, Int.zero_add, true_or, or_true, false_or, or_false, List.length_nil, List.length_cons]
  refine ⟨rfl, k_blame ?_⟩
  (first | refine BX5_opens_0 ?_ | refine BX5_opens_13 ?_ | refine BX5_opens_15 ?_)
  dsimp only [bX5_opens_0, bX5_opens_13, bX5_opens_15, o_add, o_ald, o_dup, o_gf, o_ic, o_ild, o_pf, o_v2, o_zeq, o_zret, tk, lget, lput, lkill, lmask, ol, flC_0_0, flC_0_1, flC_0_2, flC_0_3, flC_0_4, flC_0_5, flC_0_6, flC_0_7, flC_0_8, flC_0_9, flC_0_10, flC_1_0, flC_1_1, flC_1_2, flC_1_3, flC_1_4, flC_1_5, flC_1_6, flC_1_7, flC_2_0, flC_2_1, flC_2_2, flC_2_3, flC_2_4, flC_2_5, flC_2_6, flC_2_7, flC_2_8, arC_3, arC_4, arC_5, arC_6, arC_7, arC_8, arC_9, flC_10_0, flC_10_1, flC_10_2, flC_10_3, flC_10_4, flC_10_5, flC_10_6, flC_10_7, flC_10_8, arC_11, arC_12, arC_13, arC_14, arC_15, arC_16, flC_17_0, arC_18, flC_19_0, flC_19_1, flC_19_2, arC_20, flC_21_0, flC_21_1, flC_21_2, arC_22, arC_23, flC_24_0, flC_24_1, flC_24_2, arC_25, flC_26_0, flC_26_1, flC_26_2, arC_27, arC_28, flC_29_0, arC_30, flC_31_0, flC_31_1, arC_32, arC_33, arC_34]
  try simp only [up, upL, rp, sf, cpy, Nat.reduceEqDiff, reduceIte, Int.reduceNeg, Int.reduceLE, Int.reduceLT, Int.reduceEq, Int.reduceAdd, Int.reduceSub, Int.reduceMul, ne_eq, not_true_eq_false, not_false_eq_true, true_and, and_true, and_self, false_implies, true_implies, implies_true, forall_const, Nat.reduceAdd, Int.add_zero, Int.zero_add, true_or, or_true, false_or, or_false, List.length_nil, List.length_cons]
  exact hq
theorem k_opens {l : Launch} {X : Cx} {Q : Qt} {M : Me} (hq : Q (some (vI 1)) (rp M.1 1 (sf (M.1 1) 5 (M.1 1 5 + 1)), M.2)) : TM l X shC 1 mX5_opens [vR 1, vI 0] M Q := by
  refine EX5_opens rfl ?_
  (first | refine BX5_opens_0 ?_ | refine BX5_opens_13 ?_ | refine BX5_opens_15 ?_)
  dsimp only [bX5_opens_0, bX5_opens_13, bX5_opens_15, o_add, o_ald, o_dup, o_gf, o_ic, o_ild, o_pf, o_v2, o_zeq, o_zret, tk, lget, lput, lkill, lmask, ol, lent, flC_0_0, flC_0_1, flC_0_2, flC_0_3, flC_0_4, flC_0_5, flC_0_6, flC_0_7, flC_0_8, flC_0_9, flC_0_10, flC_1_0, flC_1_1, flC_1_2, flC_1_3, flC_1_4, flC_1_5, flC_1_6, flC_1_7, flC_2_0, flC_2_1, flC_2_2, flC_2_3, flC_2_4, flC_2_5, flC_2_6, flC_2_7, flC_2_8, arC_3, arC_4, arC_5, arC_6, arC_7, arC_8, arC_9, flC_10_0, flC_10_1, flC_10_2, flC_10_3, flC_10_4, flC_10_5, flC_10_6, flC_10_7, flC_10_8, arC_11, arC_12, arC_13, arC_14, arC_15, arC_16, flC_17_0, arC_18, flC_19_0, flC_19_1, flC_19_2, arC_20, flC_21_0, flC_21_1, flC_21_2, arC_22, arC_23, flC_24_0, flC_24_1, flC_24_2, arC_25, flC_26_0, flC_26_1, flC_26_2, arC_27, arC_28, flC_29_0, arC_30, flC_31_0, flC_31_1, arC_32, arC_33, arC_34]
  try simp only [up, upL, rp, sf, cpy, Nat.reduceEqDiff, reduceIte, Int.reduceNeg, Int.reduceLE, Int.reduceLT, Int.reduceEq, Int.reduceAdd, Int.reduceSub, Int.reduceMul, ne_eq, not_true_eq_false, not_false_eq_true, true_and, and_true, and_self, false_implies, true_implies, implies_true, forall_const, Nat.reduceAdd, Int.add_zero, Int.zero_add, true_or, or_true, false_or, or_false, List.length_nil, List.length_cons]
  (first | refine BX5_opens_0 ?_ | refine BX5_opens_13 ?_ | refine BX5_opens_15 ?_)
  dsimp only [bX5_opens_0, bX5_opens_13, bX5_opens_15, o_add, o_ald, o_dup, o_gf, o_ic, o_ild, o_pf, o_v2, o_zeq, o_zret, tk, lget, lput, lkill, lmask, ol, flC_0_0, flC_0_1, flC_0_2, flC_0_3, flC_0_4, flC_0_5, flC_0_6, flC_0_7, flC_0_8, flC_0_9, flC_0_10, flC_1_0, flC_1_1, flC_1_2, flC_1_3, flC_1_4, flC_1_5, flC_1_6, flC_1_7, flC_2_0, flC_2_1, flC_2_2, flC_2_3, flC_2_4, flC_2_5, flC_2_6, flC_2_7, flC_2_8, arC_3, arC_4, arC_5, arC_6, arC_7, arC_8, arC_9, flC_10_0, flC_10_1, flC_10_2, flC_10_3, flC_10_4, flC_10_5, flC_10_6, flC_10_7, flC_10_8, arC_11, arC_12, arC_13, arC_14, arC_15, arC_16, flC_17_0, arC_18, flC_19_0, flC_19_1, flC_19_2, arC_20, flC_21_0, flC_21_1, flC_21_2, arC_22, arC_23, flC_24_0, flC_24_1, flC_24_2, arC_25, flC_26_0, flC_26_1, flC_26_2, arC_27, arC_28, flC_29_0, arC_30, flC_31_0, flC_31_1, arC_32, arC_33, arC_34]
  try simp only [up, upL, rp, sf, cpy, Nat.reduceEqDiff, reduceIte, Int.reduceNeg, Int.reduceLE, Int.reduceLT, Int.reduceEq, Int.reduceAdd, Int.reduceSub, Int.reduceMul, ne_eq, not_true_eq_false, not_false_eq_true, true_and, and_true, and_self, false_implies, true_implies, implies_true, forall_const, Nat.reduceAdd, Int.add_zero, Int.zero_add, true_or, or_true, false_or, or_false, List.length_nil, List.length_cons]
  rw [up_to]
  exact hq
