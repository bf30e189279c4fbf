/-! pair: order -/
def rowB (V : Int → Int) (t : Int) : Nat → Int → Int → Int
  | 0, _, R => R
  | j + 1, b, R => rowB V t j (b + 1) (if V b = t then 10 * R + b + 1 else R)
def rowN (V : Int → Int) (B : Int) : Nat → Int → Int → Int
  | 0, _, R => R
  | j + 1, t, R => rowN V B j (t + 1) (rowB V t B.toNat 0 R)
def frr (V : Int → Int) (T : Int) : Nat → Int → Int → Int → Int
  | 0, _, first, _ => first
  | j + 1, b, first, least => if bt T b = false ∧ 1 ≤ V b ∧ V b < least then frr V T j (b + 1) b (V b) else frr V T j (b + 1) first least
def frs (V : Int → Int) (B n T : Int) : Int := frr V T B.toNat 0 (-1) (n + 1)
def inO (V : Int → Int) (B n : Int) : Nat → Int → Int → Int
  | 0, _, R => R
  | j + 1, T, R => if frs V B n T = -1 then R else inO V B n j (ior T (ishl 1 (frs V B n T))) (R * 10 + frs V B n T + 1)
theorem frr_spec {V : Int → Int} {T : Int} : ∀ (j : Nat) (b first least : Int), (frr V T j b first least = first ∧ ∀ c, b ≤ c → c < b + j → ¬ (bt T c = false ∧ 1 ≤ V c ∧ V c < least)) ∨ ∃ r, frr V T j b first least = r ∧ (b ≤ r ∧ r < b + j) ∧ (bt T r = false ∧ 1 ≤ V r ∧ V r < least) ∧ ∀ c, b ≤ c → c < b + j → bt T c = false → 1 ≤ V c → V r ≤ V c ∧ (V c = V r → r ≤ c)
  | 0, b, first, least => Or.inl ⟨rfl, fun c h1 h2 => by omega⟩
  | j + 1, b, first, least => by
    by_cases h : bt T b = false ∧ 1 ≤ V b ∧ V b < least
    · have e : frr V T (j + 1) b first least = frr V T j (b + 1) b (V b) := by
        show (if bt T b = false ∧ 1 ≤ V b ∧ V b < least then _ else _) = _
        rw [if_pos h]
      rw [e]
      rcases frr_spec j (b + 1) b (V b) with ⟨i1, i2⟩ | ⟨r, i1, i2, i3, i4⟩
      · refine Or.inr ⟨b, i1, by omega, h, fun c c0 c1 c2 c3 => ?_⟩
        by_cases hc : c = b
        · rw [hc]
          omega
        · have := i2 c (by omega) (by omega)
          have : ¬ V c < V b := fun q => this ⟨c2, c3, q⟩
          omega
      · refine Or.inr ⟨r, i1, by omega, ⟨i3.1, by omega, by omega⟩, fun c c0 c1 c2 c3 => ?_⟩
        by_cases hc : c = b
        · rw [hc]
          omega
        · exact i4 c (by omega) (by omega) c2 c3
    · have e : frr V T (j + 1) b first least = frr V T j (b + 1) first least := by
        show (if bt T b = false ∧ 1 ≤ V b ∧ V b < least then _ else _) = _
        rw [if_neg h]
      rw [e]
      rcases frr_spec j (b + 1) first least with ⟨i1, i2⟩ | ⟨r, i1, i2, i3, i4⟩
      · refine Or.inl ⟨i1, fun c c0 c1 => ?_⟩
        by_cases hc : c = b
        · rw [hc]
          exact h
        · exact i2 c (by omega) (by omega)
      · refine Or.inr ⟨r, i1, by omega, i3, fun c c0 c1 c2 c3 => ?_⟩
        by_cases hc : c = b
        · rw [hc] at c2 c3 ⊢
          have : ¬ V b < least := fun q => h ⟨c2, c3, q⟩
          omega
        · exact i4 c (by omega) (by omega) c2 c3
theorem frs_bd {V : Int → Int} {B n T : Int} (hB : 0 ≤ B ∧ B ≤ 7) : -1 ≤ frs V B n T ∧ frs V B n T < 7 ∧ (frs V B n T ≠ -1 → 0 ≤ frs V B n T ∧ frs V B n T < B) := by
  rcases frr_spec (V := V) (T := T) B.toNat 0 (-1) (n + 1) with ⟨i1, -⟩ | ⟨r, i1, i2, -, -⟩
  · have e : frs V B n T = -1 := i1
    omega
  · have e : frs V B n T = r := i1
    omega
/-- how many are not taken yet -/
def cfr (T : Int) : Nat → Int → Nat
  | 0, _ => 0
  | j + 1, c => (if bt T c = false then 1 else 0) + cfr T j (c + 1)
theorem cfr_set {T T' b : Int} (hT : ∀ c, 0 ≤ c → c < 7 → bt T' c = (bt T c || decide (c = b))) (hb : bt T b = false) : ∀ (j : Nat) (c : Int), 0 ≤ c → c + j ≤ 7 → (b < c ∨ c + j ≤ b → cfr T' j c = cfr T j c) ∧ (c ≤ b ∧ b < c + j → cfr T' j c + 1 = cfr T j c)
  | 0, c, _, _ => ⟨fun _ => rfl, fun h => by omega⟩
  | j + 1, c, h0, h1 => by
    have ih := cfr_set hT hb j (c + 1) (by omega) (by omega)
    have e := hT c h0 (by omega)
    unfold cfr
    by_cases hc : c = b
    · rw [decide_eq_true hc, Bool.or_true] at e
      have hb' : bt T c = false := by rw [hc]; exact hb
      refine ⟨fun h => by omega, fun h => ?_⟩
      rw [e, hb', if_neg (by decide), if_pos rfl, ih.1 (by omega)]
      omega
    · rw [decide_eq_false hc, Bool.or_false] at e
      rw [e]
      refine ⟨fun h => by rw [ih.1 (by omega)], fun h => ?_⟩
      have := ih.2 (by omega)
      omega
theorem cfr_pos {T b : Int} (hb : bt T b = false) : ∀ (j : Nat) (c : Int), c ≤ b → b < c + j → 1 ≤ cfr T j c
  | 0, c, h0, h1 => by omega
  | j + 1, c, h0, h1 => by
    unfold cfr
    by_cases hc : c = b
    · rw [hc, hb, if_pos rfl]
      omega
    · have := cfr_pos hb j (c + 1) (by omega) (by omega)
      omega
theorem cfr_0 : ∀ (j : Nat) (c : Int), 0 ≤ c → c + j ≤ 7 → cfr 0 j c = j
  | 0, c, _, _ => rfl
  | j + 1, c, h0, h1 => by
    unfold cfr
    rw [bt_0 h0 (by omega), if_pos rfl, cfr_0 j (c + 1) (by omega) (by omega)]
    omega
def TTk (V : Int → Int) (B t b T : Int) : Prop := (0 ≤ T ∧ T < 128) ∧ ∀ c, 0 ≤ c → c < B → bt T c = decide (1 ≤ V c ∧ (V c < t ∨ (V c = t ∧ c < b)))
theorem ord_in {V : Int → Int} {B n : Int} (hB : 0 ≤ B ∧ B ≤ 7) : ∀ (i : Nat) (b t T R : Int) (j : Nat), b + i = B → 0 ≤ b → 1 ≤ t → t ≤ n → TTk V B t b T → cfr T B.toNat 0 ≤ j → ∃ (T' : Int) (j' : Nat), TTk V B (t + 1) 0 T' ∧ cfr T' B.toNat 0 ≤ j' ∧ inO V B n j T R = inO V B n j' T' (rowB V t i b R)
  | 0, b, t, T, R, j, e0, e1, t0, t1, hT, hj => by
    refine ⟨T, j, ⟨hT.1, fun c c0 c1 => ?_⟩, hj, rfl⟩
    rw [hT.2 c c0 c1]
    exact decide_eq_decide.mpr (by omega)
  | i + 1, b, t, T, R, j, e0, e1, t0, t1, hT, hj => by
    by_cases hv : V b = t
    · have eR : rowB V t (i + 1) b R = rowB V t i (b + 1) (R * 10 + b + 1) := by
        show rowB V t i (b + 1) (if V b = t then 10 * R + b + 1 else R) = _
        rw [if_pos hv, Int.mul_comm]
      have hb : bt T b = false := by
        rw [hT.2 b e1 (by omega), decide_eq_false (show ¬ (1 ≤ V b ∧ (V b < t ∨ (V b = t ∧ b < b))) by omega)]
      have hf : frs V B n T = b := by
        rcases frr_spec (V := V) (T := T) B.toNat 0 (-1) (n + 1) with ⟨i1, i2⟩ | ⟨r, i1, i2, i3, i4⟩
        · exact absurd ⟨hb, by omega, by omega⟩ (i2 b (by omega) (by omega))
        · have q := i4 b (by omega) (by omega) hb (by omega)
          have h3 := i3.1
          rw [hT.2 r (by omega) (by omega), decide_eq_false_iff_not] at h3
          have e : frs V B n T = r := i1
          omega
      have hcp := cfr_pos hb B.toNat 0 (by omega) (by omega)
      have hset : ∀ c, 0 ≤ c → c < 7 → bt (ior T (ishl 1 b)) c = (bt T c || decide (c = b)) := fun c c0 c1 => bt_or hT.1.1 (by have := hT.1.2; omega) e1 (by omega) c0 (by omega)
      have hcs := (cfr_set hset hb B.toNat 0 (by omega) (by omega)).2 (by omega)
      obtain ⟨j0, rfl⟩ : ∃ j0, j = j0 + 1 := ⟨j - 1, by omega⟩
      have e2 : inO V B n (j0 + 1) T R = inO V B n j0 (ior T (ishl 1 b)) (R * 10 + b + 1) := by
        show (if frs V B n T = -1 then R else inO V B n j0 (ior T (ishl 1 (frs V B n T))) (R * 10 + frs V B n T + 1)) = _
        rw [hf, if_neg (by omega)]
      rw [e2, eR]
      refine ord_in hB i (b + 1) t _ _ j0 (by omega) (by omega) t0 t1 ⟨ior_up hT.1.1 hT.1.2 e1 (by omega), fun c c0 c1 => ?_⟩ (by omega)
      rw [hset c c0 (by omega), hT.2 c c0 c1, ← Bool.decide_or]
      refine decide_eq_decide.mpr ?_
      constructor
      · rintro (q | q)
        · omega
        · subst q
          omega
      · intro q
        by_cases hc : c = b
        · exact Or.inr hc
        · exact Or.inl (by omega)
    · have eR : rowB V t (i + 1) b R = rowB V t i (b + 1) R := by
        show rowB V t i (b + 1) (if V b = t then 10 * R + b + 1 else R) = _
        rw [if_neg hv]
      rw [eR]
      refine ord_in hB i (b + 1) t T R j (by omega) (by omega) t0 t1 ⟨hT.1, fun c c0 c1 => ?_⟩ hj
      rw [hT.2 c c0 c1]
      refine decide_eq_decide.mpr ?_
      by_cases hc : c = b
      · subst hc
        omega
      · omega
theorem ord_out {V : Int → Int} {B n : Int} (hB : 0 ≤ B ∧ B ≤ 7) : ∀ (i : Nat) (t T R : Int) (j : Nat), t + i = n + 1 → 1 ≤ t → TTk V B t 0 T → cfr T B.toNat 0 ≤ j → inO V B n j T R = rowN V B i t R
  | 0, t, T, R, j, e0, t0, hT, hj => by
    have hf : frs V B n T = -1 := by
      rcases frr_spec (V := V) (T := T) B.toNat 0 (-1) (n + 1) with ⟨i1, i2⟩ | ⟨r, i1, i2, i3, i4⟩
      · exact i1
      · have h3 := i3.1
        rw [hT.2 r (by omega) (by omega), decide_eq_false_iff_not] at h3
        omega
    cases j with
    | zero => rfl
    | succ j =>
      show (if frs V B n T = -1 then R else _) = R
      rw [if_pos hf]
  | i + 1, t, T, R, j, e0, t0, hT, hj => by
    obtain ⟨T', j', q1, q2, q3⟩ := ord_in (n := n) hB B.toNat 0 t T R j (by omega) (by omega) t0 (by omega) hT hj
    rw [q3]
    exact ord_out hB i (t + 1) T' _ j' (by omega) (by omega) q1 q2
def p10 : Nat → Int
  | 0 => 1
  | j + 1 => 10 * p10 j
theorem p10_pos : ∀ j : Nat, 1 ≤ p10 j
  | 0 => by decide
  | j + 1 => by
    have := p10_pos j
    show 1 ≤ 10 * p10 j
    omega
theorem inO_bd {V : Int → Int} {B n : Int} (hB : 0 ≤ B ∧ B ≤ 7) : ∀ (j : Nat) (T R K : Int), 0 ≤ R → R + 1 ≤ K → 0 ≤ inO V B n j T R ∧ inO V B n j T R + 1 ≤ K * p10 j
  | 0, T, R, K, h0, h1 => by
    show 0 ≤ R ∧ R + 1 ≤ K * 1
    omega
  | j + 1, T, R, K, h0, h1 => by
    have hf := frs_bd (V := V) (n := n) (T := T) hB
    have hp := p10_pos j
    show 0 ≤ (if frs V B n T = -1 then R else _) ∧ (if frs V B n T = -1 then R else _) + 1 ≤ K * (10 * p10 j)
    rw [show K * (10 * p10 j) = (10 * K) * p10 j by rw [Int.mul_comm 10 K, Int.mul_assoc]]
    by_cases h : frs V B n T = -1
    · rw [if_pos h]
      have : 10 * K * 1 ≤ 10 * K * p10 j := Int.mul_le_mul_of_nonneg_left hp (by omega)
      omega
    · rw [if_neg h]
      have := hf.2.2 h
      exact inO_bd hB j _ _ (10 * K) (by omega) (by omega)
theorem order_eq {V : Int → Int} {B n : Int} (hB : 0 ≤ B ∧ B ≤ 7) (hn : 1 ≤ n) : inO V B n B.toNat 0 0 = rowN V B n.toNat 1 0 ∧ 0 ≤ rowN V B n.toNat 1 0 ∧ rowN V B n.toNat 1 0 ≤ 10000000 := by
  have e := ord_out (V := V) (n := n) hB n.toNat 1 0 0 B.toNat (by omega) (by omega) ⟨by omega, fun c c0 c1 => by
    rw [bt_0 c0 (by omega), decide_eq_false (by omega)]⟩ (by rw [cfr_0 _ _ (by omega) (by omega)]; omega)
  have b := inO_bd (V := V) (n := n) hB B.toNat 0 0 1 (by omega) (by omega)
  have hp : p10 B.toNat ≤ 10000000 := by
    rcases (show B.toNat = 0 ∨ B.toNat = 1 ∨ B.toNat = 2 ∨ B.toNat = 3 ∨ B.toNat = 4 ∨ B.toNat = 5 ∨ B.toNat = 6 ∨ B.toNat = 7 by omega) with h | h | h | h | h | h | h | h <;> rw [h] <;> decide
  rw [← e]
  exact ⟨rfl, by omega⟩
theorem k_firstOfTheRest {l : Launch} {X : Cx} {Q : Qt} {M : Me} {V : Int → Int} {B n T : Int} (hB : 0 ≤ B ∧ B ≤ 7) (hn : 1 ≤ n ∧ n ≤ 400) (e30 : M.1 30 = V) (hV : ∀ c, 0 ≤ c → c < B → -1 ≤ V c ∧ V c ≤ 1000) (hq : Q (some (vI (frs V B n T))) M) : TM l X shC 0 mX1_firstOfTheRest [vR 29, vI B, vI n, vI T] M Q := by
  have L : ∀ (j : Nat) (b first least : Int), b + j = B → 0 ≤ b → (0 ≤ least ∧ least ≤ 1000) → Q (some (vI (frr V T j b first least))) M → Tf l X shC 0 mX1_firstOfTheRest Q 11 [some (vR 29), some (vI B), none, some (vI T), some (vI first), some (vI least), some (vI b)] [] M := by
    intro j
    induction j with
    | zero =>
      intro b first least e0 e1 e2 hq
      (first | refine BX1_firstOfTheRest_0 ?_ | refine BX1_firstOfTheRest_11 ?_ | refine BX1_firstOfTheRest_62 ?_ | refine BX1_firstOfTheRest_68 ?_)
      dsimp only [bX1_firstOfTheRest_0, bX1_firstOfTheRest_11, bX1_firstOfTheRest_62, bX1_firstOfTheRest_68, o_add, o_ald, o_and, o_cge, o_clt, o_gf, o_ial, o_ic, o_ild, o_inc, o_iret, o_ist, o_shr, o_zne, tk, lget, lput, lkill, lmask, ol, flC_0_0, flC_0_1, flC_0_2, flC_0_3, flC_0_4, flC_0_5, flC_0_6, flC_0_7, flC_0_8, flC_0_9, flC_0_10, flC_1_0, flC_1_1, flC_1_2, flC_1_3, flC_1_4, flC_1_5, flC_1_6, flC_1_7, flC_2_0, flC_2_1, flC_2_2, flC_2_3, flC_2_4, flC_2_5, flC_2_6, flC_2_7, flC_2_8, arC_3, arC_4, arC_5, arC_6, arC_7, arC_8, arC_9, flC_10_0, flC_10_1, flC_10_2, flC_10_3, flC_10_4, flC_10_5, flC_10_6, flC_10_7, flC_10_8, arC_11, arC_12, arC_13, arC_14, arC_15, arC_16, flC_17_0, arC_18, flC_19_0, flC_19_1, flC_19_2, arC_20, flC_21_0, flC_21_1, flC_21_2, arC_22, arC_23, flC_24_0, flC_24_1, flC_24_2, arC_25, flC_26_0, flC_26_1, flC_26_2, arC_27, arC_28, flC_29_0, arC_30, flC_31_0, flC_31_1, arC_32, arC_33, arC_34]
      try simp only [up, upL, rp, sf, cpy, Nat.reduceEqDiff, reduceIte, Int.reduceNeg, Int.reduceLE, Int.reduceLT, Int.reduceEq, Int.reduceAdd, Int.reduceSub, Int.reduceMul, ne_eq, not_true_eq_false, not_false_eq_true, true_and, and_true, and_self, false_implies, true_implies, implies_true, forall_const, Nat.reduceAdd, Int.add_zero, Int.zero_add, true_or, or_true, false_or, or_false, List.length_nil, List.length_cons]
      refine ⟨by omega, by omega, fun h => ?_, fun h => absurd h (by omega)⟩
      (first | refine BX1_firstOfTheRest_0 ?_ | refine BX1_firstOfTheRest_11 ?_ | refine BX1_firstOfTheRest_62 ?_ | refine BX1_firstOfTheRest_68 ?_)
      dsimp only [bX1_firstOfTheRest_0, bX1_firstOfTheRest_11, bX1_firstOfTheRest_62, bX1_firstOfTheRest_68, o_add, o_ald, o_and, o_cge, o_clt, o_gf, o_ial, o_ic, o_ild, o_inc, o_iret, o_ist, o_shr, o_zne, tk, lget, lput, lkill, lmask, ol, flC_0_0, flC_0_1, flC_0_2, flC_0_3, flC_0_4, flC_0_5, flC_0_6, flC_0_7, flC_0_8, flC_0_9, flC_0_10, flC_1_0, flC_1_1, flC_1_2, flC_1_3, flC_1_4, flC_1_5, flC_1_6, flC_1_7, flC_2_0, flC_2_1, flC_2_2, flC_2_3, flC_2_4, flC_2_5, flC_2_6, flC_2_7, flC_2_8, arC_3, arC_4, arC_5, arC_6, arC_7, arC_8, arC_9, flC_10_0, flC_10_1, flC_10_2, flC_10_3, flC_10_4, flC_10_5, flC_10_6, flC_10_7, flC_10_8, arC_11, arC_12, arC_13, arC_14, arC_15, arC_16, flC_17_0, arC_18, flC_19_0, flC_19_1, flC_19_2, arC_20, flC_21_0, flC_21_1, flC_21_2, arC_22, arC_23, flC_24_0, flC_24_1, flC_24_2, arC_25, flC_26_0, flC_26_1, flC_26_2, arC_27, arC_28, flC_29_0, arC_30, flC_31_0, flC_31_1, arC_32, arC_33, arC_34]
      try simp only [up, upL, rp, sf, cpy, Nat.reduceEqDiff, reduceIte, Int.reduceNeg, Int.reduceLE, Int.reduceLT, Int.reduceEq, Int.reduceAdd, Int.reduceSub, Int.reduceMul, ne_eq, not_true_eq_false, not_false_eq_true, true_and, and_true, and_self, false_implies, true_implies, implies_true, forall_const, Nat.reduceAdd, Int.add_zero, Int.zero_add, true_or, or_true, false_or, or_false, List.length_nil, List.length_cons]
      exact hq
    | succ j ih =>
      intro b first least e0 e1 e2 hq
      have hq : Q (some (vI (if bt T b = false ∧ 1 ≤ V b ∧ V b < least then frr V T j (b + 1) b (V b) else frr V T j (b + 1) first least))) M := hq
      have hv := hV b e1 (by omega)
      have no : ¬ (bt T b = false ∧ 1 ≤ V b ∧ V b < least) → Tf l X shC 0 mX1_firstOfTheRest Q 62 [some (vR 29), some (vI B), none, some (vI T), some (vI first), some (vI least), some (vI b)] [] M := by
        intro h
        rw [if_neg h] at hq
        (first | refine BX1_firstOfTheRest_0 ?_ | refine BX1_firstOfTheRest_11 ?_ | refine BX1_firstOfTheRest_62 ?_ | refine BX1_firstOfTheRest_68 ?_)
        dsimp only [bX1_firstOfTheRest_0, bX1_firstOfTheRest_11, bX1_firstOfTheRest_62, bX1_firstOfTheRest_68, o_add, o_ald, o_and, o_cge, o_clt, o_gf, o_ial, o_ic, o_ild, o_inc, o_iret, o_ist, o_shr, o_zne, tk, lget, lput, lkill, lmask, ol, flC_0_0, flC_0_1, flC_0_2, flC_0_3, flC_0_4, flC_0_5, flC_0_6, flC_0_7, flC_0_8, flC_0_9, flC_0_10, flC_1_0, flC_1_1, flC_1_2, flC_1_3, flC_1_4, flC_1_5, flC_1_6, flC_1_7, flC_2_0, flC_2_1, flC_2_2, flC_2_3, flC_2_4, flC_2_5, flC_2_6, flC_2_7, flC_2_8, arC_3, arC_4, arC_5, arC_6, arC_7, arC_8, arC_9, flC_10_0, flC_10_1, flC_10_2, flC_10_3, flC_10_4, flC_10_5, flC_10_6, flC_10_7, flC_10_8, arC_11, arC_12, arC_13, arC_14, arC_15, arC_16, flC_17_0, arC_18, flC_19_0, flC_19_1, flC_19_2, arC_20, flC_21_0, flC_21_1, flC_21_2, arC_22, arC_23, flC_24_0, flC_24_1, flC_24_2, arC_25, flC_26_0, flC_26_1, flC_26_2, arC_27, arC_28, flC_29_0, arC_30, flC_31_0, flC_31_1, arC_32, arC_33, arC_34]
        try simp only [up, upL, rp, sf, cpy, Nat.reduceEqDiff, reduceIte, Int.reduceNeg, Int.reduceLE, Int.reduceLT, Int.reduceEq, Int.reduceAdd, Int.reduceSub, Int.reduceMul, ne_eq, not_true_eq_false, not_false_eq_true, true_and, and_true, and_self, false_implies, true_implies, implies_true, forall_const, Nat.reduceAdd, Int.add_zero, Int.zero_add, true_or, or_true, false_or, or_false, List.length_nil, List.length_cons]
        exact ih (b + 1) first least (by omega) (by omega) e2 hq
      (first | refine BX1_firstOfTheRest_0 ?_ | refine BX1_firstOfTheRest_11 ?_ | refine BX1_firstOfTheRest_62 ?_ | refine BX1_firstOfTheRest_68 ?_)
      dsimp only [bX1_firstOfTheRest_0, bX1_firstOfTheRest_11, bX1_firstOfTheRest_62, bX1_firstOfTheRest_68, o_add, o_ald, o_and, o_cge, o_clt, o_gf, o_ial, o_ic, o_ild, o_inc, o_iret, o_ist, o_shr, o_zne, tk, lget, lput, lkill, lmask, ol, flC_0_0, flC_0_1, flC_0_2, flC_0_3, flC_0_4, flC_0_5, flC_0_6, flC_0_7, flC_0_8, flC_0_9, flC_0_10, flC_1_0, flC_1_1, flC_1_2, flC_1_3, flC_1_4, flC_1_5, flC_1_6, flC_1_7, flC_2_0, flC_2_1, flC_2_2, flC_2_3, flC_2_4, flC_2_5, flC_2_6, flC_2_7, flC_2_8, arC_3, arC_4, arC_5, arC_6, arC_7, arC_8, arC_9, flC_10_0, flC_10_1, flC_10_2, flC_10_3, flC_10_4, flC_10_5, flC_10_6, flC_10_7, flC_10_8, arC_11, arC_12, arC_13, arC_14, arC_15, arC_16, flC_17_0, arC_18, flC_19_0, flC_19_1, flC_19_2, arC_20, flC_21_0, flC_21_1, flC_21_2, arC_22, arC_23, flC_24_0, flC_24_1, flC_24_2, arC_25, flC_26_0, flC_26_1, flC_26_2, arC_27, arC_28, flC_29_0, arC_30, flC_31_0, flC_31_1, arC_32, arC_33, arC_34]
      try simp only [up, upL, rp, sf, cpy, Nat.reduceEqDiff, reduceIte, Int.reduceNeg, Int.reduceLE, Int.reduceLT, Int.reduceEq, Int.reduceAdd, Int.reduceSub, Int.reduceMul, ne_eq, not_true_eq_false, not_false_eq_true, true_and, and_true, and_self, false_implies, true_implies, implies_true, forall_const, Nat.reduceAdd, Int.add_zero, Int.zero_add, true_or, or_true, false_or, or_false, List.length_nil, List.length_cons]
      rw [e30]
      refine ⟨by omega, by omega, fun h => absurd h (by omega), fun h => ⟨r_iand _ _, fun h5 => ?_, fun h5 => ⟨by omega, by omega, fun h6 => ?_, fun h6 => ⟨by omega, by omega, by omega, fun h7 => ?_, fun h7 => ⟨by omega, ?_⟩⟩⟩⟩⟩
      · refine no (fun q => ?_)
        rw [bt_t (by rcases iand_1 (ishr T b) with z | z <;> omega)] at q
        exact absurd q.1 (by decide)
      · exact no (fun q => by omega)
      · exact no (fun q => by omega)
      · rw [if_pos ⟨bt_f (by omega), h6, h7⟩] at hq
        (first | refine BX1_firstOfTheRest_0 ?_ | refine BX1_firstOfTheRest_11 ?_ | refine BX1_firstOfTheRest_62 ?_ | refine BX1_firstOfTheRest_68 ?_)
        dsimp only [bX1_firstOfTheRest_0, bX1_firstOfTheRest_11, bX1_firstOfTheRest_62, bX1_firstOfTheRest_68, o_add, o_ald, o_and, o_cge, o_clt, o_gf, o_ial, o_ic, o_ild, o_inc, o_iret, o_ist, o_shr, o_zne, tk, lget, lput, lkill, lmask, ol, flC_0_0, flC_0_1, flC_0_2, flC_0_3, flC_0_4, flC_0_5, flC_0_6, flC_0_7, flC_0_8, flC_0_9, flC_0_10, flC_1_0, flC_1_1, flC_1_2, flC_1_3, flC_1_4, flC_1_5, flC_1_6, flC_1_7, flC_2_0, flC_2_1, flC_2_2, flC_2_3, flC_2_4, flC_2_5, flC_2_6, flC_2_7, flC_2_8, arC_3, arC_4, arC_5, arC_6, arC_7, arC_8, arC_9, flC_10_0, flC_10_1, flC_10_2, flC_10_3, flC_10_4, flC_10_5, flC_10_6, flC_10_7, flC_10_8, arC_11, arC_12, arC_13, arC_14, arC_15, arC_16, flC_17_0, arC_18, flC_19_0, flC_19_1, flC_19_2, arC_20, flC_21_0, flC_21_1, flC_21_2, arC_22, arC_23, flC_24_0, flC_24_1, flC_24_2, arC_25, flC_26_0, flC_26_1, flC_26_2, arC_27, arC_28, flC_29_0, arC_30, flC_31_0, flC_31_1, arC_32, arC_33, arC_34]
        try simp only [up, upL, rp, sf, cpy, Nat.reduceEqDiff, reduceIte, Int.reduceNeg, Int.reduceLE, Int.reduceLT, Int.reduceEq, Int.reduceAdd, Int.reduceSub, Int.reduceMul, ne_eq, not_true_eq_false, not_false_eq_true, true_and, and_true, and_self, false_implies, true_implies, implies_true, forall_const, Nat.reduceAdd, Int.add_zero, Int.zero_add, true_or, or_true, false_or, or_false, List.length_nil, List.length_cons]
        exact ih (b + 1) b (V b) (by omega) (by omega) (by omega) hq
  refine EX1_firstOfTheRest rfl ?_
  (first | refine BX1_firstOfTheRest_0 ?_ | refine BX1_firstOfTheRest_11 ?_ | refine BX1_firstOfTheRest_62 ?_ | refine BX1_firstOfTheRest_68 ?_)
  dsimp only [bX1_firstOfTheRest_0, bX1_firstOfTheRest_11, bX1_firstOfTheRest_62, bX1_firstOfTheRest_68, o_add, o_ald, o_and, o_cge, o_clt, o_gf, o_ial, o_ic, o_ild, o_inc, o_iret, o_ist, o_shr, o_zne, tk, lget, lput, lkill, lmask, ol, lent, flC_0_0, flC_0_1, flC_0_2, flC_0_3, flC_0_4, flC_0_5, flC_0_6, flC_0_7, flC_0_8, flC_0_9, flC_0_10, flC_1_0, flC_1_1, flC_1_2, flC_1_3, flC_1_4, flC_1_5, flC_1_6, flC_1_7, flC_2_0, flC_2_1, flC_2_2, flC_2_3, flC_2_4, flC_2_5, flC_2_6, flC_2_7, flC_2_8, arC_3, arC_4, arC_5, arC_6, arC_7, arC_8, arC_9, flC_10_0, flC_10_1, flC_10_2, flC_10_3, flC_10_4, flC_10_5, flC_10_6, flC_10_7, flC_10_8, arC_11, arC_12, arC_13, arC_14, arC_15, arC_16, flC_17_0, arC_18, flC_19_0, flC_19_1, flC_19_2, arC_20, flC_21_0, flC_21_1, flC_21_2, arC_22, arC_23, flC_24_0, flC_24_1, flC_24_2, arC_25, flC_26_0, flC_26_1, flC_26_2, arC_27, arC_28, flC_29_0, arC_30, flC_31_0, flC_31_1, arC_32, arC_33, arC_34]
  try simp only [up, upL, rp, sf, cpy, Nat.reduceEqDiff, reduceIte, Int.reduceNeg, Int.reduceLE, Int.reduceLT, Int.reduceEq, Int.reduceAdd, Int.reduceSub, Int.reduceMul, ne_eq, not_true_eq_false, not_false_eq_true, true_and, and_true, and_self, false_implies, true_implies, implies_true, forall_const, Nat.reduceAdd, Int.add_zero, Int.zero_add, true_or, or_true, false_or, or_false, List.length_nil, List.length_cons]
  exact L B.toNat 0 (-1) (n + 1) (by omega) (by omega) (by omega) hq
theorem k_inOrder {l : Launch} {X : Cx} {Q : Qt} {M : Me} {V : Int → Int} {B n : Int} (hB : 0 ≤ B ∧ B ≤ 7) (hn : 1 ≤ n ∧ n ≤ 400) (e30 : M.1 30 = V) (hV : ∀ c, 0 ≤ c → c < B → -1 ≤ V c ∧ V c ≤ 1000) (hq : Q (some (vI (inO V B n B.toNat 0 0))) M) : TM l X shC 1 mX1_inOrder [vR 29, vI B, vI n] M Q := by
  have L : ∀ (j : Nat) (i T R : Int), i + j = B → 0 ≤ i → Q (some (vI (inO V B n j T R))) M → Tf l X shC 1 mX1_inOrder Q 8 [some (vR 29), some (vI B), some (vI n), some (vI R), some (vI T), some (vI i), none] [] M := by
    intro j
    induction j with
    | zero =>
      intro i T R e0 e1 hq
      (first | refine BX1_inOrder_0 ?_ | refine BX1_inOrder_8 ?_ | refine BX1_inOrder_22 ?_ | refine BX1_inOrder_33 ?_ | refine BX1_inOrder_58 ?_)
      dsimp only [bX1_inOrder_0, bX1_inOrder_8, bX1_inOrder_22, bX1_inOrder_33, bX1_inOrder_58, o_add, o_ald, o_cge, o_cne, o_ic, o_ild, o_inc, o_iret, o_ist, o_mul, o_or, o_shl, o_v3, tk, lget, lput, lkill, lmask, ol]
      try simp only [up, upL, rp, sf, cpy, Nat.reduceEqDiff, reduceIte, Int.reduceNeg, Int.reduceLE, Int.reduceLT, Int.reduceEq, Int.reduceAdd, Int.reduceSub, Int.reduceMul, ne_eq, not_true_eq_false, not_false_eq_true, true_and, and_true, and_self, false_implies, true_implies, implies_true, forall_const, Nat.reduceAdd, Int.add_zero, Int.zero_add, true_or, or_true, false_or, or_false, List.length_nil, List.length_cons]
      refine ⟨by omega, by omega, fun h => ?_, fun h => absurd h (by omega)⟩
      (first | refine BX1_inOrder_0 ?_ | refine BX1_inOrder_8 ?_ | refine BX1_inOrder_22 ?_ | refine BX1_inOrder_33 ?_ | refine BX1_inOrder_58 ?_)
      dsimp only [bX1_inOrder_0, bX1_inOrder_8, bX1_inOrder_22, bX1_inOrder_33, bX1_inOrder_58, o_add, o_ald, o_cge, o_cne, o_ic, o_ild, o_inc, o_iret, o_ist, o_mul, o_or, o_shl, o_v3, tk, lget, lput, lkill, lmask, ol]
      try simp only [up, upL, rp, sf, cpy, Nat.reduceEqDiff, reduceIte, Int.reduceNeg, Int.reduceLE, Int.reduceLT, Int.reduceEq, Int.reduceAdd, Int.reduceSub, Int.reduceMul, ne_eq, not_true_eq_false, not_false_eq_true, true_and, and_true, and_self, false_implies, true_implies, implies_true, forall_const, Nat.reduceAdd, Int.add_zero, Int.zero_add, true_or, or_true, false_or, or_false, List.length_nil, List.length_cons]
      exact hq
    | succ j ih =>
      intro i T R e0 e1 hq
      have hq : Q (some (vI (if frs V B n T = -1 then R else inO V B n j (ior T (ishl 1 (frs V B n T))) (R * 10 + frs V B n T + 1)))) M := hq
      have hf := frs_bd (V := V) (n := n) (T := T) hB
      (first | refine BX1_inOrder_0 ?_ | refine BX1_inOrder_8 ?_ | refine BX1_inOrder_22 ?_ | refine BX1_inOrder_33 ?_ | refine BX1_inOrder_58 ?_)
      dsimp only [bX1_inOrder_0, bX1_inOrder_8, bX1_inOrder_22, bX1_inOrder_33, bX1_inOrder_58, o_add, o_ald, o_cge, o_cne, o_ic, o_ild, o_inc, o_iret, o_ist, o_mul, o_or, o_shl, o_v3, tk, lget, lput, lkill, lmask, ol]
      try simp only [up, upL, rp, sf, cpy, Nat.reduceEqDiff, reduceIte, Int.reduceNeg, Int.reduceLE, Int.reduceLT, Int.reduceEq, Int.reduceAdd, Int.reduceSub, Int.reduceMul, ne_eq, not_true_eq_false, not_false_eq_true, true_and, and_true, and_self, false_implies, true_implies, implies_true, forall_const, Nat.reduceAdd, Int.add_zero, Int.zero_add, true_or, or_true, false_or, or_false, List.length_nil, List.length_cons]
      refine ⟨by omega, by omega, fun h => absurd h (by omega), fun h => ⟨rfl, k_firstOfTheRest hB hn e30 hV ?_⟩⟩
      (first | refine BX1_inOrder_0 ?_ | refine BX1_inOrder_8 ?_ | refine BX1_inOrder_22 ?_ | refine BX1_inOrder_33 ?_ | refine BX1_inOrder_58 ?_)
      dsimp only [bX1_inOrder_0, bX1_inOrder_8, bX1_inOrder_22, bX1_inOrder_33, bX1_inOrder_58, o_add, o_ald, o_cge, o_cne, o_ic, o_ild, o_inc, o_iret, o_ist, o_mul, o_or, o_shl, o_v3, tk, lget, lput, lkill, lmask, ol]
      try simp only [up, upL, rp, sf, cpy, Nat.reduceEqDiff, reduceIte, Int.reduceNeg, Int.reduceLE, Int.reduceLT, Int.reduceEq, Int.reduceAdd, Int.reduceSub, Int.reduceMul, ne_eq, not_true_eq_false, not_false_eq_true, true_and, and_true, and_self, false_implies, true_implies, implies_true, forall_const, Nat.reduceAdd, Int.add_zero, Int.zero_add, true_or, or_true, false_or, or_false, List.length_nil, List.length_cons]
      refine ⟨by omega, fun h5 => ?_, fun h5 => ?_⟩
      · rw [if_neg h5] at hq
        (first | refine BX1_inOrder_0 ?_ | refine BX1_inOrder_8 ?_ | refine BX1_inOrder_22 ?_ | refine BX1_inOrder_33 ?_ | refine BX1_inOrder_58 ?_)
        dsimp only [bX1_inOrder_0, bX1_inOrder_8, bX1_inOrder_22, bX1_inOrder_33, bX1_inOrder_58, o_add, o_ald, o_cge, o_cne, o_ic, o_ild, o_inc, o_iret, o_ist, o_mul, o_or, o_shl, o_v3, tk, lget, lput, lkill, lmask, ol]
        try simp only [up, upL, rp, sf, cpy, Nat.reduceEqDiff, reduceIte, Int.reduceNeg, Int.reduceLE, Int.reduceLT, Int.reduceEq, Int.reduceAdd, Int.reduceSub, Int.reduceMul, ne_eq, not_true_eq_false, not_false_eq_true, true_and, and_true, and_self, false_implies, true_implies, implies_true, forall_const, Nat.reduceAdd, Int.add_zero, Int.zero_add, true_or, or_true, false_or, or_false, List.length_nil, List.length_cons]
        exact ih (i + 1) _ _ (by omega) (by omega) hq
      · rw [if_pos h5] at hq
        (first | refine BX1_inOrder_0 ?_ | refine BX1_inOrder_8 ?_ | refine BX1_inOrder_22 ?_ | refine BX1_inOrder_33 ?_ | refine BX1_inOrder_58 ?_)
        dsimp only [bX1_inOrder_0, bX1_inOrder_8, bX1_inOrder_22, bX1_inOrder_33, bX1_inOrder_58, o_add, o_ald, o_cge, o_cne, o_ic, o_ild, o_inc, o_iret, o_ist, o_mul, o_or, o_shl, o_v3, tk, lget, lput, lkill, lmask, ol]
        try simp only [up, upL, rp, sf, cpy, Nat.reduceEqDiff, reduceIte, Int.reduceNeg, Int.reduceLE, Int.reduceLT, Int.reduceEq, Int.reduceAdd, Int.reduceSub, Int.reduceMul, ne_eq, not_true_eq_false, not_false_eq_true, true_and, and_true, and_self, false_implies, true_implies, implies_true, forall_const, Nat.reduceAdd, Int.add_zero, Int.zero_add, true_or, or_true, false_or, or_false, List.length_nil, List.length_cons]
        exact hq
  refine EX1_inOrder rfl ?_
  (first | refine BX1_inOrder_0 ?_ | refine BX1_inOrder_8 ?_ | refine BX1_inOrder_22 ?_ | refine BX1_inOrder_33 ?_ | refine BX1_inOrder_58 ?_)
  dsimp only [bX1_inOrder_0, bX1_inOrder_8, bX1_inOrder_22, bX1_inOrder_33, bX1_inOrder_58, o_add, o_ald, o_cge, o_cne, o_ic, o_ild, o_inc, o_iret, o_ist, o_mul, o_or, o_shl, o_v3, tk, lget, lput, lkill, lmask, ol, lent]
  try simp only [up, upL, rp, sf, cpy, Nat.reduceEqDiff, reduceIte, Int.reduceNeg, Int.reduceLE, Int.reduceLT, Int.reduceEq, Int.reduceAdd, Int.reduceSub, Int.reduceMul, ne_eq, not_true_eq_false, not_false_eq_true, true_and, and_true, and_self, false_implies, true_implies, implies_true, forall_const, Nat.reduceAdd, Int.add_zero, Int.zero_add, true_or, or_true, false_or, or_false, List.length_nil, List.length_cons]
  exact L B.toNat 0 0 0 (by omega) (by omega) hq
theorem frs_c {V V' : Int → Int} {T : Int} : ∀ (j : Nat) (b first least : Int), (∀ c, b ≤ c → c < b + j → V c = V' c) → frr V T j b first least = frr V' T j b first least
  | 0, _, _, _, _ => rfl
  | j + 1, b, first, least, h => by
    unfold frr
    rw [h b (by omega) (by omega), frs_c j (b + 1) b (V' b) (fun c c0 c1 => h c (by omega) (by omega)), frs_c j (b + 1) first least (fun c c0 c1 => h c (by omega) (by omega))]
theorem inO_c {V V' : Int → Int} {B n : Int} (hB : 0 ≤ B) (h : ∀ c, 0 ≤ c → c < B → V c = V' c) : ∀ (j : Nat) (T R : Int), inO V B n j T R = inO V' B n j T R
  | 0, _, _ => rfl
  | j + 1, T, R => by
    have e : frs V B n T = frs V' B n T := frs_c _ _ _ _ (fun c c0 c1 => h c (by omega) (by omega))
    unfold inO
    rw [e, inO_c hB h j]
theorem P_order {l : Launch} {X Y : Cx} {C f : Nat → Int → Int} {x : Int} (hx : -2147483648 ≤ x ∧ x ≤ 2147483647) (hI : Inv C f) : PP l X Y 4 8 mX9_order mX10_order [vI x] C f := by
  obtain ⟨h1, h2, h3, h4, h5, h6, h7, h8, h9⟩ := id hI
  have hE := h1.2
  have hB := hE.2.1
  have eB := h1.1.2.1
  have h29 := h2.2.2.1
  by_cases ha : 1 ≤ x ∧ x ≤ 400
  · obtain ⟨F, hF⟩ : ∃ F, rp f 16 (rowc (f 7) (f 16) 32) = F := ⟨_, rfl⟩
    have hEF : OkE F := by rw [← hF]; exact hE
    have hOF : OkR F (F 7) := by rw [← hF]; exact h2.2.1
    have hCF : Clo F (F 7) := by rw [← hF]; exact h2.2.2.2
    have hSF : SimE C F := by rw [← hF]; exact h1.1
    have hNF : SimN F (C 18) (F 7) := by rw [← hF]; exact h2.1
    have e29 : F 7 29 = f 7 29 := by rw [← hF]; rfl
    have e01 : F 0 1 = f 0 1 := by rw [← hF]; rfl
    have e16 : ∀ k, 0 ≤ k → k < 32 → F 16 k = f 7 k := by
      intro k k0 k1
      rw [← hF, rp_k]
      exact if_pos ⟨k0, k1⟩
    obtain ⟨V, hV⟩ := fst_all hEF hOF hCF (by omega)
    have he := order_eq (V := V) (B := f 0 1) (n := x) hB ha.1
    obtain ⟨m, hm⟩ : ∃ m : Nat, (if f 0 1 = 0 then 0 else x.toNat) = m := ⟨_, rfl⟩
    refine ⟨rowN V (f 0 1) x.toNat 1 0, rp F 7 (rowc (F 16) (pasN m F 7) 32), by omega, fun w Q hq => ?_, fun u Q hq => ?_⟩
    · have t15 : Tf l X shC 4 mX9_order Q 15 [some (vR 0), some (vI x)] [] (C, w) := by
        (first | refine BX9_order_0 ?_ | refine BX9_order_12 ?_ | refine BX9_order_15 ?_ | refine BX9_order_30 ?_ | refine BX9_order_45 ?_)
        dsimp only [bX9_order_0, bX9_order_12, bX9_order_15, bX9_order_30, bX9_order_45, o_ald, o_cle, o_clt, o_gf, o_ic, o_ild, o_iret, o_v2, tk, lget, lput, lkill, lmask, ol, flC_0_0, flC_0_1, flC_0_2, flC_0_3, flC_0_4, flC_0_5, flC_0_6, flC_0_7, flC_0_8, flC_0_9, flC_0_10, flC_1_0, flC_1_1, flC_1_2, flC_1_3, flC_1_4, flC_1_5, flC_1_6, flC_1_7, flC_2_0, flC_2_1, flC_2_2, flC_2_3, flC_2_4, flC_2_5, flC_2_6, flC_2_7, flC_2_8, arC_3, arC_4, arC_5, arC_6, arC_7, arC_8, arC_9, flC_10_0, flC_10_1, flC_10_2, flC_10_3, flC_10_4, flC_10_5, flC_10_6, flC_10_7, flC_10_8, arC_11, arC_12, arC_13, arC_14, arC_15, arC_16, flC_17_0, arC_18, flC_19_0, flC_19_1, flC_19_2, arC_20, flC_21_0, flC_21_1, flC_21_2, arC_22, arC_23, flC_24_0, flC_24_1, flC_24_2, arC_25, flC_26_0, flC_26_1, flC_26_2, arC_27, arC_28, flC_29_0, arC_30, flC_31_0, flC_31_1, arC_32, arC_33, arC_34]
        try simp only [up, upL, rp, sf, cpy, Nat.reduceEqDiff, reduceIte, Int.reduceNeg, Int.reduceLE, Int.reduceLT, Int.reduceEq, Int.reduceAdd, Int.reduceSub, Int.reduceMul, ne_eq, not_true_eq_false, not_false_eq_true, true_and, and_true, and_self, false_implies, true_implies, implies_true, forall_const, Nat.reduceAdd, Int.add_zero, Int.zero_add, true_or, or_true, false_or, or_false, List.length_nil, List.length_cons]
        refine ⟨rfl, k_fill hSF hEF hNF hOF hCF (by omega) (fun B hB2 => ?_)⟩
        (first | refine BX9_order_0 ?_ | refine BX9_order_12 ?_ | refine BX9_order_15 ?_ | refine BX9_order_30 ?_ | refine BX9_order_45 ?_)
        dsimp only [bX9_order_0, bX9_order_12, bX9_order_15, bX9_order_30, bX9_order_45, o_ald, o_cle, o_clt, o_gf, o_ic, o_ild, o_iret, o_v2, tk, lget, lput, lkill, lmask, ol, flC_0_0, flC_0_1, flC_0_2, flC_0_3, flC_0_4, flC_0_5, flC_0_6, flC_0_7, flC_0_8, flC_0_9, flC_0_10, flC_1_0, flC_1_1, flC_1_2, flC_1_3, flC_1_4, flC_1_5, flC_1_6, flC_1_7, flC_2_0, flC_2_1, flC_2_2, flC_2_3, flC_2_4, flC_2_5, flC_2_6, flC_2_7, flC_2_8, arC_3, arC_4, arC_5, arC_6, arC_7, arC_8, arC_9, flC_10_0, flC_10_1, flC_10_2, flC_10_3, flC_10_4, flC_10_5, flC_10_6, flC_10_7, flC_10_8, arC_11, arC_12, arC_13, arC_14, arC_15, arC_16, flC_17_0, arC_18, flC_19_0, flC_19_1, flC_19_2, arC_20, flC_21_0, flC_21_1, flC_21_2, arC_22, arC_23, flC_24_0, flC_24_1, flC_24_2, arC_25, flC_26_0, flC_26_1, flC_26_2, arC_27, arC_28, flC_29_0, arC_30, flC_31_0, flC_31_1, arC_32, arC_33, arC_34]
        try simp only [up, upL, rp, sf, cpy, Nat.reduceEqDiff, reduceIte, Int.reduceNeg, Int.reduceLE, Int.reduceLT, Int.reduceEq, Int.reduceAdd, Int.reduceSub, Int.reduceMul, ne_eq, not_true_eq_false, not_false_eq_true, true_and, and_true, and_self, false_implies, true_implies, implies_true, forall_const, Nat.reduceAdd, Int.add_zero, Int.zero_add, true_or, or_true, false_or, or_false, List.length_nil, List.length_cons]
        rw [eB]
        refine ⟨rfl, k_inOrder (V := B) hB ha (show rp C 30 B 30 = B from rp_k) (fun c c0 c1 => ?_) ?_⟩
        · have q := hB2 c c0 (by omega)
          have := Fst_bd q.1
          omega
        · rw [inO_c (V := B) (V' := V) hB.1 (fun c c0 c1 => Fst_u (hB2 c c0 (by omega)).1 (hV c c0 (by omega)).1), he.1]
          (first | refine BX9_order_0 ?_ | refine BX9_order_12 ?_ | refine BX9_order_15 ?_ | refine BX9_order_30 ?_ | refine BX9_order_45 ?_)
          dsimp only [bX9_order_0, bX9_order_12, bX9_order_15, bX9_order_30, bX9_order_45, o_ald, o_cle, o_clt, o_gf, o_ic, o_ild, o_iret, o_v2, tk, lget, lput, lkill, lmask, ol, flC_0_0, flC_0_1, flC_0_2, flC_0_3, flC_0_4, flC_0_5, flC_0_6, flC_0_7, flC_0_8, flC_0_9, flC_0_10, flC_1_0, flC_1_1, flC_1_2, flC_1_3, flC_1_4, flC_1_5, flC_1_6, flC_1_7, flC_2_0, flC_2_1, flC_2_2, flC_2_3, flC_2_4, flC_2_5, flC_2_6, flC_2_7, flC_2_8, arC_3, arC_4, arC_5, arC_6, arC_7, arC_8, arC_9, flC_10_0, flC_10_1, flC_10_2, flC_10_3, flC_10_4, flC_10_5, flC_10_6, flC_10_7, flC_10_8, arC_11, arC_12, arC_13, arC_14, arC_15, arC_16, flC_17_0, arC_18, flC_19_0, flC_19_1, flC_19_2, arC_20, flC_21_0, flC_21_1, flC_21_2, arC_22, arC_23, flC_24_0, flC_24_1, flC_24_2, arC_25, flC_26_0, flC_26_1, flC_26_2, arC_27, arC_28, flC_29_0, arC_30, flC_31_0, flC_31_1, arC_32, arC_33, arC_34]
          try simp only [up, upL, rp, sf, cpy, Nat.reduceEqDiff, reduceIte, Int.reduceNeg, Int.reduceLE, Int.reduceLT, Int.reduceEq, Int.reduceAdd, Int.reduceSub, Int.reduceMul, ne_eq, not_true_eq_false, not_false_eq_true, true_and, and_true, and_self, false_implies, true_implies, implies_true, forall_const, Nat.reduceAdd, Int.add_zero, Int.zero_add, true_or, or_true, false_or, or_false, List.length_nil, List.length_cons]
          refine hq (rp C 30 B, w) ?_
          rw [← hF]
          refine inv_beh hI (fun k k0 k1 => ?_)
          rw [hF, show rowc (F 16) (pasN m F 7) 32 k = F 16 k from if_pos ⟨k0, k1⟩]
          exact e16 k k0 k1
      refine EX9_order rfl ?_
      (first | refine BX9_order_0 ?_ | refine BX9_order_12 ?_ | refine BX9_order_15 ?_ | refine BX9_order_30 ?_ | refine BX9_order_45 ?_)
      dsimp only [bX9_order_0, bX9_order_12, bX9_order_15, bX9_order_30, bX9_order_45, o_ald, o_cle, o_clt, o_gf, o_ic, o_ild, o_iret, o_v2, tk, lget, lput, lkill, lmask, ol, lent, flC_0_0, flC_0_1, flC_0_2, flC_0_3, flC_0_4, flC_0_5, flC_0_6, flC_0_7, flC_0_8, flC_0_9, flC_0_10, flC_1_0, flC_1_1, flC_1_2, flC_1_3, flC_1_4, flC_1_5, flC_1_6, flC_1_7, flC_2_0, flC_2_1, flC_2_2, flC_2_3, flC_2_4, flC_2_5, flC_2_6, flC_2_7, flC_2_8, arC_3, arC_4, arC_5, arC_6, arC_7, arC_8, arC_9, flC_10_0, flC_10_1, flC_10_2, flC_10_3, flC_10_4, flC_10_5, flC_10_6, flC_10_7, flC_10_8, arC_11, arC_12, arC_13, arC_14, arC_15, arC_16, flC_17_0, arC_18, flC_19_0, flC_19_1, flC_19_2, arC_20, flC_21_0, flC_21_1, flC_21_2, arC_22, arC_23, flC_24_0, flC_24_1, flC_24_2, arC_25, flC_26_0, flC_26_1, flC_26_2, arC_27, arC_28, flC_29_0, arC_30, flC_31_0, flC_31_1, arC_32, arC_33, arC_34]
      try simp only [up, upL, rp, sf, cpy, Nat.reduceEqDiff, reduceIte, Int.reduceNeg, Int.reduceLE, Int.reduceLT, Int.reduceEq, Int.reduceAdd, Int.reduceSub, Int.reduceMul, ne_eq, not_true_eq_false, not_false_eq_true, true_and, and_true, and_self, false_implies, true_implies, implies_true, forall_const, Nat.reduceAdd, Int.add_zero, Int.zero_add, true_or, or_true, false_or, or_false, List.length_nil, List.length_cons]
      exact ⟨hx, fun h => absurd h (by omega), fun h => ⟨hx, fun h => t15, fun h => absurd h (by omega)⟩⟩
    · have fin : ∀ (k : Nat) (R : Int), k = m → R = rowN V (f 0 1) x.toNat 1 0 → Tf l Y shM 8 mX10_order Q 114 [some (vR 0), none, some (vI R), none, none, none] [] (pasN k F, u) := by
        intro k R hk hR
        have pk := pasN_ok k F hEF hOF hCF
        have eb := back_eq pk.1
        (first | refine BX10_order_0 ?_ | refine BX10_order_9 ?_ | refine BX10_order_15 ?_ | refine BX10_order_28 ?_ | refine BX10_order_32 ?_ | refine BX10_order_57 ?_ | refine BX10_order_60 ?_ | refine BX10_order_75 ?_ | refine BX10_order_85 ?_ | refine BX10_order_100 ?_ | refine BX10_order_101 ?_ | refine BX10_order_108 ?_ | refine BX10_order_114 ?_ | refine BX10_order_127 ?_)
        dsimp only [bX10_order_0, bX10_order_9, bX10_order_15, bX10_order_28, bX10_order_32, bX10_order_57, bX10_order_60, bX10_order_75, bX10_order_85, bX10_order_100, bX10_order_101, bX10_order_108, bX10_order_114, bX10_order_127, o_add, o_ald, o_cge, o_gf, o_i2l, o_ial, o_ic, o_ild, o_inc, o_iret, o_ist, o_lc, o_mul, o_s2, o_s3, o_v0, o_v1, o_zeq, o_zle, o_zne, tk, lget, lput, lkill, lmask, ol, flM_0_0, flM_0_1, flM_0_2, flM_0_3, flM_0_4, flM_0_5, flM_0_6, flM_0_7, flM_0_8, flM_0_9, flM_0_10, flM_0_11, flM_0_12, flM_0_13, flM_0_14, flM_0_15, flM_0_16, flM_0_17, flM_0_18, flM_0_19, flM_0_20, flM_0_21, flM_0_22, flM_0_23, flM_0_24, flM_0_25, flM_0_26, flM_0_27, flM_0_28, flM_0_29, flM_0_30, flM_0_31, flM_0_32, flM_0_33, flM_0_34, flM_0_35, flM_0_36, flM_0_37, flM_0_38, flM_0_39, flM_0_40, flM_0_41, arM_1, arM_2, arM_3, arM_4, arM_5, arM_6, arM_7, arM_8, arM_9, arM_10, arM_11, arM_12, arM_13, arM_14, arM_15, arM_16, arM_17, arM_18, arM_19, arM_20, arM_21, arM_22, arM_23, arM_24, arM_25]
        try simp only [up, upL, rp, sf, cpy, Nat.reduceEqDiff, reduceIte, Int.reduceNeg, Int.reduceLE, Int.reduceLT, Int.reduceEq, Int.reduceAdd, Int.reduceSub, Int.reduceMul, ne_eq, not_true_eq_false, not_false_eq_true, true_and, and_true, and_self, false_implies, true_implies, implies_true, forall_const, Nat.reduceAdd, Int.add_zero, Int.zero_add, true_or, or_true, false_or, or_false, List.length_nil, List.length_cons]
        refine ⟨rfl, c_copyRow arM_16 arM_7 (by decide) (by omega) (by omega) (by omega) (by omega) ?_⟩
        rw [eb]
        (first | refine BX10_order_0 ?_ | refine BX10_order_9 ?_ | refine BX10_order_15 ?_ | refine BX10_order_28 ?_ | refine BX10_order_32 ?_ | refine BX10_order_57 ?_ | refine BX10_order_60 ?_ | refine BX10_order_75 ?_ | refine BX10_order_85 ?_ | refine BX10_order_100 ?_ | refine BX10_order_101 ?_ | refine BX10_order_108 ?_ | refine BX10_order_114 ?_ | refine BX10_order_127 ?_)
        dsimp only [bX10_order_0, bX10_order_9, bX10_order_15, bX10_order_28, bX10_order_32, bX10_order_57, bX10_order_60, bX10_order_75, bX10_order_85, bX10_order_100, bX10_order_101, bX10_order_108, bX10_order_114, bX10_order_127, o_add, o_ald, o_cge, o_gf, o_i2l, o_ial, o_ic, o_ild, o_inc, o_iret, o_ist, o_lc, o_mul, o_s2, o_s3, o_v0, o_v1, o_zeq, o_zle, o_zne, tk, lget, lput, lkill, lmask, ol, flM_0_0, flM_0_1, flM_0_2, flM_0_3, flM_0_4, flM_0_5, flM_0_6, flM_0_7, flM_0_8, flM_0_9, flM_0_10, flM_0_11, flM_0_12, flM_0_13, flM_0_14, flM_0_15, flM_0_16, flM_0_17, flM_0_18, flM_0_19, flM_0_20, flM_0_21, flM_0_22, flM_0_23, flM_0_24, flM_0_25, flM_0_26, flM_0_27, flM_0_28, flM_0_29, flM_0_30, flM_0_31, flM_0_32, flM_0_33, flM_0_34, flM_0_35, flM_0_36, flM_0_37, flM_0_38, flM_0_39, flM_0_40, flM_0_41, arM_1, arM_2, arM_3, arM_4, arM_5, arM_6, arM_7, arM_8, arM_9, arM_10, arM_11, arM_12, arM_13, arM_14, arM_15, arM_16, arM_17, arM_18, arM_19, arM_20, arM_21, arM_22, arM_23, arM_24, arM_25]
        try simp only [up, upL, rp, sf, cpy, Nat.reduceEqDiff, reduceIte, Int.reduceNeg, Int.reduceLE, Int.reduceLT, Int.reduceEq, Int.reduceAdd, Int.reduceSub, Int.reduceMul, ne_eq, not_true_eq_false, not_false_eq_true, true_and, and_true, and_self, false_implies, true_implies, implies_true, forall_const, Nat.reduceAdd, Int.add_zero, Int.zero_add, true_or, or_true, false_or, or_false, List.length_nil, List.length_cons]
        rw [hR, hk]
        exact hq
      have p01 : ∀ k : Nat, pasN k F 0 1 = f 0 1 := by
        intro k
        rw [← (pasN_ok k F hEF hOF hCF).1]
        exact e01
      have Li : ∀ (kk : Nat) (k : Int), k = (kk : Int) → ∀ (j : Nat) (b R : Int), b + j = f 0 1 → 0 ≤ b → Tf l Y shM 8 mX10_order Q 108 [some (vR 0), some (vI x), some (vI (rowB V (k + 1) j b R)), some (vI k), none, none] [] (pasN (kk + 1) F, u) → Tf l Y shM 8 mX10_order Q 60 [some (vR 0), some (vI x), some (vI R), some (vI k), some (vI (pasN kk F 7 7)), some (vI b)] [] (pasN (kk + 1) F, u) := by
        intro kk k hk j
        induction j with
        | zero =>
          intro b R e0 e1 K
          (first | refine BX10_order_0 ?_ | refine BX10_order_9 ?_ | refine BX10_order_15 ?_ | refine BX10_order_28 ?_ | refine BX10_order_32 ?_ | refine BX10_order_57 ?_ | refine BX10_order_60 ?_ | refine BX10_order_75 ?_ | refine BX10_order_85 ?_ | refine BX10_order_100 ?_ | refine BX10_order_101 ?_ | refine BX10_order_108 ?_ | refine BX10_order_114 ?_ | refine BX10_order_127 ?_)
          dsimp only [bX10_order_0, bX10_order_9, bX10_order_15, bX10_order_28, bX10_order_32, bX10_order_57, bX10_order_60, bX10_order_75, bX10_order_85, bX10_order_100, bX10_order_101, bX10_order_108, bX10_order_114, bX10_order_127, o_add, o_ald, o_cge, o_gf, o_i2l, o_ial, o_ic, o_ild, o_inc, o_iret, o_ist, o_lc, o_mul, o_s2, o_s3, o_v0, o_v1, o_zeq, o_zle, o_zne, tk, lget, lput, lkill, lmask, ol, flM_0_0, flM_0_1, flM_0_2, flM_0_3, flM_0_4, flM_0_5, flM_0_6, flM_0_7, flM_0_8, flM_0_9, flM_0_10, flM_0_11, flM_0_12, flM_0_13, flM_0_14, flM_0_15, flM_0_16, flM_0_17, flM_0_18, flM_0_19, flM_0_20, flM_0_21, flM_0_22, flM_0_23, flM_0_24, flM_0_25, flM_0_26, flM_0_27, flM_0_28, flM_0_29, flM_0_30, flM_0_31, flM_0_32, flM_0_33, flM_0_34, flM_0_35, flM_0_36, flM_0_37, flM_0_38, flM_0_39, flM_0_40, flM_0_41, arM_1, arM_2, arM_3, arM_4, arM_5, arM_6, arM_7, arM_8, arM_9, arM_10, arM_11, arM_12, arM_13, arM_14, arM_15, arM_16, arM_17, arM_18, arM_19, arM_20, arM_21, arM_22, arM_23, arM_24, arM_25]
          try simp only [up, upL, rp, sf, cpy, Nat.reduceEqDiff, reduceIte, Int.reduceNeg, Int.reduceLE, Int.reduceLT, Int.reduceEq, Int.reduceAdd, Int.reduceSub, Int.reduceMul, ne_eq, not_true_eq_false, not_false_eq_true, true_and, and_true, and_self, false_implies, true_implies, implies_true, forall_const, Nat.reduceAdd, Int.add_zero, Int.zero_add, true_or, or_true, false_or, or_false, List.length_nil, List.length_cons]
          rw [p01]
          exact ⟨by omega, by omega, fun h => K, fun h => absurd h (by omega)⟩
        | succ j ih =>
          intro b R e0 e1 K
          have K : Tf l Y shM 8 mX10_order Q 108 [some (vR 0), some (vI x), some (vI (rowB V (k + 1) j (b + 1) (if V b = k + 1 then 10 * R + b + 1 else R))), some (vI k), none, none] [] (pasN (kk + 1) F, u) := K
          have fa := Fst_at (hV b e1 (by omega)).1 (fun n m hn hm => up_mono hEF hOF hCF (by omega) e1 (by omega) hn hm) kk
          have no : ¬ V b = k + 1 → Tf l Y shM 8 mX10_order Q 100 [some (vR 0), some (vI x), some (vI R), some (vI k), some (vI (pasN kk F 7 7)), some (vI b)] [] (pasN (kk + 1) F, u) := by
            intro h
            rw [if_neg h] at K
            (first | refine BX10_order_0 ?_ | refine BX10_order_9 ?_ | refine BX10_order_15 ?_ | refine BX10_order_28 ?_ | refine BX10_order_32 ?_ | refine BX10_order_57 ?_ | refine BX10_order_60 ?_ | refine BX10_order_75 ?_ | refine BX10_order_85 ?_ | refine BX10_order_100 ?_ | refine BX10_order_101 ?_ | refine BX10_order_108 ?_ | refine BX10_order_114 ?_ | refine BX10_order_127 ?_)
            dsimp only [bX10_order_0, bX10_order_9, bX10_order_15, bX10_order_28, bX10_order_32, bX10_order_57, bX10_order_60, bX10_order_75, bX10_order_85, bX10_order_100, bX10_order_101, bX10_order_108, bX10_order_114, bX10_order_127, o_add, o_ald, o_cge, o_gf, o_i2l, o_ial, o_ic, o_ild, o_inc, o_iret, o_ist, o_lc, o_mul, o_s2, o_s3, o_v0, o_v1, o_zeq, o_zle, o_zne, tk, lget, lput, lkill, lmask, ol, flM_0_0, flM_0_1, flM_0_2, flM_0_3, flM_0_4, flM_0_5, flM_0_6, flM_0_7, flM_0_8, flM_0_9, flM_0_10, flM_0_11, flM_0_12, flM_0_13, flM_0_14, flM_0_15, flM_0_16, flM_0_17, flM_0_18, flM_0_19, flM_0_20, flM_0_21, flM_0_22, flM_0_23, flM_0_24, flM_0_25, flM_0_26, flM_0_27, flM_0_28, flM_0_29, flM_0_30, flM_0_31, flM_0_32, flM_0_33, flM_0_34, flM_0_35, flM_0_36, flM_0_37, flM_0_38, flM_0_39, flM_0_40, flM_0_41, arM_1, arM_2, arM_3, arM_4, arM_5, arM_6, arM_7, arM_8, arM_9, arM_10, arM_11, arM_12, arM_13, arM_14, arM_15, arM_16, arM_17, arM_18, arM_19, arM_20, arM_21, arM_22, arM_23, arM_24, arM_25]
            try simp only [up, upL, rp, sf, cpy, Nat.reduceEqDiff, reduceIte, Int.reduceNeg, Int.reduceLE, Int.reduceLT, Int.reduceEq, Int.reduceAdd, Int.reduceSub, Int.reduceMul, ne_eq, not_true_eq_false, not_false_eq_true, true_and, and_true, and_self, false_implies, true_implies, implies_true, forall_const, Nat.reduceAdd, Int.add_zero, Int.zero_add, true_or, or_true, false_or, or_false, List.length_nil, List.length_cons]
            (first | refine BX10_order_0 ?_ | refine BX10_order_9 ?_ | refine BX10_order_15 ?_ | refine BX10_order_28 ?_ | refine BX10_order_32 ?_ | refine BX10_order_57 ?_ | refine BX10_order_60 ?_ | refine BX10_order_75 ?_ | refine BX10_order_85 ?_ | refine BX10_order_100 ?_ | refine BX10_order_101 ?_ | refine BX10_order_108 ?_ | refine BX10_order_114 ?_ | refine BX10_order_127 ?_)
            dsimp only [bX10_order_0, bX10_order_9, bX10_order_15, bX10_order_28, bX10_order_32, bX10_order_57, bX10_order_60, bX10_order_75, bX10_order_85, bX10_order_100, bX10_order_101, bX10_order_108, bX10_order_114, bX10_order_127, o_add, o_ald, o_cge, o_gf, o_i2l, o_ial, o_ic, o_ild, o_inc, o_iret, o_ist, o_lc, o_mul, o_s2, o_s3, o_v0, o_v1, o_zeq, o_zle, o_zne, tk, lget, lput, lkill, lmask, ol, flM_0_0, flM_0_1, flM_0_2, flM_0_3, flM_0_4, flM_0_5, flM_0_6, flM_0_7, flM_0_8, flM_0_9, flM_0_10, flM_0_11, flM_0_12, flM_0_13, flM_0_14, flM_0_15, flM_0_16, flM_0_17, flM_0_18, flM_0_19, flM_0_20, flM_0_21, flM_0_22, flM_0_23, flM_0_24, flM_0_25, flM_0_26, flM_0_27, flM_0_28, flM_0_29, flM_0_30, flM_0_31, flM_0_32, flM_0_33, flM_0_34, flM_0_35, flM_0_36, flM_0_37, flM_0_38, flM_0_39, flM_0_40, flM_0_41, arM_1, arM_2, arM_3, arM_4, arM_5, arM_6, arM_7, arM_8, arM_9, arM_10, arM_11, arM_12, arM_13, arM_14, arM_15, arM_16, arM_17, arM_18, arM_19, arM_20, arM_21, arM_22, arM_23, arM_24, arM_25]
            try simp only [up, upL, rp, sf, cpy, Nat.reduceEqDiff, reduceIte, Int.reduceNeg, Int.reduceLE, Int.reduceLT, Int.reduceEq, Int.reduceAdd, Int.reduceSub, Int.reduceMul, ne_eq, not_true_eq_false, not_false_eq_true, true_and, and_true, and_self, false_implies, true_implies, implies_true, forall_const, Nat.reduceAdd, Int.add_zero, Int.zero_add, true_or, or_true, false_or, or_false, List.length_nil, List.length_cons]
            exact ih (b + 1) R (by omega) (by omega) K
          (first | refine BX10_order_0 ?_ | refine BX10_order_9 ?_ | refine BX10_order_15 ?_ | refine BX10_order_28 ?_ | refine BX10_order_32 ?_ | refine BX10_order_57 ?_ | refine BX10_order_60 ?_ | refine BX10_order_75 ?_ | refine BX10_order_85 ?_ | refine BX10_order_100 ?_ | refine BX10_order_101 ?_ | refine BX10_order_108 ?_ | refine BX10_order_114 ?_ | refine BX10_order_127 ?_)
          dsimp only [bX10_order_0, bX10_order_9, bX10_order_15, bX10_order_28, bX10_order_32, bX10_order_57, bX10_order_60, bX10_order_75, bX10_order_85, bX10_order_100, bX10_order_101, bX10_order_108, bX10_order_114, bX10_order_127, o_add, o_ald, o_cge, o_gf, o_i2l, o_ial, o_ic, o_ild, o_inc, o_iret, o_ist, o_lc, o_mul, o_s2, o_s3, o_v0, o_v1, o_zeq, o_zle, o_zne, tk, lget, lput, lkill, lmask, ol, flM_0_0, flM_0_1, flM_0_2, flM_0_3, flM_0_4, flM_0_5, flM_0_6, flM_0_7, flM_0_8, flM_0_9, flM_0_10, flM_0_11, flM_0_12, flM_0_13, flM_0_14, flM_0_15, flM_0_16, flM_0_17, flM_0_18, flM_0_19, flM_0_20, flM_0_21, flM_0_22, flM_0_23, flM_0_24, flM_0_25, flM_0_26, flM_0_27, flM_0_28, flM_0_29, flM_0_30, flM_0_31, flM_0_32, flM_0_33, flM_0_34, flM_0_35, flM_0_36, flM_0_37, flM_0_38, flM_0_39, flM_0_40, flM_0_41, arM_1, arM_2, arM_3, arM_4, arM_5, arM_6, arM_7, arM_8, arM_9, arM_10, arM_11, arM_12, arM_13, arM_14, arM_15, arM_16, arM_17, arM_18, arM_19, arM_20, arM_21, arM_22, arM_23, arM_24, arM_25]
          try simp only [up, upL, rp, sf, cpy, Nat.reduceEqDiff, reduceIte, Int.reduceNeg, Int.reduceLE, Int.reduceLT, Int.reduceEq, Int.reduceAdd, Int.reduceSub, Int.reduceMul, ne_eq, not_true_eq_false, not_false_eq_true, true_and, and_true, and_self, false_implies, true_implies, implies_true, forall_const, Nat.reduceAdd, Int.add_zero, Int.zero_add, true_or, or_true, false_or, or_false, List.length_nil, List.length_cons]
          rw [p01]
          refine ⟨by omega, by omega, fun h => absurd h (by omega), fun h => ⟨rfl, c_isUp (fun h5 => ?_) (fun h5 => ?_)⟩⟩
          · dsimp only at h5
            (first | refine BX10_order_0 ?_ | refine BX10_order_9 ?_ | refine BX10_order_15 ?_ | refine BX10_order_28 ?_ | refine BX10_order_32 ?_ | refine BX10_order_57 ?_ | refine BX10_order_60 ?_ | refine BX10_order_75 ?_ | refine BX10_order_85 ?_ | refine BX10_order_100 ?_ | refine BX10_order_101 ?_ | refine BX10_order_108 ?_ | refine BX10_order_114 ?_ | refine BX10_order_127 ?_)
            dsimp only [bX10_order_0, bX10_order_9, bX10_order_15, bX10_order_28, bX10_order_32, bX10_order_57, bX10_order_60, bX10_order_75, bX10_order_85, bX10_order_100, bX10_order_101, bX10_order_108, bX10_order_114, bX10_order_127, o_add, o_ald, o_cge, o_gf, o_i2l, o_ial, o_ic, o_ild, o_inc, o_iret, o_ist, o_lc, o_mul, o_s2, o_s3, o_v0, o_v1, o_zeq, o_zle, o_zne, tk, lget, lput, lkill, lmask, ol, flM_0_0, flM_0_1, flM_0_2, flM_0_3, flM_0_4, flM_0_5, flM_0_6, flM_0_7, flM_0_8, flM_0_9, flM_0_10, flM_0_11, flM_0_12, flM_0_13, flM_0_14, flM_0_15, flM_0_16, flM_0_17, flM_0_18, flM_0_19, flM_0_20, flM_0_21, flM_0_22, flM_0_23, flM_0_24, flM_0_25, flM_0_26, flM_0_27, flM_0_28, flM_0_29, flM_0_30, flM_0_31, flM_0_32, flM_0_33, flM_0_34, flM_0_35, flM_0_36, flM_0_37, flM_0_38, flM_0_39, flM_0_40, flM_0_41, arM_1, arM_2, arM_3, arM_4, arM_5, arM_6, arM_7, arM_8, arM_9, arM_10, arM_11, arM_12, arM_13, arM_14, arM_15, arM_16, arM_17, arM_18, arM_19, arM_20, arM_21, arM_22, arM_23, arM_24, arM_25]
            try simp only [up, upL, rp, sf, cpy, Nat.reduceEqDiff, reduceIte, Int.reduceNeg, Int.reduceLE, Int.reduceLT, Int.reduceEq, Int.reduceAdd, Int.reduceSub, Int.reduceMul, ne_eq, not_true_eq_false, not_false_eq_true, true_and, and_true, and_self, false_implies, true_implies, implies_true, forall_const, Nat.reduceAdd, Int.add_zero, Int.zero_add, true_or, or_true, false_or, or_false, List.length_nil, List.length_cons]
            refine ⟨rfl, c_has (fun h6 => ?_) (fun h6 => ?_)⟩
            · (first | refine BX10_order_0 ?_ | refine BX10_order_9 ?_ | refine BX10_order_15 ?_ | refine BX10_order_28 ?_ | refine BX10_order_32 ?_ | refine BX10_order_57 ?_ | refine BX10_order_60 ?_ | refine BX10_order_75 ?_ | refine BX10_order_85 ?_ | refine BX10_order_100 ?_ | refine BX10_order_101 ?_ | refine BX10_order_108 ?_ | refine BX10_order_114 ?_ | refine BX10_order_127 ?_)
              dsimp only [bX10_order_0, bX10_order_9, bX10_order_15, bX10_order_28, bX10_order_32, bX10_order_57, bX10_order_60, bX10_order_75, bX10_order_85, bX10_order_100, bX10_order_101, bX10_order_108, bX10_order_114, bX10_order_127, o_add, o_ald, o_cge, o_gf, o_i2l, o_ial, o_ic, o_ild, o_inc, o_iret, o_ist, o_lc, o_mul, o_s2, o_s3, o_v0, o_v1, o_zeq, o_zle, o_zne, tk, lget, lput, lkill, lmask, ol, flM_0_0, flM_0_1, flM_0_2, flM_0_3, flM_0_4, flM_0_5, flM_0_6, flM_0_7, flM_0_8, flM_0_9, flM_0_10, flM_0_11, flM_0_12, flM_0_13, flM_0_14, flM_0_15, flM_0_16, flM_0_17, flM_0_18, flM_0_19, flM_0_20, flM_0_21, flM_0_22, flM_0_23, flM_0_24, flM_0_25, flM_0_26, flM_0_27, flM_0_28, flM_0_29, flM_0_30, flM_0_31, flM_0_32, flM_0_33, flM_0_34, flM_0_35, flM_0_36, flM_0_37, flM_0_38, flM_0_39, flM_0_40, flM_0_41, arM_1, arM_2, arM_3, arM_4, arM_5, arM_6, arM_7, arM_8, arM_9, arM_10, arM_11, arM_12, arM_13, arM_14, arM_15, arM_16, arM_17, arM_18, arM_19, arM_20, arM_21, arM_22, arM_23, arM_24, arM_25]
              try simp only [up, upL, rp, sf, cpy, Nat.reduceEqDiff, reduceIte, Int.reduceNeg, Int.reduceLE, Int.reduceLT, Int.reduceEq, Int.reduceAdd, Int.reduceSub, Int.reduceMul, ne_eq, not_true_eq_false, not_false_eq_true, true_and, and_true, and_self, false_implies, true_implies, implies_true, forall_const, Nat.reduceAdd, Int.add_zero, Int.zero_add, true_or, or_true, false_or, or_false, List.length_nil, List.length_cons]
              refine no (fun q => ?_)
              have := (fa.mpr (by omega)).2
              rw [this] at h6
              cases h6
            · rw [if_pos (show V b = k + 1 by have := fa.mp ⟨h5, h6⟩; omega)] at K
              (first | refine BX10_order_0 ?_ | refine BX10_order_9 ?_ | refine BX10_order_15 ?_ | refine BX10_order_28 ?_ | refine BX10_order_32 ?_ | refine BX10_order_57 ?_ | refine BX10_order_60 ?_ | refine BX10_order_75 ?_ | refine BX10_order_85 ?_ | refine BX10_order_100 ?_ | refine BX10_order_101 ?_ | refine BX10_order_108 ?_ | refine BX10_order_114 ?_ | refine BX10_order_127 ?_)
              dsimp only [bX10_order_0, bX10_order_9, bX10_order_15, bX10_order_28, bX10_order_32, bX10_order_57, bX10_order_60, bX10_order_75, bX10_order_85, bX10_order_100, bX10_order_101, bX10_order_108, bX10_order_114, bX10_order_127, o_add, o_ald, o_cge, o_gf, o_i2l, o_ial, o_ic, o_ild, o_inc, o_iret, o_ist, o_lc, o_mul, o_s2, o_s3, o_v0, o_v1, o_zeq, o_zle, o_zne, tk, lget, lput, lkill, lmask, ol, flM_0_0, flM_0_1, flM_0_2, flM_0_3, flM_0_4, flM_0_5, flM_0_6, flM_0_7, flM_0_8, flM_0_9, flM_0_10, flM_0_11, flM_0_12, flM_0_13, flM_0_14, flM_0_15, flM_0_16, flM_0_17, flM_0_18, flM_0_19, flM_0_20, flM_0_21, flM_0_22, flM_0_23, flM_0_24, flM_0_25, flM_0_26, flM_0_27, flM_0_28, flM_0_29, flM_0_30, flM_0_31, flM_0_32, flM_0_33, flM_0_34, flM_0_35, flM_0_36, flM_0_37, flM_0_38, flM_0_39, flM_0_40, flM_0_41, arM_1, arM_2, arM_3, arM_4, arM_5, arM_6, arM_7, arM_8, arM_9, arM_10, arM_11, arM_12, arM_13, arM_14, arM_15, arM_16, arM_17, arM_18, arM_19, arM_20, arM_21, arM_22, arM_23, arM_24, arM_25]
              try simp only [up, upL, rp, sf, cpy, Nat.reduceEqDiff, reduceIte, Int.reduceNeg, Int.reduceLE, Int.reduceLT, Int.reduceEq, Int.reduceAdd, Int.reduceSub, Int.reduceMul, ne_eq, not_true_eq_false, not_false_eq_true, true_and, and_true, and_self, false_implies, true_implies, implies_true, forall_const, Nat.reduceAdd, Int.add_zero, Int.zero_add, true_or, or_true, false_or, or_false, List.length_nil, List.length_cons]
              (first | refine BX10_order_0 ?_ | refine BX10_order_9 ?_ | refine BX10_order_15 ?_ | refine BX10_order_28 ?_ | refine BX10_order_32 ?_ | refine BX10_order_57 ?_ | refine BX10_order_60 ?_ | refine BX10_order_75 ?_ | refine BX10_order_85 ?_ | refine BX10_order_100 ?_ | refine BX10_order_101 ?_ | refine BX10_order_108 ?_ | refine BX10_order_114 ?_ | refine BX10_order_127 ?_)
              dsimp only [bX10_order_0, bX10_order_9, bX10_order_15, bX10_order_28, bX10_order_32, bX10_order_57, bX10_order_60, bX10_order_75, bX10_order_85, bX10_order_100, bX10_order_101, bX10_order_108, bX10_order_114, bX10_order_127, o_add, o_ald, o_cge, o_gf, o_i2l, o_ial, o_ic, o_ild, o_inc, o_iret, o_ist, o_lc, o_mul, o_s2, o_s3, o_v0, o_v1, o_zeq, o_zle, o_zne, tk, lget, lput, lkill, lmask, ol, flM_0_0, flM_0_1, flM_0_2, flM_0_3, flM_0_4, flM_0_5, flM_0_6, flM_0_7, flM_0_8, flM_0_9, flM_0_10, flM_0_11, flM_0_12, flM_0_13, flM_0_14, flM_0_15, flM_0_16, flM_0_17, flM_0_18, flM_0_19, flM_0_20, flM_0_21, flM_0_22, flM_0_23, flM_0_24, flM_0_25, flM_0_26, flM_0_27, flM_0_28, flM_0_29, flM_0_30, flM_0_31, flM_0_32, flM_0_33, flM_0_34, flM_0_35, flM_0_36, flM_0_37, flM_0_38, flM_0_39, flM_0_40, flM_0_41, arM_1, arM_2, arM_3, arM_4, arM_5, arM_6, arM_7, arM_8, arM_9, arM_10, arM_11, arM_12, arM_13, arM_14, arM_15, arM_16, arM_17, arM_18, arM_19, arM_20, arM_21, arM_22, arM_23, arM_24, arM_25]
              try simp only [up, upL, rp, sf, cpy, Nat.reduceEqDiff, reduceIte, Int.reduceNeg, Int.reduceLE, Int.reduceLT, Int.reduceEq, Int.reduceAdd, Int.reduceSub, Int.reduceMul, ne_eq, not_true_eq_false, not_false_eq_true, true_and, and_true, and_self, false_implies, true_implies, implies_true, forall_const, Nat.reduceAdd, Int.add_zero, Int.zero_add, true_or, or_true, false_or, or_false, List.length_nil, List.length_cons]
              exact ih (b + 1) _ (by omega) (by omega) K
          · dsimp only at h5
            (first | refine BX10_order_0 ?_ | refine BX10_order_9 ?_ | refine BX10_order_15 ?_ | refine BX10_order_28 ?_ | refine BX10_order_32 ?_ | refine BX10_order_57 ?_ | refine BX10_order_60 ?_ | refine BX10_order_75 ?_ | refine BX10_order_85 ?_ | refine BX10_order_100 ?_ | refine BX10_order_101 ?_ | refine BX10_order_108 ?_ | refine BX10_order_114 ?_ | refine BX10_order_127 ?_)
            dsimp only [bX10_order_0, bX10_order_9, bX10_order_15, bX10_order_28, bX10_order_32, bX10_order_57, bX10_order_60, bX10_order_75, bX10_order_85, bX10_order_100, bX10_order_101, bX10_order_108, bX10_order_114, bX10_order_127, o_add, o_ald, o_cge, o_gf, o_i2l, o_ial, o_ic, o_ild, o_inc, o_iret, o_ist, o_lc, o_mul, o_s2, o_s3, o_v0, o_v1, o_zeq, o_zle, o_zne, tk, lget, lput, lkill, lmask, ol, flM_0_0, flM_0_1, flM_0_2, flM_0_3, flM_0_4, flM_0_5, flM_0_6, flM_0_7, flM_0_8, flM_0_9, flM_0_10, flM_0_11, flM_0_12, flM_0_13, flM_0_14, flM_0_15, flM_0_16, flM_0_17, flM_0_18, flM_0_19, flM_0_20, flM_0_21, flM_0_22, flM_0_23, flM_0_24, flM_0_25, flM_0_26, flM_0_27, flM_0_28, flM_0_29, flM_0_30, flM_0_31, flM_0_32, flM_0_33, flM_0_34, flM_0_35, flM_0_36, flM_0_37, flM_0_38, flM_0_39, flM_0_40, flM_0_41, arM_1, arM_2, arM_3, arM_4, arM_5, arM_6, arM_7, arM_8, arM_9, arM_10, arM_11, arM_12, arM_13, arM_14, arM_15, arM_16, arM_17, arM_18, arM_19, arM_20, arM_21, arM_22, arM_23, arM_24, arM_25]
            try simp only [up, upL, rp, sf, cpy, Nat.reduceEqDiff, reduceIte, Int.reduceNeg, Int.reduceLE, Int.reduceLT, Int.reduceEq, Int.reduceAdd, Int.reduceSub, Int.reduceMul, ne_eq, not_true_eq_false, not_false_eq_true, true_and, and_true, and_self, false_implies, true_implies, implies_true, forall_const, Nat.reduceAdd, Int.add_zero, Int.zero_add, true_or, or_true, false_or, or_false, List.length_nil, List.length_cons]
            refine no (fun q => ?_)
            have := (fa.mpr (by omega)).1
            rw [this] at h5
            cases h5
      have L : ∀ (j kk : Nat) (k R : Int), k = (kk : Int) → kk + j = x.toNat → (f 0 1 = 0 → kk = 0 ∧ R = 0) → rowN V (f 0 1) j (k + 1) R = rowN V (f 0 1) x.toNat 1 0 → Tf l Y shM 8 mX10_order Q 32 [some (vR 0), some (vI x), some (vI R), some (vI k), none, none] [] (pasN kk F, u) := by
        intro j
        induction j with
        | zero =>
          intro kk k R e0 e1 e2 e3
          (first | refine BX10_order_0 ?_ | refine BX10_order_9 ?_ | refine BX10_order_15 ?_ | refine BX10_order_28 ?_ | refine BX10_order_32 ?_ | refine BX10_order_57 ?_ | refine BX10_order_60 ?_ | refine BX10_order_75 ?_ | refine BX10_order_85 ?_ | refine BX10_order_100 ?_ | refine BX10_order_101 ?_ | refine BX10_order_108 ?_ | refine BX10_order_114 ?_ | refine BX10_order_127 ?_)
          dsimp only [bX10_order_0, bX10_order_9, bX10_order_15, bX10_order_28, bX10_order_32, bX10_order_57, bX10_order_60, bX10_order_75, bX10_order_85, bX10_order_100, bX10_order_101, bX10_order_108, bX10_order_114, bX10_order_127, o_add, o_ald, o_cge, o_gf, o_i2l, o_ial, o_ic, o_ild, o_inc, o_iret, o_ist, o_lc, o_mul, o_s2, o_s3, o_v0, o_v1, o_zeq, o_zle, o_zne, tk, lget, lput, lkill, lmask, ol, flM_0_0, flM_0_1, flM_0_2, flM_0_3, flM_0_4, flM_0_5, flM_0_6, flM_0_7, flM_0_8, flM_0_9, flM_0_10, flM_0_11, flM_0_12, flM_0_13, flM_0_14, flM_0_15, flM_0_16, flM_0_17, flM_0_18, flM_0_19, flM_0_20, flM_0_21, flM_0_22, flM_0_23, flM_0_24, flM_0_25, flM_0_26, flM_0_27, flM_0_28, flM_0_29, flM_0_30, flM_0_31, flM_0_32, flM_0_33, flM_0_34, flM_0_35, flM_0_36, flM_0_37, flM_0_38, flM_0_39, flM_0_40, flM_0_41, arM_1, arM_2, arM_3, arM_4, arM_5, arM_6, arM_7, arM_8, arM_9, arM_10, arM_11, arM_12, arM_13, arM_14, arM_15, arM_16, arM_17, arM_18, arM_19, arM_20, arM_21, arM_22, arM_23, arM_24, arM_25]
          try simp only [up, upL, rp, sf, cpy, Nat.reduceEqDiff, reduceIte, Int.reduceNeg, Int.reduceLE, Int.reduceLT, Int.reduceEq, Int.reduceAdd, Int.reduceSub, Int.reduceMul, ne_eq, not_true_eq_false, not_false_eq_true, true_and, and_true, and_self, false_implies, true_implies, implies_true, forall_const, Nat.reduceAdd, Int.add_zero, Int.zero_add, true_or, or_true, false_or, or_false, List.length_nil, List.length_cons]
          refine ⟨by omega, by omega, fun h => ?_, fun h => absurd h (by omega)⟩
          refine fin kk R ?_ e3
          by_cases hz : f 0 1 = 0
          · rw [if_pos hz] at hm
            have := e2 hz
            omega
          · rw [if_neg hz] at hm
            omega
        | succ j ih =>
          intro kk k R e0 e1 e2 e3
          have e3 : rowN V (f 0 1) j (k + 1 + 1) (rowB V (k + 1) (f 0 1).toNat 0 R) = rowN V (f 0 1) x.toNat 1 0 := e3
          have pa := pasN_all (k := kk) hEF hOF hCF
          have p29 := (pasN_ok kk F hEF hOF hCF).2.2.2
          (first | refine BX10_order_0 ?_ | refine BX10_order_9 ?_ | refine BX10_order_15 ?_ | refine BX10_order_28 ?_ | refine BX10_order_32 ?_ | refine BX10_order_57 ?_ | refine BX10_order_60 ?_ | refine BX10_order_75 ?_ | refine BX10_order_85 ?_ | refine BX10_order_100 ?_ | refine BX10_order_101 ?_ | refine BX10_order_108 ?_ | refine BX10_order_114 ?_ | refine BX10_order_127 ?_)
          dsimp only [bX10_order_0, bX10_order_9, bX10_order_15, bX10_order_28, bX10_order_32, bX10_order_57, bX10_order_60, bX10_order_75, bX10_order_85, bX10_order_100, bX10_order_101, bX10_order_108, bX10_order_114, bX10_order_127, o_add, o_ald, o_cge, o_gf, o_i2l, o_ial, o_ic, o_ild, o_inc, o_iret, o_ist, o_lc, o_mul, o_s2, o_s3, o_v0, o_v1, o_zeq, o_zle, o_zne, tk, lget, lput, lkill, lmask, ol, flM_0_0, flM_0_1, flM_0_2, flM_0_3, flM_0_4, flM_0_5, flM_0_6, flM_0_7, flM_0_8, flM_0_9, flM_0_10, flM_0_11, flM_0_12, flM_0_13, flM_0_14, flM_0_15, flM_0_16, flM_0_17, flM_0_18, flM_0_19, flM_0_20, flM_0_21, flM_0_22, flM_0_23, flM_0_24, flM_0_25, flM_0_26, flM_0_27, flM_0_28, flM_0_29, flM_0_30, flM_0_31, flM_0_32, flM_0_33, flM_0_34, flM_0_35, flM_0_36, flM_0_37, flM_0_38, flM_0_39, flM_0_40, flM_0_41, arM_1, arM_2, arM_3, arM_4, arM_5, arM_6, arM_7, arM_8, arM_9, arM_10, arM_11, arM_12, arM_13, arM_14, arM_15, arM_16, arM_17, arM_18, arM_19, arM_20, arM_21, arM_22, arM_23, arM_24, arM_25]
          try simp only [up, upL, rp, sf, cpy, Nat.reduceEqDiff, reduceIte, Int.reduceNeg, Int.reduceLE, Int.reduceLT, Int.reduceEq, Int.reduceAdd, Int.reduceSub, Int.reduceMul, ne_eq, not_true_eq_false, not_false_eq_true, true_and, and_true, and_self, false_implies, true_implies, implies_true, forall_const, Nat.reduceAdd, Int.add_zero, Int.zero_add, true_or, or_true, false_or, or_false, List.length_nil, List.length_cons]
          rw [p01]
          refine ⟨by omega, by omega, fun h => absurd h (by omega), fun h => ⟨by omega, fun h5 => ?_, fun h5 => ?_⟩⟩
          · have hz : f 0 1 = 0 := by omega
            have q := e2 hz
            have r0 : ∀ (i : Nat) (t : Int), rowN V (f 0 1) i t 0 = 0 := by
              intro i
              induction i with
              | zero => exact fun _ => rfl
              | succ i ih2 =>
                intro t
                show rowN V (f 0 1) i (t + 1) (rowB V t (f 0 1).toNat 0 0) = 0
                rw [hz]
                rw [hz] at ih2
                exact ih2 (t + 1)
            refine fin kk R ?_ ?_
            · rw [if_pos hz] at hm
              omega
            · rw [r0]
              exact q.2
          · refine ⟨rfl, c_pass pa.1 pa.2.1 (bar_ok pa.1 pa.2.1 pa.2.2 (by dsimp only; omega)) ?_⟩
            dsimp only
            rw [← pasN_s]
            (first | refine BX10_order_0 ?_ | refine BX10_order_9 ?_ | refine BX10_order_15 ?_ | refine BX10_order_28 ?_ | refine BX10_order_32 ?_ | refine BX10_order_57 ?_ | refine BX10_order_60 ?_ | refine BX10_order_75 ?_ | refine BX10_order_85 ?_ | refine BX10_order_100 ?_ | refine BX10_order_101 ?_ | refine BX10_order_108 ?_ | refine BX10_order_114 ?_ | refine BX10_order_127 ?_)
            dsimp only [bX10_order_0, bX10_order_9, bX10_order_15, bX10_order_28, bX10_order_32, bX10_order_57, bX10_order_60, bX10_order_75, bX10_order_85, bX10_order_100, bX10_order_101, bX10_order_108, bX10_order_114, bX10_order_127, o_add, o_ald, o_cge, o_gf, o_i2l, o_ial, o_ic, o_ild, o_inc, o_iret, o_ist, o_lc, o_mul, o_s2, o_s3, o_v0, o_v1, o_zeq, o_zle, o_zne, tk, lget, lput, lkill, lmask, ol, flM_0_0, flM_0_1, flM_0_2, flM_0_3, flM_0_4, flM_0_5, flM_0_6, flM_0_7, flM_0_8, flM_0_9, flM_0_10, flM_0_11, flM_0_12, flM_0_13, flM_0_14, flM_0_15, flM_0_16, flM_0_17, flM_0_18, flM_0_19, flM_0_20, flM_0_21, flM_0_22, flM_0_23, flM_0_24, flM_0_25, flM_0_26, flM_0_27, flM_0_28, flM_0_29, flM_0_30, flM_0_31, flM_0_32, flM_0_33, flM_0_34, flM_0_35, flM_0_36, flM_0_37, flM_0_38, flM_0_39, flM_0_40, flM_0_41, arM_1, arM_2, arM_3, arM_4, arM_5, arM_6, arM_7, arM_8, arM_9, arM_10, arM_11, arM_12, arM_13, arM_14, arM_15, arM_16, arM_17, arM_18, arM_19, arM_20, arM_21, arM_22, arM_23, arM_24, arM_25]
            try simp only [up, upL, rp, sf, cpy, Nat.reduceEqDiff, reduceIte, Int.reduceNeg, Int.reduceLE, Int.reduceLT, Int.reduceEq, Int.reduceAdd, Int.reduceSub, Int.reduceMul, ne_eq, not_true_eq_false, not_false_eq_true, true_and, and_true, and_self, false_implies, true_implies, implies_true, forall_const, Nat.reduceAdd, Int.add_zero, Int.zero_add, true_or, or_true, false_or, or_false, List.length_nil, List.length_cons]
            refine Li kk k e0 (f 0 1).toNat 0 R (by omega) (by omega) ?_
            (first | refine BX10_order_0 ?_ | refine BX10_order_9 ?_ | refine BX10_order_15 ?_ | refine BX10_order_28 ?_ | refine BX10_order_32 ?_ | refine BX10_order_57 ?_ | refine BX10_order_60 ?_ | refine BX10_order_75 ?_ | refine BX10_order_85 ?_ | refine BX10_order_100 ?_ | refine BX10_order_101 ?_ | refine BX10_order_108 ?_ | refine BX10_order_114 ?_ | refine BX10_order_127 ?_)
            dsimp only [bX10_order_0, bX10_order_9, bX10_order_15, bX10_order_28, bX10_order_32, bX10_order_57, bX10_order_60, bX10_order_75, bX10_order_85, bX10_order_100, bX10_order_101, bX10_order_108, bX10_order_114, bX10_order_127, o_add, o_ald, o_cge, o_gf, o_i2l, o_ial, o_ic, o_ild, o_inc, o_iret, o_ist, o_lc, o_mul, o_s2, o_s3, o_v0, o_v1, o_zeq, o_zle, o_zne, tk, lget, lput, lkill, lmask, ol, flM_0_0, flM_0_1, flM_0_2, flM_0_3, flM_0_4, flM_0_5, flM_0_6, flM_0_7, flM_0_8, flM_0_9, flM_0_10, flM_0_11, flM_0_12, flM_0_13, flM_0_14, flM_0_15, flM_0_16, flM_0_17, flM_0_18, flM_0_19, flM_0_20, flM_0_21, flM_0_22, flM_0_23, flM_0_24, flM_0_25, flM_0_26, flM_0_27, flM_0_28, flM_0_29, flM_0_30, flM_0_31, flM_0_32, flM_0_33, flM_0_34, flM_0_35, flM_0_36, flM_0_37, flM_0_38, flM_0_39, flM_0_40, flM_0_41, arM_1, arM_2, arM_3, arM_4, arM_5, arM_6, arM_7, arM_8, arM_9, arM_10, arM_11, arM_12, arM_13, arM_14, arM_15, arM_16, arM_17, arM_18, arM_19, arM_20, arM_21, arM_22, arM_23, arM_24, arM_25]
            try simp only [up, upL, rp, sf, cpy, Nat.reduceEqDiff, reduceIte, Int.reduceNeg, Int.reduceLE, Int.reduceLT, Int.reduceEq, Int.reduceAdd, Int.reduceSub, Int.reduceMul, ne_eq, not_true_eq_false, not_false_eq_true, true_and, and_true, and_self, false_implies, true_implies, implies_true, forall_const, Nat.reduceAdd, Int.add_zero, Int.zero_add, true_or, or_true, false_or, or_false, List.length_nil, List.length_cons]
            exact ih (kk + 1) (k + 1) _ (by omega) (by omega) (fun hz => by omega) e3
      refine EX10_order rfl ?_
      (first | refine BX10_order_0 ?_ | refine BX10_order_9 ?_ | refine BX10_order_15 ?_ | refine BX10_order_28 ?_ | refine BX10_order_32 ?_ | refine BX10_order_57 ?_ | refine BX10_order_60 ?_ | refine BX10_order_75 ?_ | refine BX10_order_85 ?_ | refine BX10_order_100 ?_ | refine BX10_order_101 ?_ | refine BX10_order_108 ?_ | refine BX10_order_114 ?_ | refine BX10_order_127 ?_)
      dsimp only [bX10_order_0, bX10_order_9, bX10_order_15, bX10_order_28, bX10_order_32, bX10_order_57, bX10_order_60, bX10_order_75, bX10_order_85, bX10_order_100, bX10_order_101, bX10_order_108, bX10_order_114, bX10_order_127, o_add, o_ald, o_cge, o_gf, o_i2l, o_ial, o_ic, o_ild, o_inc, o_iret, o_ist, o_lc, o_mul, o_s2, o_s3, o_v0, o_v1, o_zeq, o_zle, o_zne, tk, lget, lput, lkill, lmask, ol, lent, flM_0_0, flM_0_1, flM_0_2, flM_0_3, flM_0_4, flM_0_5, flM_0_6, flM_0_7, flM_0_8, flM_0_9, flM_0_10, flM_0_11, flM_0_12, flM_0_13, flM_0_14, flM_0_15, flM_0_16, flM_0_17, flM_0_18, flM_0_19, flM_0_20, flM_0_21, flM_0_22, flM_0_23, flM_0_24, flM_0_25, flM_0_26, flM_0_27, flM_0_28, flM_0_29, flM_0_30, flM_0_31, flM_0_32, flM_0_33, flM_0_34, flM_0_35, flM_0_36, flM_0_37, flM_0_38, flM_0_39, flM_0_40, flM_0_41, arM_1, arM_2, arM_3, arM_4, arM_5, arM_6, arM_7, arM_8, arM_9, arM_10, arM_11, arM_12, arM_13, arM_14, arM_15, arM_16, arM_17, arM_18, arM_19, arM_20, arM_21, arM_22, arM_23, arM_24, arM_25]
      try simp only [up, upL, rp, sf, cpy, Nat.reduceEqDiff, reduceIte, Int.reduceNeg, Int.reduceLE, Int.reduceLT, Int.reduceEq, Int.reduceAdd, Int.reduceSub, Int.reduceMul, ne_eq, not_true_eq_false, not_false_eq_true, true_and, and_true, and_self, false_implies, true_implies, implies_true, forall_const, Nat.reduceAdd, Int.add_zero, Int.zero_add, true_or, or_true, false_or, or_false, List.length_nil, List.length_cons]
      refine ⟨hx, rfl, c_in hx (by decide) (by decide) (fun h => ?_) (fun h => absurd ha h)⟩
      (first | refine BX10_order_0 ?_ | refine BX10_order_9 ?_ | refine BX10_order_15 ?_ | refine BX10_order_28 ?_ | refine BX10_order_32 ?_ | refine BX10_order_57 ?_ | refine BX10_order_60 ?_ | refine BX10_order_75 ?_ | refine BX10_order_85 ?_ | refine BX10_order_100 ?_ | refine BX10_order_101 ?_ | refine BX10_order_108 ?_ | refine BX10_order_114 ?_ | refine BX10_order_127 ?_)
      dsimp only [bX10_order_0, bX10_order_9, bX10_order_15, bX10_order_28, bX10_order_32, bX10_order_57, bX10_order_60, bX10_order_75, bX10_order_85, bX10_order_100, bX10_order_101, bX10_order_108, bX10_order_114, bX10_order_127, o_add, o_ald, o_cge, o_gf, o_i2l, o_ial, o_ic, o_ild, o_inc, o_iret, o_ist, o_lc, o_mul, o_s2, o_s3, o_v0, o_v1, o_zeq, o_zle, o_zne, tk, lget, lput, lkill, lmask, ol, flM_0_0, flM_0_1, flM_0_2, flM_0_3, flM_0_4, flM_0_5, flM_0_6, flM_0_7, flM_0_8, flM_0_9, flM_0_10, flM_0_11, flM_0_12, flM_0_13, flM_0_14, flM_0_15, flM_0_16, flM_0_17, flM_0_18, flM_0_19, flM_0_20, flM_0_21, flM_0_22, flM_0_23, flM_0_24, flM_0_25, flM_0_26, flM_0_27, flM_0_28, flM_0_29, flM_0_30, flM_0_31, flM_0_32, flM_0_33, flM_0_34, flM_0_35, flM_0_36, flM_0_37, flM_0_38, flM_0_39, flM_0_40, flM_0_41, arM_1, arM_2, arM_3, arM_4, arM_5, arM_6, arM_7, arM_8, arM_9, arM_10, arM_11, arM_12, arM_13, arM_14, arM_15, arM_16, arM_17, arM_18, arM_19, arM_20, arM_21, arM_22, arM_23, arM_24, arM_25]
      try simp only [up, upL, rp, sf, cpy, Nat.reduceEqDiff, reduceIte, Int.reduceNeg, Int.reduceLE, Int.reduceLT, Int.reduceEq, Int.reduceAdd, Int.reduceSub, Int.reduceMul, ne_eq, not_true_eq_false, not_false_eq_true, true_and, and_true, and_self, false_implies, true_implies, implies_true, forall_const, Nat.reduceAdd, Int.add_zero, Int.zero_add, true_or, or_true, false_or, or_false, List.length_nil, List.length_cons]
      (first | refine BX10_order_0 ?_ | refine BX10_order_9 ?_ | refine BX10_order_15 ?_ | refine BX10_order_28 ?_ | refine BX10_order_32 ?_ | refine BX10_order_57 ?_ | refine BX10_order_60 ?_ | refine BX10_order_75 ?_ | refine BX10_order_85 ?_ | refine BX10_order_100 ?_ | refine BX10_order_101 ?_ | refine BX10_order_108 ?_ | refine BX10_order_114 ?_ | refine BX10_order_127 ?_)
      dsimp only [bX10_order_0, bX10_order_9, bX10_order_15, bX10_order_28, bX10_order_32, bX10_order_57, bX10_order_60, bX10_order_75, bX10_order_85, bX10_order_100, bX10_order_101, bX10_order_108, bX10_order_114, bX10_order_127, o_add, o_ald, o_cge, o_gf, o_i2l, o_ial, o_ic, o_ild, o_inc, o_iret, o_ist, o_lc, o_mul, o_s2, o_s3, o_v0, o_v1, o_zeq, o_zle, o_zne, tk, lget, lput, lkill, lmask, ol, flM_0_0, flM_0_1, flM_0_2, flM_0_3, flM_0_4, flM_0_5, flM_0_6, flM_0_7, flM_0_8, flM_0_9, flM_0_10, flM_0_11, flM_0_12, flM_0_13, flM_0_14, flM_0_15, flM_0_16, flM_0_17, flM_0_18, flM_0_19, flM_0_20, flM_0_21, flM_0_22, flM_0_23, flM_0_24, flM_0_25, flM_0_26, flM_0_27, flM_0_28, flM_0_29, flM_0_30, flM_0_31, flM_0_32, flM_0_33, flM_0_34, flM_0_35, flM_0_36, flM_0_37, flM_0_38, flM_0_39, flM_0_40, flM_0_41, arM_1, arM_2, arM_3, arM_4, arM_5, arM_6, arM_7, arM_8, arM_9, arM_10, arM_11, arM_12, arM_13, arM_14, arM_15, arM_16, arM_17, arM_18, arM_19, arM_20, arM_21, arM_22, arM_23, arM_24, arM_25]
      try simp only [up, upL, rp, sf, cpy, Nat.reduceEqDiff, reduceIte, Int.reduceNeg, Int.reduceLE, Int.reduceLT, Int.reduceEq, Int.reduceAdd, Int.reduceSub, Int.reduceMul, ne_eq, not_true_eq_false, not_false_eq_true, true_and, and_true, and_self, false_implies, true_implies, implies_true, forall_const, Nat.reduceAdd, Int.add_zero, Int.zero_add, true_or, or_true, false_or, or_false, List.length_nil, List.length_cons]
      refine ⟨rfl, c_copyRow arM_7 arM_16 (by decide) (by omega) (by omega) (by omega) (by omega) ?_⟩
      rw [hF]
      (first | refine BX10_order_0 ?_ | refine BX10_order_9 ?_ | refine BX10_order_15 ?_ | refine BX10_order_28 ?_ | refine BX10_order_32 ?_ | refine BX10_order_57 ?_ | refine BX10_order_60 ?_ | refine BX10_order_75 ?_ | refine BX10_order_85 ?_ | refine BX10_order_100 ?_ | refine BX10_order_101 ?_ | refine BX10_order_108 ?_ | refine BX10_order_114 ?_ | refine BX10_order_127 ?_)
      dsimp only [bX10_order_0, bX10_order_9, bX10_order_15, bX10_order_28, bX10_order_32, bX10_order_57, bX10_order_60, bX10_order_75, bX10_order_85, bX10_order_100, bX10_order_101, bX10_order_108, bX10_order_114, bX10_order_127, o_add, o_ald, o_cge, o_gf, o_i2l, o_ial, o_ic, o_ild, o_inc, o_iret, o_ist, o_lc, o_mul, o_s2, o_s3, o_v0, o_v1, o_zeq, o_zle, o_zne, tk, lget, lput, lkill, lmask, ol, flM_0_0, flM_0_1, flM_0_2, flM_0_3, flM_0_4, flM_0_5, flM_0_6, flM_0_7, flM_0_8, flM_0_9, flM_0_10, flM_0_11, flM_0_12, flM_0_13, flM_0_14, flM_0_15, flM_0_16, flM_0_17, flM_0_18, flM_0_19, flM_0_20, flM_0_21, flM_0_22, flM_0_23, flM_0_24, flM_0_25, flM_0_26, flM_0_27, flM_0_28, flM_0_29, flM_0_30, flM_0_31, flM_0_32, flM_0_33, flM_0_34, flM_0_35, flM_0_36, flM_0_37, flM_0_38, flM_0_39, flM_0_40, flM_0_41, arM_1, arM_2, arM_3, arM_4, arM_5, arM_6, arM_7, arM_8, arM_9, arM_10, arM_11, arM_12, arM_13, arM_14, arM_15, arM_16, arM_17, arM_18, arM_19, arM_20, arM_21, arM_22, arM_23, arM_24, arM_25]
      try simp only [up, upL, rp, sf, cpy, Nat.reduceEqDiff, reduceIte, Int.reduceNeg, Int.reduceLE, Int.reduceLT, Int.reduceEq, Int.reduceAdd, Int.reduceSub, Int.reduceMul, ne_eq, not_true_eq_false, not_false_eq_true, true_and, and_true, and_self, false_implies, true_implies, implies_true, forall_const, Nat.reduceAdd, Int.add_zero, Int.zero_add, true_or, or_true, false_or, or_false, List.length_nil, List.length_cons]
      exact L x.toNat 0 0 0 rfl (by omega) (fun _ => ⟨rfl, rfl⟩) rfl
  · refine ⟨-1000000002, f, by omega, fun w Q hq => ?_, fun u Q hq => ?_⟩
    · have e : Tf l X shC 4 mX9_order Q 12 [none, none] [] (C, w) := by
        (first | refine BX9_order_0 ?_ | refine BX9_order_12 ?_ | refine BX9_order_15 ?_ | refine BX9_order_30 ?_ | refine BX9_order_45 ?_)
        dsimp only [bX9_order_0, bX9_order_12, bX9_order_15, bX9_order_30, bX9_order_45, o_ald, o_cle, o_clt, o_gf, o_ic, o_ild, o_iret, o_v2, tk, lget, lput, lkill, lmask, ol, flC_0_0, flC_0_1, flC_0_2, flC_0_3, flC_0_4, flC_0_5, flC_0_6, flC_0_7, flC_0_8, flC_0_9, flC_0_10, flC_1_0, flC_1_1, flC_1_2, flC_1_3, flC_1_4, flC_1_5, flC_1_6, flC_1_7, flC_2_0, flC_2_1, flC_2_2, flC_2_3, flC_2_4, flC_2_5, flC_2_6, flC_2_7, flC_2_8, arC_3, arC_4, arC_5, arC_6, arC_7, arC_8, arC_9, flC_10_0, flC_10_1, flC_10_2, flC_10_3, flC_10_4, flC_10_5, flC_10_6, flC_10_7, flC_10_8, arC_11, arC_12, arC_13, arC_14, arC_15, arC_16, flC_17_0, arC_18, flC_19_0, flC_19_1, flC_19_2, arC_20, flC_21_0, flC_21_1, flC_21_2, arC_22, arC_23, flC_24_0, flC_24_1, flC_24_2, arC_25, flC_26_0, flC_26_1, flC_26_2, arC_27, arC_28, flC_29_0, arC_30, flC_31_0, flC_31_1, arC_32, arC_33, arC_34]
        try simp only [up, upL, rp, sf, cpy, Nat.reduceEqDiff, reduceIte, Int.reduceNeg, Int.reduceLE, Int.reduceLT, Int.reduceEq, Int.reduceAdd, Int.reduceSub, Int.reduceMul, ne_eq, not_true_eq_false, not_false_eq_true, true_and, and_true, and_self, false_implies, true_implies, implies_true, forall_const, Nat.reduceAdd, Int.add_zero, Int.zero_add, true_or, or_true, false_or, or_false, List.length_nil, List.length_cons]
        exact hq (C, w) hI
      refine EX9_order rfl ?_
      (first | refine BX9_order_0 ?_ | refine BX9_order_12 ?_ | refine BX9_order_15 ?_ | refine BX9_order_30 ?_ | refine BX9_order_45 ?_)
      dsimp only [bX9_order_0, bX9_order_12, bX9_order_15, bX9_order_30, bX9_order_45, o_ald, o_cle, o_clt, o_gf, o_ic, o_ild, o_iret, o_v2, tk, lget, lput, lkill, lmask, ol, lent, flC_0_0, flC_0_1, flC_0_2, flC_0_3, flC_0_4, flC_0_5, flC_0_6, flC_0_7, flC_0_8, flC_0_9, flC_0_10, flC_1_0, flC_1_1, flC_1_2, flC_1_3, flC_1_4, flC_1_5, flC_1_6, flC_1_7, flC_2_0, flC_2_1, flC_2_2, flC_2_3, flC_2_4, flC_2_5, flC_2_6, flC_2_7, flC_2_8, arC_3, arC_4, arC_5, arC_6, arC_7, arC_8, arC_9, flC_10_0, flC_10_1, flC_10_2, flC_10_3, flC_10_4, flC_10_5, flC_10_6, flC_10_7, flC_10_8, arC_11, arC_12, arC_13, arC_14, arC_15, arC_16, flC_17_0, arC_18, flC_19_0, flC_19_1, flC_19_2, arC_20, flC_21_0, flC_21_1, flC_21_2, arC_22, arC_23, flC_24_0, flC_24_1, flC_24_2, arC_25, flC_26_0, flC_26_1, flC_26_2, arC_27, arC_28, flC_29_0, arC_30, flC_31_0, flC_31_1, arC_32, arC_33, arC_34]
      try simp only [up, upL, rp, sf, cpy, Nat.reduceEqDiff, reduceIte, Int.reduceNeg, Int.reduceLE, Int.reduceLT, Int.reduceEq, Int.reduceAdd, Int.reduceSub, Int.reduceMul, ne_eq, not_true_eq_false, not_false_eq_true, true_and, and_true, and_self, false_implies, true_implies, implies_true, forall_const, Nat.reduceAdd, Int.add_zero, Int.zero_add, true_or, or_true, false_or, or_false, List.length_nil, List.length_cons]
      exact ⟨hx, fun h => e, fun h => ⟨hx, fun h => absurd h (by omega), fun h => e⟩⟩
    · refine EX10_order rfl ?_
      (first | refine BX10_order_0 ?_ | refine BX10_order_9 ?_ | refine BX10_order_15 ?_ | refine BX10_order_28 ?_ | refine BX10_order_32 ?_ | refine BX10_order_57 ?_ | refine BX10_order_60 ?_ | refine BX10_order_75 ?_ | refine BX10_order_85 ?_ | refine BX10_order_100 ?_ | refine BX10_order_101 ?_ | refine BX10_order_108 ?_ | refine BX10_order_114 ?_ | refine BX10_order_127 ?_)
      dsimp only [bX10_order_0, bX10_order_9, bX10_order_15, bX10_order_28, bX10_order_32, bX10_order_57, bX10_order_60, bX10_order_75, bX10_order_85, bX10_order_100, bX10_order_101, bX10_order_108, bX10_order_114, bX10_order_127, o_add, o_ald, o_cge, o_gf, o_i2l, o_ial, o_ic, o_ild, o_inc, o_iret, o_ist, o_lc, o_mul, o_s2, o_s3, o_v0, o_v1, o_zeq, o_zle, o_zne, tk, lget, lput, lkill, lmask, ol, lent, flM_0_0, flM_0_1, flM_0_2, flM_0_3, flM_0_4, flM_0_5, flM_0_6, flM_0_7, flM_0_8, flM_0_9, flM_0_10, flM_0_11, flM_0_12, flM_0_13, flM_0_14, flM_0_15, flM_0_16, flM_0_17, flM_0_18, flM_0_19, flM_0_20, flM_0_21, flM_0_22, flM_0_23, flM_0_24, flM_0_25, flM_0_26, flM_0_27, flM_0_28, flM_0_29, flM_0_30, flM_0_31, flM_0_32, flM_0_33, flM_0_34, flM_0_35, flM_0_36, flM_0_37, flM_0_38, flM_0_39, flM_0_40, flM_0_41, arM_1, arM_2, arM_3, arM_4, arM_5, arM_6, arM_7, arM_8, arM_9, arM_10, arM_11, arM_12, arM_13, arM_14, arM_15, arM_16, arM_17, arM_18, arM_19, arM_20, arM_21, arM_22, arM_23, arM_24, arM_25]
      try simp only [up, upL, rp, sf, cpy, Nat.reduceEqDiff, reduceIte, Int.reduceNeg, Int.reduceLE, Int.reduceLT, Int.reduceEq, Int.reduceAdd, Int.reduceSub, Int.reduceMul, ne_eq, not_true_eq_false, not_false_eq_true, true_and, and_true, and_self, false_implies, true_implies, implies_true, forall_const, Nat.reduceAdd, Int.add_zero, Int.zero_add, true_or, or_true, false_or, or_false, List.length_nil, List.length_cons]
      refine ⟨hx, rfl, c_in hx (by decide) (by decide) (fun h => absurd h ha) (fun h => ?_)⟩
      (first | refine BX10_order_0 ?_ | refine BX10_order_9 ?_ | refine BX10_order_15 ?_ | refine BX10_order_28 ?_ | refine BX10_order_32 ?_ | refine BX10_order_57 ?_ | refine BX10_order_60 ?_ | refine BX10_order_75 ?_ | refine BX10_order_85 ?_ | refine BX10_order_100 ?_ | refine BX10_order_101 ?_ | refine BX10_order_108 ?_ | refine BX10_order_114 ?_ | refine BX10_order_127 ?_)
      dsimp only [bX10_order_0, bX10_order_9, bX10_order_15, bX10_order_28, bX10_order_32, bX10_order_57, bX10_order_60, bX10_order_75, bX10_order_85, bX10_order_100, bX10_order_101, bX10_order_108, bX10_order_114, bX10_order_127, o_add, o_ald, o_cge, o_gf, o_i2l, o_ial, o_ic, o_ild, o_inc, o_iret, o_ist, o_lc, o_mul, o_s2, o_s3, o_v0, o_v1, o_zeq, o_zle, o_zne, tk, lget, lput, lkill, lmask, ol, flM_0_0, flM_0_1, flM_0_2, flM_0_3, flM_0_4, flM_0_5, flM_0_6, flM_0_7, flM_0_8, flM_0_9, flM_0_10, flM_0_11, flM_0_12, flM_0_13, flM_0_14, flM_0_15, flM_0_16, flM_0_17, flM_0_18, flM_0_19, flM_0_20, flM_0_21, flM_0_22, flM_0_23, flM_0_24, flM_0_25, flM_0_26, flM_0_27, flM_0_28, flM_0_29, flM_0_30, flM_0_31, flM_0_32, flM_0_33, flM_0_34, flM_0_35, flM_0_36, flM_0_37, flM_0_38, flM_0_39, flM_0_40, flM_0_41, arM_1, arM_2, arM_3, arM_4, arM_5, arM_6, arM_7, arM_8, arM_9, arM_10, arM_11, arM_12, arM_13, arM_14, arM_15, arM_16, arM_17, arM_18, arM_19, arM_20, arM_21, arM_22, arM_23, arM_24, arM_25]
      try simp only [up, upL, rp, sf, cpy, Nat.reduceEqDiff, reduceIte, Int.reduceNeg, Int.reduceLE, Int.reduceLT, Int.reduceEq, Int.reduceAdd, Int.reduceSub, Int.reduceMul, ne_eq, not_true_eq_false, not_false_eq_true, true_and, and_true, and_self, false_implies, true_implies, implies_true, forall_const, Nat.reduceAdd, Int.add_zero, Int.zero_add, true_or, or_true, false_or, or_false, List.length_nil, List.length_cons]
      exact hq
