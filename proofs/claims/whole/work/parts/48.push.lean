/-! dynasties bit by bit; push -/
theorem dynF_bits (ins : Int → Int) : ∀ (j : Nat) (c s : Int), 0 ≤ s → s < 128 → 0 ≤ c → c + j ≤ 7 → (∀ k, c ≤ k → k < 31 → bt s k = false) → (∀ k, c ≤ k → k < c + j → -1 ≤ ins k ∧ ins k < k) → (0 ≤ dynF ins j c s ∧ dynF ins j c s < 128) ∧ (∀ k, 0 ≤ k → k < c → bt (dynF ins j c s) k = bt s k) ∧ (∀ k, c ≤ k → k < c + j → bt (dynF ins j c s) k = decide (0 ≤ ins k ∧ bt (dynF ins j c s) (ins k) = true)) ∧ (∀ k, c + j ≤ k → k < 31 → bt (dynF ins j c s) k = false)
  | 0, c, s, h0, h1, c0, c1, hs, hi => ⟨⟨h0, h1⟩, fun _ _ _ => rfl, fun k k0 k1 => by omega, fun k k0 k1 => hs k (by omega) k1⟩
  | j + 1, c, s, h0, h1, c0, c1, hs, hi => by
    have hc := hi c (by omega) (by omega)
    have hb : ∀ k, 0 ≤ k → k < 31 → bt (if 0 ≤ ins c ∧ bt s (ins c) = true then ior s (ishl 1 c) else s) k = (bt s k || decide (k = c ∧ 0 ≤ ins c ∧ bt s (ins c) = true)) := by
      intro k k0 k1
      split
      · rename_i hq
        rw [bt_or h0 (by omega) c0 (by omega) k0 k1]
        simp [hq]
      · rename_i hq
        have : ¬ (k = c ∧ 0 ≤ ins c ∧ bt s (ins c) = true) := fun z => hq z.2
        simp [this]
    have hr : 0 ≤ (if 0 ≤ ins c ∧ bt s (ins c) = true then ior s (ishl 1 c) else s) ∧ (if 0 ≤ ins c ∧ bt s (ins c) = true then ior s (ishl 1 c) else s) < 128 := by
      split
      · exact ior_up h0 h1 c0 (by omega)
      · exact ⟨h0, h1⟩
    obtain ⟨a1, a2, a3, a4⟩ := dynF_bits ins j (c + 1) (if 0 ≤ ins c ∧ bt s (ins c) = true then ior s (ishl 1 c) else s) hr.1 hr.2 (by omega) (by omega) (fun k k0 k1 => by
      rw [hb k (by omega) k1, hs k (by omega) k1]
      simp; omega) (fun k k0 k1 => hi k (by omega) (by omega))
    have e : dynF ins (j + 1) c s = dynF ins j (c + 1) (if 0 ≤ ins c ∧ bt s (ins c) = true then ior s (ishl 1 c) else s) := rfl
    rw [e]
    refine ⟨a1, fun k k0 k1 => ?_, fun k k0 k1 => ?_, fun k k0 k1 => a4 k (by omega) k1⟩
    · rw [a2 k k0 (by omega), hb k k0 (by omega)]
      simp; omega
    · by_cases hk : k = c
      · subst hk
        rw [a2 k c0 (by omega), hb k c0 (by omega), hs k (by omega) (by omega)]
        by_cases hz : 0 ≤ ins k
        · rw [a2 (ins k) hz (by omega), hb (ins k) hz (by omega)]
          have : ¬ (ins k = k ∧ 0 ≤ ins k ∧ bt s (ins k) = true) := by omega
          simp [this]
        · simp [hz]
      · exact a3 k (by omega) (by omega)
theorem dyn_bits {f : Nat → Int → Int} {b : Int} (hE : OkE f) (b0 : 0 ≤ b) (b1 : b < f 0 1) : (0 ≤ dynM f b ∧ dynM f b < 128) ∧ (∀ k, 0 ≤ k → k < b → bt (dynM f b) k = false) ∧ bt (dynM f b) b = true ∧ (∀ k, b < k → k < f 0 1 → bt (dynM f b) k = decide (0 ≤ f 5 k ∧ bt (dynM f b) (f 5 k) = true)) ∧ (∀ k, f 0 1 ≤ k → k < 31 → bt (dynM f b) k = false) := by
  have hB := hE.2.1
  have hs := shl1_bd b0 (show b < 31 by omega)
  have h128 : ishl 1 b < 128 := fin7 (P := fun b => ishl 1 b < 128) (by decide +kernel) b0 (by omega)
  obtain ⟨a1, a2, a3, a4⟩ := dynF_bits (f 5) (f 0 1 - (b + 1)).toNat (b + 1) (ishl 1 b) (by omega) h128 (by omega) (by omega) (fun k k0 k1 => by
    rw [bt_shl b0 (by omega) (by omega) k1]
    simp; omega) (fun k k0 k1 => (hE.2.2.2.2.2.1 k (by omega) (by omega)).2.2.2.2)
  refine ⟨a1, fun k k0 k1 => ?_, ?_, fun k k0 k1 => a3 k (by omega) (by omega), fun k k0 k1 => a4 k (by omega) k1⟩
  · have := a2 k k0 (by omega)
    rw [bt_shl b0 (by omega) k0 (by omega)] at this
    exact this.trans (by simp; omega)
  · have := a2 b b0 (by omega)
    rw [bt_shl b0 (by omega) b0 (by omega)] at this
    exact this.trans (by simp)
def dwn (f : Nat → Int → Int) (g : Int → Int) (b : Int) : Int := iand (dynM f b) (g 7)
def psl (d : Int) : Nat → Int → (Int → Int) → Int → Int
  | 0, _, g => g
  | j + 1, c, g => psl d j (c + 1) (sf g (9 + c) (if bt d c = true then 0 else g (9 + c)))
def pushM (f : Nat → Int → Int) (b : Int) : Int → Int := psl (dwn f (f 7) b) (f 0 1).toNat 0 (sf (f 7) 7 (iand (f 7 7) (ixor (dwn f (f 7) b) (-1))))
theorem sf_comm {g : Int → Int} {i j v w : Int} (h : i ≠ j) : sf (sf g i v) j w = sf (sf g j w) i v := by
  funext k
  unfold sf
  by_cases h1 : k = j
  · rw [if_pos h1, if_neg (fun e => h (e.symm.trans h1)), if_pos h1]
  · rw [if_neg h1]
    by_cases h2 : k = i
    · rw [if_pos h2, if_pos h2]
    · rw [if_neg h2, if_neg h2, if_neg h1]
theorem psl_up {d v : Int} : ∀ (j : Nat) (c : Int) (g : Int → Int), 0 ≤ c → psl d j c (sf g 7 v) = sf (psl d j c g) 7 v
  | 0, _, _, _ => rfl
  | j + 1, c, g, h => by
    have e : sf g 7 v (9 + c) = g (9 + c) := by unfold sf; rw [if_neg (by omega)]
    unfold psl
    rw [e, sf_comm (by omega), psl_up j (c + 1) _ (by omega)]
theorem psl_skip {d : Int} : ∀ (i j : Nat) (c : Int) (g : Int → Int), (∀ k, c ≤ k → k < c + i → bt d k = false) → psl d (i + j) c g = psl d j (c + i) g
  | 0, j, c, g, _ => by simp
  | i + 1, j, c, g, h => by
    have e : psl d ((i + j) + 1) c g = psl d (i + j) (c + 1) (sf g (9 + c) (if bt d c = true then 0 else g (9 + c))) := rfl
    rw [show i + 1 + j = (i + j) + 1 by omega, e, h c (by omega) (by omega), if_neg (by decide), sf_self, psl_skip i j (c + 1) g (fun k k0 k1 => h k (by omega) (by omega)), show c + 1 + (i : Int) = c + ((i + 1 : Nat) : Int) by omega]
theorem psl_keep {d : Int} : ∀ (j : Nat) (c : Int) (g : Int → Int) (i : Int), 0 ≤ c → c + j ≤ 7 → (i < 9 ∨ 16 ≤ i) → psl d j c g i = g i
  | 0, _, _, _, _, _, _ => rfl
  | j + 1, c, g, i, h0, h1, hi => by
    unfold psl
    rw [psl_keep j (c + 1) _ i (by omega) (by omega) hi]
    unfold sf
    rw [if_neg (by omega)]
theorem OkR_psl {f : Nat → Int → Int} {d : Int} (hE : OkE f) : ∀ (j : Nat) (c : Int) (g : Int → Int), OkR f g → 0 ≤ c → c + j ≤ f 0 1 → OkR f (psl d j c g)
  | 0, _, _, h, _, _ => h
  | j + 1, c, g, h, h0, h1 => by
    have hB := hE.2.1
    have hR := hE.2.2.1
    have hg := (h.1 c h0 (by omega)).2.1
    unfold psl
    refine OkR_psl hE j (c + 1) _ ?_ (by omega) (by omega)
    exact OkR_set h (fun b b0 b1 => ⟨fun e => by omega, fun e => by split <;> omega, fun e => by omega⟩) (fun r r0 r1 e => by omega) (fun e => by omega) (fun e => by omega) (fun e => by omega) (fun e => by omega)
theorem dwn_bd {f : Nat → Int → Int} {g : Int → Int} {b : Int} (hE : OkE f) (hO : OkR f g) (b0 : 0 ≤ b) (b1 : b < f 0 1) : 0 ≤ dwn f g b ∧ dwn f g b < 128 := by
  have hd := dyn_bits hE b0 b1
  have hu := hO.2.2.1
  have := iand_bd hd.1.1 (by omega) hu.1 (by omega)
  unfold dwn
  omega
theorem OkR_push {f : Nat → Int → Int} {b : Int} (hE : OkE f) (hO : OkR f (f 7)) (b0 : 0 ≤ b) (b1 : b < f 0 1) : OkR f (pushM f b) := by
  have hB := hE.2.1
  have hR := hE.2.2.1
  have hd := dwn_bd hE hO b0 b1
  have hu := hO.2.2.1
  have ha := andn_bd hu.1 (by omega) hd.1 (by omega)
  refine OkR_psl hE _ _ _ ?_ (by omega) (by omega)
  exact OkR_set hO (fun b b0 b1 => ⟨fun e => by omega, fun e => by omega, fun e => by omega⟩) (fun r r0 r1 e => by omega) (fun e => by omega) (fun e => by omega) (fun e => by omega) (fun e => by omega)
theorem push_clo {f : Nat → Int → Int} {b : Int} (hE : OkE f) (hO : OkR f (f 7)) (h : Clo f (f 7)) (b0 : 0 ≤ b) (b1 : b < f 0 1) : Clo f (pushM f b) ∧ pushM f b 29 = f 7 29 := by
  have hB := hE.2.1
  have hd := dwn_bd hE hO b0 b1
  have hu := hO.2.2.1
  have hdy := dyn_bits hE b0 b1
  have e7 : pushM f b 7 = iand (f 7 7) (ixor (dwn f (f 7) b) (-1)) := by
    unfold pushM
    rw [psl_keep _ _ _ _ (by omega) (by omega) (by omega)]
    unfold sf
    rw [if_pos rfl]
  have hbt : ∀ k, 0 ≤ k → k < 7 → bt (pushM f b 7) k = (bt (f 7 7) k && !bt (dynM f b) k) := by
    intro k k0 k1
    rw [e7, bt_andn hu.1 (by omega) hd.1 (by omega) k0 (by omega)]
    unfold dwn
    rw [bt_and hdy.1.1 (by omega) hu.1 (by omega) k0 (by omega)]
    cases bt (f 7 7) k <;> cases bt (dynM f b) k <;> rfl
  refine ⟨fun c c0 c1 hc hi => ?_, ?_⟩
  · have hcc := (hE.2.2.2.2.2.1 c c0 c1).2.2.2.2
    rw [hbt c c0 (by omega), Bool.and_eq_true] at hc
    rw [hbt _ hi (by omega), Bool.and_eq_true]
    refine ⟨h c c0 c1 hc.1 hi, ?_⟩
    cases hz : bt (dynM f b) (f 5 c) with
    | false => rfl
    | true =>
      have hge : b ≤ f 5 c := by
        rcases Int.lt_or_le (f 5 c) b with q | q
        · rw [hdy.2.1 _ hi q] at hz; cases hz
        · exact q
      have := hdy.2.2.2.1 c (by omega) c1
      rw [hz] at this
      rw [this] at hc
      simp [hi] at hc
  · unfold pushM
    rw [psl_keep _ _ _ _ (by omega) (by omega) (by omega)]
    unfold sf
    rw [if_neg (by decide)]
/-- of an heir who is down nobody within is up: there is nobody to push -/
theorem push_down {f : Nat → Int → Int} {b : Int} (hE : OkE f) (hO : OkR f (f 7)) (h : Clo f (f 7)) (b0 : 0 ≤ b) (b1 : b < f 0 1) (hb : bt (f 7 7) b = false) : pushM f b = f 7 := by
  have hB := hE.2.1
  have hd := dwn_bd hE hO b0 b1
  have hu := hO.2.2.1
  have hdy := dyn_bits hE b0 b1
  have key : ∀ (n : Nat) (k : Int), k = n → k < f 0 1 → bt (dynM f b) k = true → bt (f 7 7) k = false := by
    intro n
    induction n using Nat.strongRecOn with
    | ind n ih =>
      intro k hk k1 hz
      rcases Int.lt_trichotomy k b with q | q | q
      · rw [hdy.2.1 k (by omega) q] at hz; cases hz
      · rw [q]; exact hb
      · have e := hdy.2.2.2.1 k q k1
        rw [hz] at e
        have e := of_decide_eq_true e.symm
        have hcc := (hE.2.2.2.2.2.1 k (by omega) k1).2.2.2.2
        have := ih (f 5 k).toNat (by omega) (f 5 k) (by omega) (by omega) e.2
        cases hq : bt (f 7 7) k with
        | false => rfl
        | true => rw [h k (by omega) k1 hq e.1] at this; cases this
  have hz : dwn f (f 7) b = 0 := by
    refine bt_ext hd.1 (by omega) (by decide) (by decide) (fun k k0 k1 => ?_)
    rw [bt_0 k0 k1]
    unfold dwn
    rw [bt_and hdy.1.1 (by omega) hu.1 (by omega) k0 k1]
    cases hq : bt (dynM f b) k with
    | false => rfl
    | true =>
      rcases Int.lt_or_le k (f 0 1) with q | q
      · rw [key k.toNat k (by omega) q hq]; rfl
      · rw [hdy.2.2.2.2 k q k1] at hq; cases hq
  have hp : ∀ (j : Nat) (c : Int) (g : Int → Int), 0 ≤ c → c + j ≤ 7 → psl 0 j c g = g := by
    intro j
    induction j with
    | zero => intro c g _ _; rfl
    | succ j ih =>
      intro c g c0 c1
      unfold psl
      rw [bt_0 c0 (by omega), if_neg (by decide), sf_self, ih (c + 1) g (by omega) (by omega)]
  unfold pushM
  rw [hz, hp _ _ _ (by omega) (by omega)]
  have : iand (f 7 7) (ixor 0 (-1)) = f 7 7 := by
    have ha := andn_bd (d := 0) hu.1 (by omega) (by decide) (by decide)
    refine bt_ext ha.1 (by omega) hu.1 (by omega) (fun k k0 k1 => ?_)
    rw [bt_andn hu.1 (by omega) (by decide) (by decide) k0 k1, bt_0 k0 k1]
    simp
  rw [this, sf_self]
theorem c_pushNow {l : Launch} {X : Cx} {Q : Qt} {M : Me} {b : Int} (hE : OkE M.1) (hO : OkR M.1 (M.1 7)) (b0 : 0 ≤ b) (b1 : b < M.1 0 1) (hq : Q (some (vI (bsum (dwn M.1 (M.1 7) b) 30 0))) (rp M.1 7 (pushM M.1 b), M.2)) : TM l X shM 2 mX10_pushNow [vR 0, vI b] M Q := by
  have hB := hE.2.1
  obtain ⟨f, u⟩ := M
  dsimp only at hE hO b1 hq hB
  have L : ∀ (j : Nat) (c : Int) (g : Int → Int), c + j = f 0 1 → 0 ≤ c → psl (dwn f (f 7) b) j c g = pushM f b → Tf l X shM 2 mX10_pushNow Q 29 [some (vR 0), none, some (vI (dwn f (f 7) b)), some (vI c)] [] (rp f 7 g, u) := by
    intro j
    induction j with
    | zero =>
      intro c g e0 e1 e2
      have e2 : g = pushM f b := e2
      (first | refine BX10_pushNow_0 ?_ | refine BX10_pushNow_5 ?_ | refine BX10_pushNow_29 ?_ | refine BX10_pushNow_50 ?_ | refine BX10_pushNow_57 ?_ | refine BX10_pushNow_66 ?_ | refine BX10_pushNow_73 ?_ | refine BX10_pushNow_77 ?_)
      dsimp only [bX10_pushNow_0, bX10_pushNow_5, bX10_pushNow_29, bX10_pushNow_50, bX10_pushNow_57, bX10_pushNow_66, bX10_pushNow_73, bX10_pushNow_77, o_add, o_ald, o_and, o_cge, o_dup2, o_gf, o_ial, o_ias, o_ic, o_ild, o_inc, o_iret, o_ist, o_s1, o_s2, o_v1, o_xor, o_zeq, tk, lget, lput, lkill, lmask, ol, flM_0_0, flM_0_1, flM_0_2, flM_0_3, flM_0_4, flM_0_5, flM_0_6, flM_0_7, flM_0_8, flM_0_9, flM_0_10, flM_0_11, flM_0_12, flM_0_13, flM_0_14, flM_0_15, flM_0_16, flM_0_17, flM_0_18, flM_0_19, flM_0_20, flM_0_21, flM_0_22, flM_0_23, flM_0_24, flM_0_25, flM_0_26, flM_0_27, flM_0_28, flM_0_29, flM_0_30, flM_0_31, flM_0_32, flM_0_33, flM_0_34, flM_0_35, flM_0_36, flM_0_37, flM_0_38, flM_0_39, flM_0_40, flM_0_41, arM_1, arM_2, arM_3, arM_4, arM_5, arM_6, arM_7, arM_8, arM_9, arM_10, arM_11, arM_12, arM_13, arM_14, arM_15, arM_16, arM_17, arM_18, arM_19, arM_20, arM_21, arM_22, arM_23, arM_24, arM_25]
      try simp only [up, upL, rp, sf, cpy, Nat.reduceEqDiff, reduceIte, Int.reduceNeg, Int.reduceLE, Int.reduceLT, Int.reduceEq, Int.reduceAdd, Int.reduceSub, Int.reduceMul, ne_eq, not_true_eq_false, not_false_eq_true, true_and, and_true, and_self, false_implies, true_implies, implies_true, forall_const, Nat.reduceAdd, Int.add_zero, Int.zero_add, true_or, or_true, false_or, or_false, List.length_nil, List.length_cons]
      refine ⟨by omega, by omega, fun h => ?_, fun h => absurd h (by omega)⟩
      (first | refine BX10_pushNow_0 ?_ | refine BX10_pushNow_5 ?_ | refine BX10_pushNow_29 ?_ | refine BX10_pushNow_50 ?_ | refine BX10_pushNow_57 ?_ | refine BX10_pushNow_66 ?_ | refine BX10_pushNow_73 ?_ | refine BX10_pushNow_77 ?_)
      dsimp only [bX10_pushNow_0, bX10_pushNow_5, bX10_pushNow_29, bX10_pushNow_50, bX10_pushNow_57, bX10_pushNow_66, bX10_pushNow_73, bX10_pushNow_77, o_add, o_ald, o_and, o_cge, o_dup2, o_gf, o_ial, o_ias, o_ic, o_ild, o_inc, o_iret, o_ist, o_s1, o_s2, o_v1, o_xor, o_zeq, tk, lget, lput, lkill, lmask, ol, flM_0_0, flM_0_1, flM_0_2, flM_0_3, flM_0_4, flM_0_5, flM_0_6, flM_0_7, flM_0_8, flM_0_9, flM_0_10, flM_0_11, flM_0_12, flM_0_13, flM_0_14, flM_0_15, flM_0_16, flM_0_17, flM_0_18, flM_0_19, flM_0_20, flM_0_21, flM_0_22, flM_0_23, flM_0_24, flM_0_25, flM_0_26, flM_0_27, flM_0_28, flM_0_29, flM_0_30, flM_0_31, flM_0_32, flM_0_33, flM_0_34, flM_0_35, flM_0_36, flM_0_37, flM_0_38, flM_0_39, flM_0_40, flM_0_41, arM_1, arM_2, arM_3, arM_4, arM_5, arM_6, arM_7, arM_8, arM_9, arM_10, arM_11, arM_12, arM_13, arM_14, arM_15, arM_16, arM_17, arM_18, arM_19, arM_20, arM_21, arM_22, arM_23, arM_24, arM_25]
      try simp only [up, upL, rp, sf, cpy, Nat.reduceEqDiff, reduceIte, Int.reduceNeg, Int.reduceLE, Int.reduceLT, Int.reduceEq, Int.reduceAdd, Int.reduceSub, Int.reduceMul, ne_eq, not_true_eq_false, not_false_eq_true, true_and, and_true, and_self, false_implies, true_implies, implies_true, forall_const, Nat.reduceAdd, Int.add_zero, Int.zero_add, true_or, or_true, false_or, or_false, List.length_nil, List.length_cons]
      refine ⟨rfl, c_bits ?_⟩
      (first | refine BX10_pushNow_0 ?_ | refine BX10_pushNow_5 ?_ | refine BX10_pushNow_29 ?_ | refine BX10_pushNow_50 ?_ | refine BX10_pushNow_57 ?_ | refine BX10_pushNow_66 ?_ | refine BX10_pushNow_73 ?_ | refine BX10_pushNow_77 ?_)
      dsimp only [bX10_pushNow_0, bX10_pushNow_5, bX10_pushNow_29, bX10_pushNow_50, bX10_pushNow_57, bX10_pushNow_66, bX10_pushNow_73, bX10_pushNow_77, o_add, o_ald, o_and, o_cge, o_dup2, o_gf, o_ial, o_ias, o_ic, o_ild, o_inc, o_iret, o_ist, o_s1, o_s2, o_v1, o_xor, o_zeq, tk, lget, lput, lkill, lmask, ol, flM_0_0, flM_0_1, flM_0_2, flM_0_3, flM_0_4, flM_0_5, flM_0_6, flM_0_7, flM_0_8, flM_0_9, flM_0_10, flM_0_11, flM_0_12, flM_0_13, flM_0_14, flM_0_15, flM_0_16, flM_0_17, flM_0_18, flM_0_19, flM_0_20, flM_0_21, flM_0_22, flM_0_23, flM_0_24, flM_0_25, flM_0_26, flM_0_27, flM_0_28, flM_0_29, flM_0_30, flM_0_31, flM_0_32, flM_0_33, flM_0_34, flM_0_35, flM_0_36, flM_0_37, flM_0_38, flM_0_39, flM_0_40, flM_0_41, arM_1, arM_2, arM_3, arM_4, arM_5, arM_6, arM_7, arM_8, arM_9, arM_10, arM_11, arM_12, arM_13, arM_14, arM_15, arM_16, arM_17, arM_18, arM_19, arM_20, arM_21, arM_22, arM_23, arM_24, arM_25]
      try simp only [up, upL, rp, sf, cpy, Nat.reduceEqDiff, reduceIte, Int.reduceNeg, Int.reduceLE, Int.reduceLT, Int.reduceEq, Int.reduceAdd, Int.reduceSub, Int.reduceMul, ne_eq, not_true_eq_false, not_false_eq_true, true_and, and_true, and_self, false_implies, true_implies, implies_true, forall_const, Nat.reduceAdd, Int.add_zero, Int.zero_add, true_or, or_true, false_or, or_false, List.length_nil, List.length_cons]
      rw [e2]
      exact hq
    | succ j ih =>
      intro c g e0 e1 e2
      (first | refine BX10_pushNow_0 ?_ | refine BX10_pushNow_5 ?_ | refine BX10_pushNow_29 ?_ | refine BX10_pushNow_50 ?_ | refine BX10_pushNow_57 ?_ | refine BX10_pushNow_66 ?_ | refine BX10_pushNow_73 ?_ | refine BX10_pushNow_77 ?_)
      dsimp only [bX10_pushNow_0, bX10_pushNow_5, bX10_pushNow_29, bX10_pushNow_50, bX10_pushNow_57, bX10_pushNow_66, bX10_pushNow_73, bX10_pushNow_77, o_add, o_ald, o_and, o_cge, o_dup2, o_gf, o_ial, o_ias, o_ic, o_ild, o_inc, o_iret, o_ist, o_s1, o_s2, o_v1, o_xor, o_zeq, tk, lget, lput, lkill, lmask, ol, flM_0_0, flM_0_1, flM_0_2, flM_0_3, flM_0_4, flM_0_5, flM_0_6, flM_0_7, flM_0_8, flM_0_9, flM_0_10, flM_0_11, flM_0_12, flM_0_13, flM_0_14, flM_0_15, flM_0_16, flM_0_17, flM_0_18, flM_0_19, flM_0_20, flM_0_21, flM_0_22, flM_0_23, flM_0_24, flM_0_25, flM_0_26, flM_0_27, flM_0_28, flM_0_29, flM_0_30, flM_0_31, flM_0_32, flM_0_33, flM_0_34, flM_0_35, flM_0_36, flM_0_37, flM_0_38, flM_0_39, flM_0_40, flM_0_41, arM_1, arM_2, arM_3, arM_4, arM_5, arM_6, arM_7, arM_8, arM_9, arM_10, arM_11, arM_12, arM_13, arM_14, arM_15, arM_16, arM_17, arM_18, arM_19, arM_20, arM_21, arM_22, arM_23, arM_24, arM_25]
      try simp only [up, upL, rp, sf, cpy, Nat.reduceEqDiff, reduceIte, Int.reduceNeg, Int.reduceLE, Int.reduceLT, Int.reduceEq, Int.reduceAdd, Int.reduceSub, Int.reduceMul, ne_eq, not_true_eq_false, not_false_eq_true, true_and, and_true, and_self, false_implies, true_implies, implies_true, forall_const, Nat.reduceAdd, Int.add_zero, Int.zero_add, true_or, or_true, false_or, or_false, List.length_nil, List.length_cons]
      refine ⟨by omega, by omega, fun h => absurd h (by omega), fun h => ⟨rfl, c_has (fun h5 => ?_) (fun h5 => ?_)⟩⟩
      · (first | refine BX10_pushNow_0 ?_ | refine BX10_pushNow_5 ?_ | refine BX10_pushNow_29 ?_ | refine BX10_pushNow_50 ?_ | refine BX10_pushNow_57 ?_ | refine BX10_pushNow_66 ?_ | refine BX10_pushNow_73 ?_ | refine BX10_pushNow_77 ?_)
        dsimp only [bX10_pushNow_0, bX10_pushNow_5, bX10_pushNow_29, bX10_pushNow_50, bX10_pushNow_57, bX10_pushNow_66, bX10_pushNow_73, bX10_pushNow_77, o_add, o_ald, o_and, o_cge, o_dup2, o_gf, o_ial, o_ias, o_ic, o_ild, o_inc, o_iret, o_ist, o_s1, o_s2, o_v1, o_xor, o_zeq, tk, lget, lput, lkill, lmask, ol, flM_0_0, flM_0_1, flM_0_2, flM_0_3, flM_0_4, flM_0_5, flM_0_6, flM_0_7, flM_0_8, flM_0_9, flM_0_10, flM_0_11, flM_0_12, flM_0_13, flM_0_14, flM_0_15, flM_0_16, flM_0_17, flM_0_18, flM_0_19, flM_0_20, flM_0_21, flM_0_22, flM_0_23, flM_0_24, flM_0_25, flM_0_26, flM_0_27, flM_0_28, flM_0_29, flM_0_30, flM_0_31, flM_0_32, flM_0_33, flM_0_34, flM_0_35, flM_0_36, flM_0_37, flM_0_38, flM_0_39, flM_0_40, flM_0_41, arM_1, arM_2, arM_3, arM_4, arM_5, arM_6, arM_7, arM_8, arM_9, arM_10, arM_11, arM_12, arM_13, arM_14, arM_15, arM_16, arM_17, arM_18, arM_19, arM_20, arM_21, arM_22, arM_23, arM_24, arM_25]
        try simp only [up, upL, rp, sf, cpy, Nat.reduceEqDiff, reduceIte, Int.reduceNeg, Int.reduceLE, Int.reduceLT, Int.reduceEq, Int.reduceAdd, Int.reduceSub, Int.reduceMul, ne_eq, not_true_eq_false, not_false_eq_true, true_and, and_true, and_self, false_implies, true_implies, implies_true, forall_const, Nat.reduceAdd, Int.add_zero, Int.zero_add, true_or, or_true, false_or, or_false, List.length_nil, List.length_cons]
        (first | refine BX10_pushNow_0 ?_ | refine BX10_pushNow_5 ?_ | refine BX10_pushNow_29 ?_ | refine BX10_pushNow_50 ?_ | refine BX10_pushNow_57 ?_ | refine BX10_pushNow_66 ?_ | refine BX10_pushNow_73 ?_ | refine BX10_pushNow_77 ?_)
        dsimp only [bX10_pushNow_0, bX10_pushNow_5, bX10_pushNow_29, bX10_pushNow_50, bX10_pushNow_57, bX10_pushNow_66, bX10_pushNow_73, bX10_pushNow_77, o_add, o_ald, o_and, o_cge, o_dup2, o_gf, o_ial, o_ias, o_ic, o_ild, o_inc, o_iret, o_ist, o_s1, o_s2, o_v1, o_xor, o_zeq, tk, lget, lput, lkill, lmask, ol, flM_0_0, flM_0_1, flM_0_2, flM_0_3, flM_0_4, flM_0_5, flM_0_6, flM_0_7, flM_0_8, flM_0_9, flM_0_10, flM_0_11, flM_0_12, flM_0_13, flM_0_14, flM_0_15, flM_0_16, flM_0_17, flM_0_18, flM_0_19, flM_0_20, flM_0_21, flM_0_22, flM_0_23, flM_0_24, flM_0_25, flM_0_26, flM_0_27, flM_0_28, flM_0_29, flM_0_30, flM_0_31, flM_0_32, flM_0_33, flM_0_34, flM_0_35, flM_0_36, flM_0_37, flM_0_38, flM_0_39, flM_0_40, flM_0_41, arM_1, arM_2, arM_3, arM_4, arM_5, arM_6, arM_7, arM_8, arM_9, arM_10, arM_11, arM_12, arM_13, arM_14, arM_15, arM_16, arM_17, arM_18, arM_19, arM_20, arM_21, arM_22, arM_23, arM_24, arM_25]
        try simp only [up, upL, rp, sf, cpy, Nat.reduceEqDiff, reduceIte, Int.reduceNeg, Int.reduceLE, Int.reduceLT, Int.reduceEq, Int.reduceAdd, Int.reduceSub, Int.reduceMul, ne_eq, not_true_eq_false, not_false_eq_true, true_and, and_true, and_self, false_implies, true_implies, implies_true, forall_const, Nat.reduceAdd, Int.add_zero, Int.zero_add, true_or, or_true, false_or, or_false, List.length_nil, List.length_cons]
        refine ⟨by omega, ?_⟩
        rw [up_to, rp_rp, rp_k]
        refine ih (c + 1) _ (by omega) (by omega) ?_
        unfold psl at e2
        rw [if_pos h5] at e2
        exact e2
      · (first | refine BX10_pushNow_0 ?_ | refine BX10_pushNow_5 ?_ | refine BX10_pushNow_29 ?_ | refine BX10_pushNow_50 ?_ | refine BX10_pushNow_57 ?_ | refine BX10_pushNow_66 ?_ | refine BX10_pushNow_73 ?_ | refine BX10_pushNow_77 ?_)
        dsimp only [bX10_pushNow_0, bX10_pushNow_5, bX10_pushNow_29, bX10_pushNow_50, bX10_pushNow_57, bX10_pushNow_66, bX10_pushNow_73, bX10_pushNow_77, o_add, o_ald, o_and, o_cge, o_dup2, o_gf, o_ial, o_ias, o_ic, o_ild, o_inc, o_iret, o_ist, o_s1, o_s2, o_v1, o_xor, o_zeq, tk, lget, lput, lkill, lmask, ol, flM_0_0, flM_0_1, flM_0_2, flM_0_3, flM_0_4, flM_0_5, flM_0_6, flM_0_7, flM_0_8, flM_0_9, flM_0_10, flM_0_11, flM_0_12, flM_0_13, flM_0_14, flM_0_15, flM_0_16, flM_0_17, flM_0_18, flM_0_19, flM_0_20, flM_0_21, flM_0_22, flM_0_23, flM_0_24, flM_0_25, flM_0_26, flM_0_27, flM_0_28, flM_0_29, flM_0_30, flM_0_31, flM_0_32, flM_0_33, flM_0_34, flM_0_35, flM_0_36, flM_0_37, flM_0_38, flM_0_39, flM_0_40, flM_0_41, arM_1, arM_2, arM_3, arM_4, arM_5, arM_6, arM_7, arM_8, arM_9, arM_10, arM_11, arM_12, arM_13, arM_14, arM_15, arM_16, arM_17, arM_18, arM_19, arM_20, arM_21, arM_22, arM_23, arM_24, arM_25]
        try simp only [up, upL, rp, sf, cpy, Nat.reduceEqDiff, reduceIte, Int.reduceNeg, Int.reduceLE, Int.reduceLT, Int.reduceEq, Int.reduceAdd, Int.reduceSub, Int.reduceMul, ne_eq, not_true_eq_false, not_false_eq_true, true_and, and_true, and_self, false_implies, true_implies, implies_true, forall_const, Nat.reduceAdd, Int.add_zero, Int.zero_add, true_or, or_true, false_or, or_false, List.length_nil, List.length_cons]
        (first | refine BX10_pushNow_0 ?_ | refine BX10_pushNow_5 ?_ | refine BX10_pushNow_29 ?_ | refine BX10_pushNow_50 ?_ | refine BX10_pushNow_57 ?_ | refine BX10_pushNow_66 ?_ | refine BX10_pushNow_73 ?_ | refine BX10_pushNow_77 ?_)
        dsimp only [bX10_pushNow_0, bX10_pushNow_5, bX10_pushNow_29, bX10_pushNow_50, bX10_pushNow_57, bX10_pushNow_66, bX10_pushNow_73, bX10_pushNow_77, o_add, o_ald, o_and, o_cge, o_dup2, o_gf, o_ial, o_ias, o_ic, o_ild, o_inc, o_iret, o_ist, o_s1, o_s2, o_v1, o_xor, o_zeq, tk, lget, lput, lkill, lmask, ol, flM_0_0, flM_0_1, flM_0_2, flM_0_3, flM_0_4, flM_0_5, flM_0_6, flM_0_7, flM_0_8, flM_0_9, flM_0_10, flM_0_11, flM_0_12, flM_0_13, flM_0_14, flM_0_15, flM_0_16, flM_0_17, flM_0_18, flM_0_19, flM_0_20, flM_0_21, flM_0_22, flM_0_23, flM_0_24, flM_0_25, flM_0_26, flM_0_27, flM_0_28, flM_0_29, flM_0_30, flM_0_31, flM_0_32, flM_0_33, flM_0_34, flM_0_35, flM_0_36, flM_0_37, flM_0_38, flM_0_39, flM_0_40, flM_0_41, arM_1, arM_2, arM_3, arM_4, arM_5, arM_6, arM_7, arM_8, arM_9, arM_10, arM_11, arM_12, arM_13, arM_14, arM_15, arM_16, arM_17, arM_18, arM_19, arM_20, arM_21, arM_22, arM_23, arM_24, arM_25]
        try simp only [up, upL, rp, sf, cpy, Nat.reduceEqDiff, reduceIte, Int.reduceNeg, Int.reduceLE, Int.reduceLT, Int.reduceEq, Int.reduceAdd, Int.reduceSub, Int.reduceMul, ne_eq, not_true_eq_false, not_false_eq_true, true_and, and_true, and_self, false_implies, true_implies, implies_true, forall_const, Nat.reduceAdd, Int.add_zero, Int.zero_add, true_or, or_true, false_or, or_false, List.length_nil, List.length_cons]
        refine ⟨by omega, ?_⟩
        (first | refine BX10_pushNow_0 ?_ | refine BX10_pushNow_5 ?_ | refine BX10_pushNow_29 ?_ | refine BX10_pushNow_50 ?_ | refine BX10_pushNow_57 ?_ | refine BX10_pushNow_66 ?_ | refine BX10_pushNow_73 ?_ | refine BX10_pushNow_77 ?_)
        dsimp only [bX10_pushNow_0, bX10_pushNow_5, bX10_pushNow_29, bX10_pushNow_50, bX10_pushNow_57, bX10_pushNow_66, bX10_pushNow_73, bX10_pushNow_77, o_add, o_ald, o_and, o_cge, o_dup2, o_gf, o_ial, o_ias, o_ic, o_ild, o_inc, o_iret, o_ist, o_s1, o_s2, o_v1, o_xor, o_zeq, tk, lget, lput, lkill, lmask, ol, flM_0_0, flM_0_1, flM_0_2, flM_0_3, flM_0_4, flM_0_5, flM_0_6, flM_0_7, flM_0_8, flM_0_9, flM_0_10, flM_0_11, flM_0_12, flM_0_13, flM_0_14, flM_0_15, flM_0_16, flM_0_17, flM_0_18, flM_0_19, flM_0_20, flM_0_21, flM_0_22, flM_0_23, flM_0_24, flM_0_25, flM_0_26, flM_0_27, flM_0_28, flM_0_29, flM_0_30, flM_0_31, flM_0_32, flM_0_33, flM_0_34, flM_0_35, flM_0_36, flM_0_37, flM_0_38, flM_0_39, flM_0_40, flM_0_41, arM_1, arM_2, arM_3, arM_4, arM_5, arM_6, arM_7, arM_8, arM_9, arM_10, arM_11, arM_12, arM_13, arM_14, arM_15, arM_16, arM_17, arM_18, arM_19, arM_20, arM_21, arM_22, arM_23, arM_24, arM_25]
        try simp only [up, upL, rp, sf, cpy, Nat.reduceEqDiff, reduceIte, Int.reduceNeg, Int.reduceLE, Int.reduceLT, Int.reduceEq, Int.reduceAdd, Int.reduceSub, Int.reduceMul, ne_eq, not_true_eq_false, not_false_eq_true, true_and, and_true, and_self, false_implies, true_implies, implies_true, forall_const, Nat.reduceAdd, Int.add_zero, Int.zero_add, true_or, or_true, false_or, or_false, List.length_nil, List.length_cons]
        refine ⟨by omega, ?_⟩
        rw [up_to, rp_rp, rp_k]
        refine ih (c + 1) _ (by omega) (by omega) ?_
        unfold psl at e2
        rw [if_neg (by rw [h5]; decide)] at e2
        exact e2
  refine EX10_pushNow rfl ?_
  (first | refine BX10_pushNow_0 ?_ | refine BX10_pushNow_5 ?_ | refine BX10_pushNow_29 ?_ | refine BX10_pushNow_50 ?_ | refine BX10_pushNow_57 ?_ | refine BX10_pushNow_66 ?_ | refine BX10_pushNow_73 ?_ | refine BX10_pushNow_77 ?_)
  dsimp only [bX10_pushNow_0, bX10_pushNow_5, bX10_pushNow_29, bX10_pushNow_50, bX10_pushNow_57, bX10_pushNow_66, bX10_pushNow_73, bX10_pushNow_77, o_add, o_ald, o_and, o_cge, o_dup2, o_gf, o_ial, o_ias, o_ic, o_ild, o_inc, o_iret, o_ist, o_s1, o_s2, o_v1, o_xor, o_zeq, tk, lget, lput, lkill, lmask, ol, lent, flM_0_0, flM_0_1, flM_0_2, flM_0_3, flM_0_4, flM_0_5, flM_0_6, flM_0_7, flM_0_8, flM_0_9, flM_0_10, flM_0_11, flM_0_12, flM_0_13, flM_0_14, flM_0_15, flM_0_16, flM_0_17, flM_0_18, flM_0_19, flM_0_20, flM_0_21, flM_0_22, flM_0_23, flM_0_24, flM_0_25, flM_0_26, flM_0_27, flM_0_28, flM_0_29, flM_0_30, flM_0_31, flM_0_32, flM_0_33, flM_0_34, flM_0_35, flM_0_36, flM_0_37, flM_0_38, flM_0_39, flM_0_40, flM_0_41, arM_1, arM_2, arM_3, arM_4, arM_5, arM_6, arM_7, arM_8, arM_9, arM_10, arM_11, arM_12, arM_13, arM_14, arM_15, arM_16, arM_17, arM_18, arM_19, arM_20, arM_21, arM_22, arM_23, arM_24, arM_25]
  try simp only [up, upL, rp, sf, cpy, Nat.reduceEqDiff, reduceIte, Int.reduceNeg, Int.reduceLE, Int.reduceLT, Int.reduceEq, Int.reduceAdd, Int.reduceSub, Int.reduceMul, ne_eq, not_true_eq_false, not_false_eq_true, true_and, and_true, and_self, false_implies, true_implies, implies_true, forall_const, Nat.reduceAdd, Int.add_zero, Int.zero_add, true_or, or_true, false_or, or_false, List.length_nil, List.length_cons]
  refine ⟨rfl, c_dynastyOf hE b0 b1 ?_⟩
  (first | refine BX10_pushNow_0 ?_ | refine BX10_pushNow_5 ?_ | refine BX10_pushNow_29 ?_ | refine BX10_pushNow_50 ?_ | refine BX10_pushNow_57 ?_ | refine BX10_pushNow_66 ?_ | refine BX10_pushNow_73 ?_ | refine BX10_pushNow_77 ?_)
  dsimp only [bX10_pushNow_0, bX10_pushNow_5, bX10_pushNow_29, bX10_pushNow_50, bX10_pushNow_57, bX10_pushNow_66, bX10_pushNow_73, bX10_pushNow_77, o_add, o_ald, o_and, o_cge, o_dup2, o_gf, o_ial, o_ias, o_ic, o_ild, o_inc, o_iret, o_ist, o_s1, o_s2, o_v1, o_xor, o_zeq, tk, lget, lput, lkill, lmask, ol, flM_0_0, flM_0_1, flM_0_2, flM_0_3, flM_0_4, flM_0_5, flM_0_6, flM_0_7, flM_0_8, flM_0_9, flM_0_10, flM_0_11, flM_0_12, flM_0_13, flM_0_14, flM_0_15, flM_0_16, flM_0_17, flM_0_18, flM_0_19, flM_0_20, flM_0_21, flM_0_22, flM_0_23, flM_0_24, flM_0_25, flM_0_26, flM_0_27, flM_0_28, flM_0_29, flM_0_30, flM_0_31, flM_0_32, flM_0_33, flM_0_34, flM_0_35, flM_0_36, flM_0_37, flM_0_38, flM_0_39, flM_0_40, flM_0_41, arM_1, arM_2, arM_3, arM_4, arM_5, arM_6, arM_7, arM_8, arM_9, arM_10, arM_11, arM_12, arM_13, arM_14, arM_15, arM_16, arM_17, arM_18, arM_19, arM_20, arM_21, arM_22, arM_23, arM_24, arM_25]
  try simp only [up, upL, rp, sf, cpy, Nat.reduceEqDiff, reduceIte, Int.reduceNeg, Int.reduceLE, Int.reduceLT, Int.reduceEq, Int.reduceAdd, Int.reduceSub, Int.reduceMul, ne_eq, not_true_eq_false, not_false_eq_true, true_and, and_true, and_self, false_implies, true_implies, implies_true, forall_const, Nat.reduceAdd, Int.add_zero, Int.zero_add, true_or, or_true, false_or, or_false, List.length_nil, List.length_cons]
  rw [up_to]
  exact L (f 0 1).toNat 0 _ (by omega) (by omega) rfl
theorem k_pushDown {l : Launch} {X : Cx} {Q : Qt} {M : Me} {f : Nat → Int → Int} {b : Int} (hS : SimE M.1 f) (hE : OkE f) (hN : SimN f (M.1 18) (f 7)) (hO : OkR f (f 7)) (b0 : 0 ≤ b) (b1 : b < f 0 1) (hq : ∀ c, SimN f c (pushM f b) → Q (some (vI (bsum (dwn f (f 7) b) 30 0))) (rp M.1 18 c, M.2)) : TM l X shC 1 mX7_pushDown [vR 17, vR 10, vI b] M Q := by
  have hB := hE.2.1
  have eB := hS.2.1
  have e27 := hN.2.2.1
  have hdy := dyn_bits hE b0 b1
  have hd := dwn_bd hE hO b0 b1
  have hu := hO.2.2.1
  obtain ⟨C, u⟩ := M
  dsimp only at hS hN hq eB e27
  have skip : pushM f b = sf (psl (dwn f (f 7) b) (f 0 1 - b).toNat b (f 7)) 7 (iand (f 7 7) (ixor (dwn f (f 7) b) (-1))) := by
    unfold pushM
    have := psl_skip (d := dwn f (f 7) b) b.toNat (f 0 1 - b).toNat 0 (sf (f 7) 7 (iand (f 7 7) (ixor (dwn f (f 7) b) (-1)))) (fun k k0 k1 => by
      unfold dwn
      rw [bt_and hdy.1.1 (by omega) hu.1 (by omega) k0 (by omega), hdy.2.1 k k0 (by omega)]
      rfl)
    rw [show b.toNat + (f 0 1 - b).toNat = (f 0 1).toNat by omega, show (0 : Int) + (b.toNat : Int) = b by omega, psl_up _ _ _ b0] at this
    exact this
  have L : ∀ (j : Nat) (k : Int) (c g : Int → Int), k + j = f 0 1 → 0 ≤ k → SimN f c g → c 27 = f 7 7 → psl (dwn f (f 7) b) j k g = psl (dwn f (f 7) b) (f 0 1 - b).toNat b (f 7) → Tf l X shC 1 mX7_pushDown Q 17 [some (vR 17), some (vR 10), none, some (vI (dwn f (f 7) b)), some (vI k)] [] (rp C 18 c, u) := by
    intro j
    induction j with
    | zero =>
      intro k c g e0 e1 e2 e3 e4
      have e4 : g = psl (dwn f (f 7) b) (f 0 1 - b).toNat b (f 7) := e4
      (first | refine BX7_pushDown_0 ?_ | refine BX7_pushDown_12 ?_ | refine BX7_pushDown_17 ?_ | refine BX7_pushDown_47 ?_ | refine BX7_pushDown_53 ?_ | refine BX7_pushDown_70 ?_)
      dsimp only [bX7_pushDown_0, bX7_pushDown_12, bX7_pushDown_17, bX7_pushDown_47, bX7_pushDown_53, bX7_pushDown_70, o_add, o_ald, o_and, o_cge, o_cne, o_dup2, o_gf, o_ial, o_ias, o_ic, o_ild, o_inc, o_iret, o_ist, o_s1, o_shr, o_v1, o_xor, tk, lget, lput, lkill, lmask, ol, flC_0_0, flC_0_1, flC_0_2, flC_0_3, flC_0_4, flC_0_5, flC_0_6, flC_0_7, flC_0_8, flC_0_9, flC_0_10, flC_1_0, flC_1_1, flC_1_2, flC_1_3, flC_1_4, flC_1_5, flC_1_6, flC_1_7, flC_2_0, flC_2_1, flC_2_2, flC_2_3, flC_2_4, flC_2_5, flC_2_6, flC_2_7, flC_2_8, arC_3, arC_4, arC_5, arC_6, arC_7, arC_8, arC_9, flC_10_0, flC_10_1, flC_10_2, flC_10_3, flC_10_4, flC_10_5, flC_10_6, flC_10_7, flC_10_8, arC_11, arC_12, arC_13, arC_14, arC_15, arC_16, flC_17_0, arC_18, flC_19_0, flC_19_1, flC_19_2, arC_20, flC_21_0, flC_21_1, flC_21_2, arC_22, arC_23, flC_24_0, flC_24_1, flC_24_2, arC_25, flC_26_0, flC_26_1, flC_26_2, arC_27, arC_28, flC_29_0, arC_30, flC_31_0, flC_31_1, arC_32, arC_33, arC_34]
      try simp only [up, upL, rp, sf, cpy, Nat.reduceEqDiff, reduceIte, Int.reduceNeg, Int.reduceLE, Int.reduceLT, Int.reduceEq, Int.reduceAdd, Int.reduceSub, Int.reduceMul, ne_eq, not_true_eq_false, not_false_eq_true, true_and, and_true, and_self, false_implies, true_implies, implies_true, forall_const, Nat.reduceAdd, Int.add_zero, Int.zero_add, true_or, or_true, false_or, or_false, List.length_nil, List.length_cons]
      rw [eB]
      refine ⟨by omega, by omega, fun h => ?_, fun h => absurd h (by omega)⟩
      (first | refine BX7_pushDown_0 ?_ | refine BX7_pushDown_12 ?_ | refine BX7_pushDown_17 ?_ | refine BX7_pushDown_47 ?_ | refine BX7_pushDown_53 ?_ | refine BX7_pushDown_70 ?_)
      dsimp only [bX7_pushDown_0, bX7_pushDown_12, bX7_pushDown_17, bX7_pushDown_47, bX7_pushDown_53, bX7_pushDown_70, o_add, o_ald, o_and, o_cge, o_cne, o_dup2, o_gf, o_ial, o_ias, o_ic, o_ild, o_inc, o_iret, o_ist, o_s1, o_shr, o_v1, o_xor, tk, lget, lput, lkill, lmask, ol, flC_0_0, flC_0_1, flC_0_2, flC_0_3, flC_0_4, flC_0_5, flC_0_6, flC_0_7, flC_0_8, flC_0_9, flC_0_10, flC_1_0, flC_1_1, flC_1_2, flC_1_3, flC_1_4, flC_1_5, flC_1_6, flC_1_7, flC_2_0, flC_2_1, flC_2_2, flC_2_3, flC_2_4, flC_2_5, flC_2_6, flC_2_7, flC_2_8, arC_3, arC_4, arC_5, arC_6, arC_7, arC_8, arC_9, flC_10_0, flC_10_1, flC_10_2, flC_10_3, flC_10_4, flC_10_5, flC_10_6, flC_10_7, flC_10_8, arC_11, arC_12, arC_13, arC_14, arC_15, arC_16, flC_17_0, arC_18, flC_19_0, flC_19_1, flC_19_2, arC_20, flC_21_0, flC_21_1, flC_21_2, arC_22, arC_23, flC_24_0, flC_24_1, flC_24_2, arC_25, flC_26_0, flC_26_1, flC_26_2, arC_27, arC_28, flC_29_0, arC_30, flC_31_0, flC_31_1, arC_32, arC_33, arC_34]
      try simp only [up, upL, rp, sf, cpy, Nat.reduceEqDiff, reduceIte, Int.reduceNeg, Int.reduceLE, Int.reduceLT, Int.reduceEq, Int.reduceAdd, Int.reduceSub, Int.reduceMul, ne_eq, not_true_eq_false, not_false_eq_true, true_and, and_true, and_self, false_implies, true_implies, implies_true, forall_const, Nat.reduceAdd, Int.add_zero, Int.zero_add, true_or, or_true, false_or, or_false, List.length_nil, List.length_cons]
      rw [e3]
      refine ⟨rfl, k_bitCount ?_⟩
      (first | refine BX7_pushDown_0 ?_ | refine BX7_pushDown_12 ?_ | refine BX7_pushDown_17 ?_ | refine BX7_pushDown_47 ?_ | refine BX7_pushDown_53 ?_ | refine BX7_pushDown_70 ?_)
      dsimp only [bX7_pushDown_0, bX7_pushDown_12, bX7_pushDown_17, bX7_pushDown_47, bX7_pushDown_53, bX7_pushDown_70, o_add, o_ald, o_and, o_cge, o_cne, o_dup2, o_gf, o_ial, o_ias, o_ic, o_ild, o_inc, o_iret, o_ist, o_s1, o_shr, o_v1, o_xor, tk, lget, lput, lkill, lmask, ol, flC_0_0, flC_0_1, flC_0_2, flC_0_3, flC_0_4, flC_0_5, flC_0_6, flC_0_7, flC_0_8, flC_0_9, flC_0_10, flC_1_0, flC_1_1, flC_1_2, flC_1_3, flC_1_4, flC_1_5, flC_1_6, flC_1_7, flC_2_0, flC_2_1, flC_2_2, flC_2_3, flC_2_4, flC_2_5, flC_2_6, flC_2_7, flC_2_8, arC_3, arC_4, arC_5, arC_6, arC_7, arC_8, arC_9, flC_10_0, flC_10_1, flC_10_2, flC_10_3, flC_10_4, flC_10_5, flC_10_6, flC_10_7, flC_10_8, arC_11, arC_12, arC_13, arC_14, arC_15, arC_16, flC_17_0, arC_18, flC_19_0, flC_19_1, flC_19_2, arC_20, flC_21_0, flC_21_1, flC_21_2, arC_22, arC_23, flC_24_0, flC_24_1, flC_24_2, arC_25, flC_26_0, flC_26_1, flC_26_2, arC_27, arC_28, flC_29_0, arC_30, flC_31_0, flC_31_1, arC_32, arC_33, arC_34]
      try simp only [up, upL, rp, sf, cpy, Nat.reduceEqDiff, reduceIte, Int.reduceNeg, Int.reduceLE, Int.reduceLT, Int.reduceEq, Int.reduceAdd, Int.reduceSub, Int.reduceMul, ne_eq, not_true_eq_false, not_false_eq_true, true_and, and_true, and_self, false_implies, true_implies, implies_true, forall_const, Nat.reduceAdd, Int.add_zero, Int.zero_add, true_or, or_true, false_or, or_false, List.length_nil, List.length_cons]
      rw [(bcf_128 hd.1 hd.2).1, up_to, rp_rp, rp_k]
      refine hq _ ?_
      rw [skip, ← e4]
      exact SimN_up hE e2
    | succ j ih =>
      intro k c g e0 e1 e2 e3 e4
      have e4 : psl (dwn f (f 7) b) j (k + 1) (sf g (9 + k) (if bt (dwn f (f 7) b) k = true then 0 else g (9 + k))) = psl (dwn f (f 7) b) (f 0 1 - b).toNat b (f 7) := e4
      (first | refine BX7_pushDown_0 ?_ | refine BX7_pushDown_12 ?_ | refine BX7_pushDown_17 ?_ | refine BX7_pushDown_47 ?_ | refine BX7_pushDown_53 ?_ | refine BX7_pushDown_70 ?_)
      dsimp only [bX7_pushDown_0, bX7_pushDown_12, bX7_pushDown_17, bX7_pushDown_47, bX7_pushDown_53, bX7_pushDown_70, o_add, o_ald, o_and, o_cge, o_cne, o_dup2, o_gf, o_ial, o_ias, o_ic, o_ild, o_inc, o_iret, o_ist, o_s1, o_shr, o_v1, o_xor, tk, lget, lput, lkill, lmask, ol, flC_0_0, flC_0_1, flC_0_2, flC_0_3, flC_0_4, flC_0_5, flC_0_6, flC_0_7, flC_0_8, flC_0_9, flC_0_10, flC_1_0, flC_1_1, flC_1_2, flC_1_3, flC_1_4, flC_1_5, flC_1_6, flC_1_7, flC_2_0, flC_2_1, flC_2_2, flC_2_3, flC_2_4, flC_2_5, flC_2_6, flC_2_7, flC_2_8, arC_3, arC_4, arC_5, arC_6, arC_7, arC_8, arC_9, flC_10_0, flC_10_1, flC_10_2, flC_10_3, flC_10_4, flC_10_5, flC_10_6, flC_10_7, flC_10_8, arC_11, arC_12, arC_13, arC_14, arC_15, arC_16, flC_17_0, arC_18, flC_19_0, flC_19_1, flC_19_2, arC_20, flC_21_0, flC_21_1, flC_21_2, arC_22, arC_23, flC_24_0, flC_24_1, flC_24_2, arC_25, flC_26_0, flC_26_1, flC_26_2, arC_27, arC_28, flC_29_0, arC_30, flC_31_0, flC_31_1, arC_32, arC_33, arC_34]
      try simp only [up, upL, rp, sf, cpy, Nat.reduceEqDiff, reduceIte, Int.reduceNeg, Int.reduceLE, Int.reduceLT, Int.reduceEq, Int.reduceAdd, Int.reduceSub, Int.reduceMul, ne_eq, not_true_eq_false, not_false_eq_true, true_and, and_true, and_self, false_implies, true_implies, implies_true, forall_const, Nat.reduceAdd, Int.add_zero, Int.zero_add, true_or, or_true, false_or, or_false, List.length_nil, List.length_cons]
      rw [eB]
      refine ⟨by omega, by omega, fun h => absurd h (by omega), fun h => ⟨r_iand _ _, fun h5 => ?_, fun h5 => ⟨by omega, ?_⟩⟩⟩
      · rw [bt_f h5, if_neg (by decide), sf_self] at e4
        (first | refine BX7_pushDown_0 ?_ | refine BX7_pushDown_12 ?_ | refine BX7_pushDown_17 ?_ | refine BX7_pushDown_47 ?_ | refine BX7_pushDown_53 ?_ | refine BX7_pushDown_70 ?_)
        dsimp only [bX7_pushDown_0, bX7_pushDown_12, bX7_pushDown_17, bX7_pushDown_47, bX7_pushDown_53, bX7_pushDown_70, o_add, o_ald, o_and, o_cge, o_cne, o_dup2, o_gf, o_ial, o_ias, o_ic, o_ild, o_inc, o_iret, o_ist, o_s1, o_shr, o_v1, o_xor, tk, lget, lput, lkill, lmask, ol, flC_0_0, flC_0_1, flC_0_2, flC_0_3, flC_0_4, flC_0_5, flC_0_6, flC_0_7, flC_0_8, flC_0_9, flC_0_10, flC_1_0, flC_1_1, flC_1_2, flC_1_3, flC_1_4, flC_1_5, flC_1_6, flC_1_7, flC_2_0, flC_2_1, flC_2_2, flC_2_3, flC_2_4, flC_2_5, flC_2_6, flC_2_7, flC_2_8, arC_3, arC_4, arC_5, arC_6, arC_7, arC_8, arC_9, flC_10_0, flC_10_1, flC_10_2, flC_10_3, flC_10_4, flC_10_5, flC_10_6, flC_10_7, flC_10_8, arC_11, arC_12, arC_13, arC_14, arC_15, arC_16, flC_17_0, arC_18, flC_19_0, flC_19_1, flC_19_2, arC_20, flC_21_0, flC_21_1, flC_21_2, arC_22, arC_23, flC_24_0, flC_24_1, flC_24_2, arC_25, flC_26_0, flC_26_1, flC_26_2, arC_27, arC_28, flC_29_0, arC_30, flC_31_0, flC_31_1, arC_32, arC_33, arC_34]
        try simp only [up, upL, rp, sf, cpy, Nat.reduceEqDiff, reduceIte, Int.reduceNeg, Int.reduceLE, Int.reduceLT, Int.reduceEq, Int.reduceAdd, Int.reduceSub, Int.reduceMul, ne_eq, not_true_eq_false, not_false_eq_true, true_and, and_true, and_self, false_implies, true_implies, implies_true, forall_const, Nat.reduceAdd, Int.add_zero, Int.zero_add, true_or, or_true, false_or, or_false, List.length_nil, List.length_cons]
        exact ih (k + 1) c g (by omega) (by omega) e2 e3 e4
      · rw [bt_t h5, if_pos rfl] at e4
        (first | refine BX7_pushDown_0 ?_ | refine BX7_pushDown_12 ?_ | refine BX7_pushDown_17 ?_ | refine BX7_pushDown_47 ?_ | refine BX7_pushDown_53 ?_ | refine BX7_pushDown_70 ?_)
        dsimp only [bX7_pushDown_0, bX7_pushDown_12, bX7_pushDown_17, bX7_pushDown_47, bX7_pushDown_53, bX7_pushDown_70, o_add, o_ald, o_and, o_cge, o_cne, o_dup2, o_gf, o_ial, o_ias, o_ic, o_ild, o_inc, o_iret, o_ist, o_s1, o_shr, o_v1, o_xor, tk, lget, lput, lkill, lmask, ol, flC_0_0, flC_0_1, flC_0_2, flC_0_3, flC_0_4, flC_0_5, flC_0_6, flC_0_7, flC_0_8, flC_0_9, flC_0_10, flC_1_0, flC_1_1, flC_1_2, flC_1_3, flC_1_4, flC_1_5, flC_1_6, flC_1_7, flC_2_0, flC_2_1, flC_2_2, flC_2_3, flC_2_4, flC_2_5, flC_2_6, flC_2_7, flC_2_8, arC_3, arC_4, arC_5, arC_6, arC_7, arC_8, arC_9, flC_10_0, flC_10_1, flC_10_2, flC_10_3, flC_10_4, flC_10_5, flC_10_6, flC_10_7, flC_10_8, arC_11, arC_12, arC_13, arC_14, arC_15, arC_16, flC_17_0, arC_18, flC_19_0, flC_19_1, flC_19_2, arC_20, flC_21_0, flC_21_1, flC_21_2, arC_22, arC_23, flC_24_0, flC_24_1, flC_24_2, arC_25, flC_26_0, flC_26_1, flC_26_2, arC_27, arC_28, flC_29_0, arC_30, flC_31_0, flC_31_1, arC_32, arC_33, arC_34]
        try simp only [up, upL, rp, sf, cpy, Nat.reduceEqDiff, reduceIte, Int.reduceNeg, Int.reduceLE, Int.reduceLT, Int.reduceEq, Int.reduceAdd, Int.reduceSub, Int.reduceMul, ne_eq, not_true_eq_false, not_false_eq_true, true_and, and_true, and_self, false_implies, true_implies, implies_true, forall_const, Nat.reduceAdd, Int.add_zero, Int.zero_add, true_or, or_true, false_or, or_false, List.length_nil, List.length_cons]
        rw [up_to, rp_rp, rp_k]
        exact ih (k + 1) _ _ (by omega) (by omega) (SimN_sw hE e2 e1 (by omega)) (by unfold sf; rw [if_neg (by omega)]; exact e3) e4
  refine EX7_pushDown rfl ?_
  (first | refine BX7_pushDown_0 ?_ | refine BX7_pushDown_12 ?_ | refine BX7_pushDown_17 ?_ | refine BX7_pushDown_47 ?_ | refine BX7_pushDown_53 ?_ | refine BX7_pushDown_70 ?_)
  dsimp only [bX7_pushDown_0, bX7_pushDown_12, bX7_pushDown_17, bX7_pushDown_47, bX7_pushDown_53, bX7_pushDown_70, o_add, o_ald, o_and, o_cge, o_cne, o_dup2, o_gf, o_ial, o_ias, o_ic, o_ild, o_inc, o_iret, o_ist, o_s1, o_shr, o_v1, o_xor, tk, lget, lput, lkill, lmask, ol, lent, flC_0_0, flC_0_1, flC_0_2, flC_0_3, flC_0_4, flC_0_5, flC_0_6, flC_0_7, flC_0_8, flC_0_9, flC_0_10, flC_1_0, flC_1_1, flC_1_2, flC_1_3, flC_1_4, flC_1_5, flC_1_6, flC_1_7, flC_2_0, flC_2_1, flC_2_2, flC_2_3, flC_2_4, flC_2_5, flC_2_6, flC_2_7, flC_2_8, arC_3, arC_4, arC_5, arC_6, arC_7, arC_8, arC_9, flC_10_0, flC_10_1, flC_10_2, flC_10_3, flC_10_4, flC_10_5, flC_10_6, flC_10_7, flC_10_8, arC_11, arC_12, arC_13, arC_14, arC_15, arC_16, flC_17_0, arC_18, flC_19_0, flC_19_1, flC_19_2, arC_20, flC_21_0, flC_21_1, flC_21_2, arC_22, arC_23, flC_24_0, flC_24_1, flC_24_2, arC_25, flC_26_0, flC_26_1, flC_26_2, arC_27, arC_28, flC_29_0, arC_30, flC_31_0, flC_31_1, arC_32, arC_33, arC_34]
  try simp only [up, upL, rp, sf, cpy, Nat.reduceEqDiff, reduceIte, Int.reduceNeg, Int.reduceLE, Int.reduceLT, Int.reduceEq, Int.reduceAdd, Int.reduceSub, Int.reduceMul, ne_eq, not_true_eq_false, not_false_eq_true, true_and, and_true, and_self, false_implies, true_implies, implies_true, forall_const, Nat.reduceAdd, Int.add_zero, Int.zero_add, true_or, or_true, false_or, or_false, List.length_nil, List.length_cons]
  refine ⟨rfl, k_dynastyOf hS hE b0 b1 ?_⟩
  (first | refine BX7_pushDown_0 ?_ | refine BX7_pushDown_12 ?_ | refine BX7_pushDown_17 ?_ | refine BX7_pushDown_47 ?_ | refine BX7_pushDown_53 ?_ | refine BX7_pushDown_70 ?_)
  dsimp only [bX7_pushDown_0, bX7_pushDown_12, bX7_pushDown_17, bX7_pushDown_47, bX7_pushDown_53, bX7_pushDown_70, o_add, o_ald, o_and, o_cge, o_cne, o_dup2, o_gf, o_ial, o_ias, o_ic, o_ild, o_inc, o_iret, o_ist, o_s1, o_shr, o_v1, o_xor, tk, lget, lput, lkill, lmask, ol, flC_0_0, flC_0_1, flC_0_2, flC_0_3, flC_0_4, flC_0_5, flC_0_6, flC_0_7, flC_0_8, flC_0_9, flC_0_10, flC_1_0, flC_1_1, flC_1_2, flC_1_3, flC_1_4, flC_1_5, flC_1_6, flC_1_7, flC_2_0, flC_2_1, flC_2_2, flC_2_3, flC_2_4, flC_2_5, flC_2_6, flC_2_7, flC_2_8, arC_3, arC_4, arC_5, arC_6, arC_7, arC_8, arC_9, flC_10_0, flC_10_1, flC_10_2, flC_10_3, flC_10_4, flC_10_5, flC_10_6, flC_10_7, flC_10_8, arC_11, arC_12, arC_13, arC_14, arC_15, arC_16, flC_17_0, arC_18, flC_19_0, flC_19_1, flC_19_2, arC_20, flC_21_0, flC_21_1, flC_21_2, arC_22, arC_23, flC_24_0, flC_24_1, flC_24_2, arC_25, flC_26_0, flC_26_1, flC_26_2, arC_27, arC_28, flC_29_0, arC_30, flC_31_0, flC_31_1, arC_32, arC_33, arC_34]
  try simp only [up, upL, rp, sf, cpy, Nat.reduceEqDiff, reduceIte, Int.reduceNeg, Int.reduceLE, Int.reduceLT, Int.reduceEq, Int.reduceAdd, Int.reduceSub, Int.reduceMul, ne_eq, not_true_eq_false, not_false_eq_true, true_and, and_true, and_self, false_implies, true_implies, implies_true, forall_const, Nat.reduceAdd, Int.add_zero, Int.zero_add, true_or, or_true, false_or, or_false, List.length_nil, List.length_cons]
  rw [e27, show iand (f 7 7) (dynM f b) = dwn f (f 7) b from iand_comm _ _]
  have := L (f 0 1 - b).toNat b (C 18) (f 7) (by omega) b0 hN e27 rfl
  rwa [rp_self] at this
theorem P_push {l : Launch} {X Y : Cx} {C f : Nat → Int → Int} {x : Int} (hx : -2147483648 ≤ x ∧ x ≤ 2147483647) (hI : Inv C f) : PP l X Y 2 3 mX9_push mX10_push [vI x] C f := by
  obtain ⟨h1, h2, h3, h4, h5, h6, h7, h8, h9⟩ := id hI
  have hE := h1.2
  have hB := hE.2.1
  have eB := h1.1.2.1
  have e27 := h2.1.2.2.1
  by_cases ha : 0 ≤ x ∧ x < f 0 1
  · cases hb : bt (f 7 7) x
    · refine ⟨-1000000003, f, by omega, fun w Q hq => ?_, fun u Q hq => ?_⟩
      · refine EX9_push rfl ?_
        (first | refine BX9_push_0 ?_ | refine BX9_push_8 ?_ | refine BX9_push_14 ?_ | refine BX9_push_22 ?_ | refine BX9_push_28 ?_ | refine BX9_push_39 ?_ | refine BX9_push_51 ?_)
        dsimp only [bX9_push_0, bX9_push_8, bX9_push_14, bX9_push_22, bX9_push_28, bX9_push_39, bX9_push_51, o_ald, o_gf, o_ic, o_ild, o_iret, o_v1, o_v2, o_zne, tk, lget, lput, lkill, lmask, ol, lent, flC_0_0, flC_0_1, flC_0_2, flC_0_3, flC_0_4, flC_0_5, flC_0_6, flC_0_7, flC_0_8, flC_0_9, flC_0_10, flC_1_0, flC_1_1, flC_1_2, flC_1_3, flC_1_4, flC_1_5, flC_1_6, flC_1_7, flC_2_0, flC_2_1, flC_2_2, flC_2_3, flC_2_4, flC_2_5, flC_2_6, flC_2_7, flC_2_8, arC_3, arC_4, arC_5, arC_6, arC_7, arC_8, arC_9, flC_10_0, flC_10_1, flC_10_2, flC_10_3, flC_10_4, flC_10_5, flC_10_6, flC_10_7, flC_10_8, arC_11, arC_12, arC_13, arC_14, arC_15, arC_16, flC_17_0, arC_18, flC_19_0, flC_19_1, flC_19_2, arC_20, flC_21_0, flC_21_1, flC_21_2, arC_22, arC_23, flC_24_0, flC_24_1, flC_24_2, arC_25, flC_26_0, flC_26_1, flC_26_2, arC_27, arC_28, flC_29_0, arC_30, flC_31_0, flC_31_1, arC_32, arC_33, arC_34]
        try simp only [up, upL, rp, sf, cpy, Nat.reduceEqDiff, reduceIte, Int.reduceNeg, Int.reduceLE, Int.reduceLT, Int.reduceEq, Int.reduceAdd, Int.reduceSub, Int.reduceMul, ne_eq, not_true_eq_false, not_false_eq_true, true_and, and_true, and_self, false_implies, true_implies, implies_true, forall_const, Nat.reduceAdd, Int.add_zero, Int.zero_add, true_or, or_true, false_or, or_false, List.length_nil, List.length_cons]
        refine ⟨rfl, k_hasBox hx (by dsimp only; omega) (fun h => ?_) (fun h => absurd ha (by dsimp only at h; omega))⟩
        (first | refine BX9_push_0 ?_ | refine BX9_push_8 ?_ | refine BX9_push_14 ?_ | refine BX9_push_22 ?_ | refine BX9_push_28 ?_ | refine BX9_push_39 ?_ | refine BX9_push_51 ?_)
        dsimp only [bX9_push_0, bX9_push_8, bX9_push_14, bX9_push_22, bX9_push_28, bX9_push_39, bX9_push_51, o_ald, o_gf, o_ic, o_ild, o_iret, o_v1, o_v2, o_zne, tk, lget, lput, lkill, lmask, ol, flC_0_0, flC_0_1, flC_0_2, flC_0_3, flC_0_4, flC_0_5, flC_0_6, flC_0_7, flC_0_8, flC_0_9, flC_0_10, flC_1_0, flC_1_1, flC_1_2, flC_1_3, flC_1_4, flC_1_5, flC_1_6, flC_1_7, flC_2_0, flC_2_1, flC_2_2, flC_2_3, flC_2_4, flC_2_5, flC_2_6, flC_2_7, flC_2_8, arC_3, arC_4, arC_5, arC_6, arC_7, arC_8, arC_9, flC_10_0, flC_10_1, flC_10_2, flC_10_3, flC_10_4, flC_10_5, flC_10_6, flC_10_7, flC_10_8, arC_11, arC_12, arC_13, arC_14, arC_15, arC_16, flC_17_0, arC_18, flC_19_0, flC_19_1, flC_19_2, arC_20, flC_21_0, flC_21_1, flC_21_2, arC_22, arC_23, flC_24_0, flC_24_1, flC_24_2, arC_25, flC_26_0, flC_26_1, flC_26_2, arC_27, arC_28, flC_29_0, arC_30, flC_31_0, flC_31_1, arC_32, arC_33, arC_34]
        try simp only [up, upL, rp, sf, cpy, Nat.reduceEqDiff, reduceIte, Int.reduceNeg, Int.reduceLE, Int.reduceLT, Int.reduceEq, Int.reduceAdd, Int.reduceSub, Int.reduceMul, ne_eq, not_true_eq_false, not_false_eq_true, true_and, and_true, and_self, false_implies, true_implies, implies_true, forall_const, Nat.reduceAdd, Int.add_zero, Int.zero_add, true_or, or_true, false_or, or_false, List.length_nil, List.length_cons]
        (first | refine BX9_push_0 ?_ | refine BX9_push_8 ?_ | refine BX9_push_14 ?_ | refine BX9_push_22 ?_ | refine BX9_push_28 ?_ | refine BX9_push_39 ?_ | refine BX9_push_51 ?_)
        dsimp only [bX9_push_0, bX9_push_8, bX9_push_14, bX9_push_22, bX9_push_28, bX9_push_39, bX9_push_51, o_ald, o_gf, o_ic, o_ild, o_iret, o_v1, o_v2, o_zne, tk, lget, lput, lkill, lmask, ol, flC_0_0, flC_0_1, flC_0_2, flC_0_3, flC_0_4, flC_0_5, flC_0_6, flC_0_7, flC_0_8, flC_0_9, flC_0_10, flC_1_0, flC_1_1, flC_1_2, flC_1_3, flC_1_4, flC_1_5, flC_1_6, flC_1_7, flC_2_0, flC_2_1, flC_2_2, flC_2_3, flC_2_4, flC_2_5, flC_2_6, flC_2_7, flC_2_8, arC_3, arC_4, arC_5, arC_6, arC_7, arC_8, arC_9, flC_10_0, flC_10_1, flC_10_2, flC_10_3, flC_10_4, flC_10_5, flC_10_6, flC_10_7, flC_10_8, arC_11, arC_12, arC_13, arC_14, arC_15, arC_16, flC_17_0, arC_18, flC_19_0, flC_19_1, flC_19_2, arC_20, flC_21_0, flC_21_1, flC_21_2, arC_22, arC_23, flC_24_0, flC_24_1, flC_24_2, arC_25, flC_26_0, flC_26_1, flC_26_2, arC_27, arC_28, flC_29_0, arC_30, flC_31_0, flC_31_1, arC_32, arC_33, arC_34]
        try simp only [up, upL, rp, sf, cpy, Nat.reduceEqDiff, reduceIte, Int.reduceNeg, Int.reduceLE, Int.reduceLT, Int.reduceEq, Int.reduceAdd, Int.reduceSub, Int.reduceMul, ne_eq, not_true_eq_false, not_false_eq_true, true_and, and_true, and_self, false_implies, true_implies, implies_true, forall_const, Nat.reduceAdd, Int.add_zero, Int.zero_add, true_or, or_true, false_or, or_false, List.length_nil, List.length_cons]
        refine ⟨rfl, k_isUp (fun h => by dsimp only at h; rw [e27, hb] at h; cases h) (fun h => ?_)⟩
        (first | refine BX9_push_0 ?_ | refine BX9_push_8 ?_ | refine BX9_push_14 ?_ | refine BX9_push_22 ?_ | refine BX9_push_28 ?_ | refine BX9_push_39 ?_ | refine BX9_push_51 ?_)
        dsimp only [bX9_push_0, bX9_push_8, bX9_push_14, bX9_push_22, bX9_push_28, bX9_push_39, bX9_push_51, o_ald, o_gf, o_ic, o_ild, o_iret, o_v1, o_v2, o_zne, tk, lget, lput, lkill, lmask, ol, flC_0_0, flC_0_1, flC_0_2, flC_0_3, flC_0_4, flC_0_5, flC_0_6, flC_0_7, flC_0_8, flC_0_9, flC_0_10, flC_1_0, flC_1_1, flC_1_2, flC_1_3, flC_1_4, flC_1_5, flC_1_6, flC_1_7, flC_2_0, flC_2_1, flC_2_2, flC_2_3, flC_2_4, flC_2_5, flC_2_6, flC_2_7, flC_2_8, arC_3, arC_4, arC_5, arC_6, arC_7, arC_8, arC_9, flC_10_0, flC_10_1, flC_10_2, flC_10_3, flC_10_4, flC_10_5, flC_10_6, flC_10_7, flC_10_8, arC_11, arC_12, arC_13, arC_14, arC_15, arC_16, flC_17_0, arC_18, flC_19_0, flC_19_1, flC_19_2, arC_20, flC_21_0, flC_21_1, flC_21_2, arC_22, arC_23, flC_24_0, flC_24_1, flC_24_2, arC_25, flC_26_0, flC_26_1, flC_26_2, arC_27, arC_28, flC_29_0, arC_30, flC_31_0, flC_31_1, arC_32, arC_33, arC_34]
        try simp only [up, upL, rp, sf, cpy, Nat.reduceEqDiff, reduceIte, Int.reduceNeg, Int.reduceLE, Int.reduceLT, Int.reduceEq, Int.reduceAdd, Int.reduceSub, Int.reduceMul, ne_eq, not_true_eq_false, not_false_eq_true, true_and, and_true, and_self, false_implies, true_implies, implies_true, forall_const, Nat.reduceAdd, Int.add_zero, Int.zero_add, true_or, or_true, false_or, or_false, List.length_nil, List.length_cons]
        exact hq (C, w) hI
      · refine EX10_push rfl ?_
        (first | refine BX10_push_0 ?_ | refine BX10_push_5 ?_ | refine BX10_push_11 ?_ | refine BX10_push_16 ?_ | refine BX10_push_22 ?_ | refine BX10_push_26 ?_ | refine BX10_push_31 ?_)
        dsimp only [bX10_push_0, bX10_push_5, bX10_push_11, bX10_push_16, bX10_push_22, bX10_push_26, bX10_push_31, o_ald, o_ic, o_ild, o_iret, o_v0, o_v1, o_zne, tk, lget, lput, lkill, lmask, ol, lent]
        try simp only [up, upL, rp, sf, cpy, Nat.reduceEqDiff, reduceIte, Int.reduceNeg, Int.reduceLE, Int.reduceLT, Int.reduceEq, Int.reduceAdd, Int.reduceSub, Int.reduceMul, ne_eq, not_true_eq_false, not_false_eq_true, true_and, and_true, and_self, false_implies, true_implies, implies_true, forall_const, Nat.reduceAdd, Int.add_zero, Int.zero_add, true_or, or_true, false_or, or_false, List.length_nil, List.length_cons]
        refine ⟨rfl, c_isBox hx hB (fun h => ?_) (fun h => absurd ha h)⟩
        (first | refine BX10_push_0 ?_ | refine BX10_push_5 ?_ | refine BX10_push_11 ?_ | refine BX10_push_16 ?_ | refine BX10_push_22 ?_ | refine BX10_push_26 ?_ | refine BX10_push_31 ?_)
        dsimp only [bX10_push_0, bX10_push_5, bX10_push_11, bX10_push_16, bX10_push_22, bX10_push_26, bX10_push_31, o_ald, o_ic, o_ild, o_iret, o_v0, o_v1, o_zne, tk, lget, lput, lkill, lmask, ol]
        try simp only [up, upL, rp, sf, cpy, Nat.reduceEqDiff, reduceIte, Int.reduceNeg, Int.reduceLE, Int.reduceLT, Int.reduceEq, Int.reduceAdd, Int.reduceSub, Int.reduceMul, ne_eq, not_true_eq_false, not_false_eq_true, true_and, and_true, and_self, false_implies, true_implies, implies_true, forall_const, Nat.reduceAdd, Int.add_zero, Int.zero_add, true_or, or_true, false_or, or_false, List.length_nil, List.length_cons]
        (first | refine BX10_push_0 ?_ | refine BX10_push_5 ?_ | refine BX10_push_11 ?_ | refine BX10_push_16 ?_ | refine BX10_push_22 ?_ | refine BX10_push_26 ?_ | refine BX10_push_31 ?_)
        dsimp only [bX10_push_0, bX10_push_5, bX10_push_11, bX10_push_16, bX10_push_22, bX10_push_26, bX10_push_31, o_ald, o_ic, o_ild, o_iret, o_v0, o_v1, o_zne, tk, lget, lput, lkill, lmask, ol]
        try simp only [up, upL, rp, sf, cpy, Nat.reduceEqDiff, reduceIte, Int.reduceNeg, Int.reduceLE, Int.reduceLT, Int.reduceEq, Int.reduceAdd, Int.reduceSub, Int.reduceMul, ne_eq, not_true_eq_false, not_false_eq_true, true_and, and_true, and_self, false_implies, true_implies, implies_true, forall_const, Nat.reduceAdd, Int.add_zero, Int.zero_add, true_or, or_true, false_or, or_false, List.length_nil, List.length_cons]
        refine ⟨rfl, c_isUp (fun h => by dsimp only at h; rw [hb] at h; cases h) (fun h => ?_)⟩
        (first | refine BX10_push_0 ?_ | refine BX10_push_5 ?_ | refine BX10_push_11 ?_ | refine BX10_push_16 ?_ | refine BX10_push_22 ?_ | refine BX10_push_26 ?_ | refine BX10_push_31 ?_)
        dsimp only [bX10_push_0, bX10_push_5, bX10_push_11, bX10_push_16, bX10_push_22, bX10_push_26, bX10_push_31, o_ald, o_ic, o_ild, o_iret, o_v0, o_v1, o_zne, tk, lget, lput, lkill, lmask, ol]
        try simp only [up, upL, rp, sf, cpy, Nat.reduceEqDiff, reduceIte, Int.reduceNeg, Int.reduceLE, Int.reduceLT, Int.reduceEq, Int.reduceAdd, Int.reduceSub, Int.reduceMul, ne_eq, not_true_eq_false, not_false_eq_true, true_and, and_true, and_self, false_implies, true_implies, implies_true, forall_const, Nat.reduceAdd, Int.add_zero, Int.zero_add, true_or, or_true, false_or, or_false, List.length_nil, List.length_cons]
        exact hq
    · have hd := dwn_bd hE h2.2.1 ha.1 ha.2
      have hbc := bcf_128 hd.1 hd.2
      have hcl := push_clo hE h2.2.1 h2.2.2.2 ha.1 ha.2
      refine ⟨bsum (dwn f (f 7) x) 30 0, rp (remM f) 7 (pushM f x), by omega, fun w Q hq => ?_, fun u Q hq => ?_⟩
      · refine EX9_push rfl ?_
        (first | refine BX9_push_0 ?_ | refine BX9_push_8 ?_ | refine BX9_push_14 ?_ | refine BX9_push_22 ?_ | refine BX9_push_28 ?_ | refine BX9_push_39 ?_ | refine BX9_push_51 ?_)
        dsimp only [bX9_push_0, bX9_push_8, bX9_push_14, bX9_push_22, bX9_push_28, bX9_push_39, bX9_push_51, o_ald, o_gf, o_ic, o_ild, o_iret, o_v1, o_v2, o_zne, tk, lget, lput, lkill, lmask, ol, lent, flC_0_0, flC_0_1, flC_0_2, flC_0_3, flC_0_4, flC_0_5, flC_0_6, flC_0_7, flC_0_8, flC_0_9, flC_0_10, flC_1_0, flC_1_1, flC_1_2, flC_1_3, flC_1_4, flC_1_5, flC_1_6, flC_1_7, flC_2_0, flC_2_1, flC_2_2, flC_2_3, flC_2_4, flC_2_5, flC_2_6, flC_2_7, flC_2_8, arC_3, arC_4, arC_5, arC_6, arC_7, arC_8, arC_9, flC_10_0, flC_10_1, flC_10_2, flC_10_3, flC_10_4, flC_10_5, flC_10_6, flC_10_7, flC_10_8, arC_11, arC_12, arC_13, arC_14, arC_15, arC_16, flC_17_0, arC_18, flC_19_0, flC_19_1, flC_19_2, arC_20, flC_21_0, flC_21_1, flC_21_2, arC_22, arC_23, flC_24_0, flC_24_1, flC_24_2, arC_25, flC_26_0, flC_26_1, flC_26_2, arC_27, arC_28, flC_29_0, arC_30, flC_31_0, flC_31_1, arC_32, arC_33, arC_34]
        try simp only [up, upL, rp, sf, cpy, Nat.reduceEqDiff, reduceIte, Int.reduceNeg, Int.reduceLE, Int.reduceLT, Int.reduceEq, Int.reduceAdd, Int.reduceSub, Int.reduceMul, ne_eq, not_true_eq_false, not_false_eq_true, true_and, and_true, and_self, false_implies, true_implies, implies_true, forall_const, Nat.reduceAdd, Int.add_zero, Int.zero_add, true_or, or_true, false_or, or_false, List.length_nil, List.length_cons]
        refine ⟨rfl, k_hasBox hx (by dsimp only; omega) (fun h => ?_) (fun h => absurd ha (by dsimp only at h; omega))⟩
        (first | refine BX9_push_0 ?_ | refine BX9_push_8 ?_ | refine BX9_push_14 ?_ | refine BX9_push_22 ?_ | refine BX9_push_28 ?_ | refine BX9_push_39 ?_ | refine BX9_push_51 ?_)
        dsimp only [bX9_push_0, bX9_push_8, bX9_push_14, bX9_push_22, bX9_push_28, bX9_push_39, bX9_push_51, o_ald, o_gf, o_ic, o_ild, o_iret, o_v1, o_v2, o_zne, tk, lget, lput, lkill, lmask, ol, flC_0_0, flC_0_1, flC_0_2, flC_0_3, flC_0_4, flC_0_5, flC_0_6, flC_0_7, flC_0_8, flC_0_9, flC_0_10, flC_1_0, flC_1_1, flC_1_2, flC_1_3, flC_1_4, flC_1_5, flC_1_6, flC_1_7, flC_2_0, flC_2_1, flC_2_2, flC_2_3, flC_2_4, flC_2_5, flC_2_6, flC_2_7, flC_2_8, arC_3, arC_4, arC_5, arC_6, arC_7, arC_8, arC_9, flC_10_0, flC_10_1, flC_10_2, flC_10_3, flC_10_4, flC_10_5, flC_10_6, flC_10_7, flC_10_8, arC_11, arC_12, arC_13, arC_14, arC_15, arC_16, flC_17_0, arC_18, flC_19_0, flC_19_1, flC_19_2, arC_20, flC_21_0, flC_21_1, flC_21_2, arC_22, arC_23, flC_24_0, flC_24_1, flC_24_2, arC_25, flC_26_0, flC_26_1, flC_26_2, arC_27, arC_28, flC_29_0, arC_30, flC_31_0, flC_31_1, arC_32, arC_33, arC_34]
        try simp only [up, upL, rp, sf, cpy, Nat.reduceEqDiff, reduceIte, Int.reduceNeg, Int.reduceLE, Int.reduceLT, Int.reduceEq, Int.reduceAdd, Int.reduceSub, Int.reduceMul, ne_eq, not_true_eq_false, not_false_eq_true, true_and, and_true, and_self, false_implies, true_implies, implies_true, forall_const, Nat.reduceAdd, Int.add_zero, Int.zero_add, true_or, or_true, false_or, or_false, List.length_nil, List.length_cons]
        (first | refine BX9_push_0 ?_ | refine BX9_push_8 ?_ | refine BX9_push_14 ?_ | refine BX9_push_22 ?_ | refine BX9_push_28 ?_ | refine BX9_push_39 ?_ | refine BX9_push_51 ?_)
        dsimp only [bX9_push_0, bX9_push_8, bX9_push_14, bX9_push_22, bX9_push_28, bX9_push_39, bX9_push_51, o_ald, o_gf, o_ic, o_ild, o_iret, o_v1, o_v2, o_zne, tk, lget, lput, lkill, lmask, ol, flC_0_0, flC_0_1, flC_0_2, flC_0_3, flC_0_4, flC_0_5, flC_0_6, flC_0_7, flC_0_8, flC_0_9, flC_0_10, flC_1_0, flC_1_1, flC_1_2, flC_1_3, flC_1_4, flC_1_5, flC_1_6, flC_1_7, flC_2_0, flC_2_1, flC_2_2, flC_2_3, flC_2_4, flC_2_5, flC_2_6, flC_2_7, flC_2_8, arC_3, arC_4, arC_5, arC_6, arC_7, arC_8, arC_9, flC_10_0, flC_10_1, flC_10_2, flC_10_3, flC_10_4, flC_10_5, flC_10_6, flC_10_7, flC_10_8, arC_11, arC_12, arC_13, arC_14, arC_15, arC_16, flC_17_0, arC_18, flC_19_0, flC_19_1, flC_19_2, arC_20, flC_21_0, flC_21_1, flC_21_2, arC_22, arC_23, flC_24_0, flC_24_1, flC_24_2, arC_25, flC_26_0, flC_26_1, flC_26_2, arC_27, arC_28, flC_29_0, arC_30, flC_31_0, flC_31_1, arC_32, arC_33, arC_34]
        try simp only [up, upL, rp, sf, cpy, Nat.reduceEqDiff, reduceIte, Int.reduceNeg, Int.reduceLE, Int.reduceLT, Int.reduceEq, Int.reduceAdd, Int.reduceSub, Int.reduceMul, ne_eq, not_true_eq_false, not_false_eq_true, true_and, and_true, and_self, false_implies, true_implies, implies_true, forall_const, Nat.reduceAdd, Int.add_zero, Int.zero_add, true_or, or_true, false_or, or_false, List.length_nil, List.length_cons]
        refine ⟨rfl, k_isUp (fun h => ?_) (fun h => by dsimp only at h; rw [e27, hb] at h; cases h)⟩
        (first | refine BX9_push_0 ?_ | refine BX9_push_8 ?_ | refine BX9_push_14 ?_ | refine BX9_push_22 ?_ | refine BX9_push_28 ?_ | refine BX9_push_39 ?_ | refine BX9_push_51 ?_)
        dsimp only [bX9_push_0, bX9_push_8, bX9_push_14, bX9_push_22, bX9_push_28, bX9_push_39, bX9_push_51, o_ald, o_gf, o_ic, o_ild, o_iret, o_v1, o_v2, o_zne, tk, lget, lput, lkill, lmask, ol, flC_0_0, flC_0_1, flC_0_2, flC_0_3, flC_0_4, flC_0_5, flC_0_6, flC_0_7, flC_0_8, flC_0_9, flC_0_10, flC_1_0, flC_1_1, flC_1_2, flC_1_3, flC_1_4, flC_1_5, flC_1_6, flC_1_7, flC_2_0, flC_2_1, flC_2_2, flC_2_3, flC_2_4, flC_2_5, flC_2_6, flC_2_7, flC_2_8, arC_3, arC_4, arC_5, arC_6, arC_7, arC_8, arC_9, flC_10_0, flC_10_1, flC_10_2, flC_10_3, flC_10_4, flC_10_5, flC_10_6, flC_10_7, flC_10_8, arC_11, arC_12, arC_13, arC_14, arC_15, arC_16, flC_17_0, arC_18, flC_19_0, flC_19_1, flC_19_2, arC_20, flC_21_0, flC_21_1, flC_21_2, arC_22, arC_23, flC_24_0, flC_24_1, flC_24_2, arC_25, flC_26_0, flC_26_1, flC_26_2, arC_27, arC_28, flC_29_0, arC_30, flC_31_0, flC_31_1, arC_32, arC_33, arC_34]
        try simp only [up, upL, rp, sf, cpy, Nat.reduceEqDiff, reduceIte, Int.reduceNeg, Int.reduceLE, Int.reduceLT, Int.reduceEq, Int.reduceAdd, Int.reduceSub, Int.reduceMul, ne_eq, not_true_eq_false, not_false_eq_true, true_and, and_true, and_self, false_implies, true_implies, implies_true, forall_const, Nat.reduceAdd, Int.add_zero, Int.zero_add, true_or, or_true, false_or, or_false, List.length_nil, List.length_cons]
        (first | refine BX9_push_0 ?_ | refine BX9_push_8 ?_ | refine BX9_push_14 ?_ | refine BX9_push_22 ?_ | refine BX9_push_28 ?_ | refine BX9_push_39 ?_ | refine BX9_push_51 ?_)
        dsimp only [bX9_push_0, bX9_push_8, bX9_push_14, bX9_push_22, bX9_push_28, bX9_push_39, bX9_push_51, o_ald, o_gf, o_ic, o_ild, o_iret, o_v1, o_v2, o_zne, tk, lget, lput, lkill, lmask, ol, flC_0_0, flC_0_1, flC_0_2, flC_0_3, flC_0_4, flC_0_5, flC_0_6, flC_0_7, flC_0_8, flC_0_9, flC_0_10, flC_1_0, flC_1_1, flC_1_2, flC_1_3, flC_1_4, flC_1_5, flC_1_6, flC_1_7, flC_2_0, flC_2_1, flC_2_2, flC_2_3, flC_2_4, flC_2_5, flC_2_6, flC_2_7, flC_2_8, arC_3, arC_4, arC_5, arC_6, arC_7, arC_8, arC_9, flC_10_0, flC_10_1, flC_10_2, flC_10_3, flC_10_4, flC_10_5, flC_10_6, flC_10_7, flC_10_8, arC_11, arC_12, arC_13, arC_14, arC_15, arC_16, flC_17_0, arC_18, flC_19_0, flC_19_1, flC_19_2, arC_20, flC_21_0, flC_21_1, flC_21_2, arC_22, arC_23, flC_24_0, flC_24_1, flC_24_2, arC_25, flC_26_0, flC_26_1, flC_26_2, arC_27, arC_28, flC_29_0, arC_30, flC_31_0, flC_31_1, arC_32, arC_33, arC_34]
        try simp only [up, upL, rp, sf, cpy, Nat.reduceEqDiff, reduceIte, Int.reduceNeg, Int.reduceLE, Int.reduceLT, Int.reduceEq, Int.reduceAdd, Int.reduceSub, Int.reduceMul, ne_eq, not_true_eq_false, not_false_eq_true, true_and, and_true, and_self, false_implies, true_implies, implies_true, forall_const, Nat.reduceAdd, Int.add_zero, Int.zero_add, true_or, or_true, false_or, or_false, List.length_nil, List.length_cons]
        refine ⟨rfl, k_remember (by dsimp only; rw [h8.1]; exact h8.2.1) h8.2.2.1 ?_⟩
        (first | refine BX9_push_0 ?_ | refine BX9_push_8 ?_ | refine BX9_push_14 ?_ | refine BX9_push_22 ?_ | refine BX9_push_28 ?_ | refine BX9_push_39 ?_ | refine BX9_push_51 ?_)
        dsimp only [bX9_push_0, bX9_push_8, bX9_push_14, bX9_push_22, bX9_push_28, bX9_push_39, bX9_push_51, o_ald, o_gf, o_ic, o_ild, o_iret, o_v1, o_v2, o_zne, tk, lget, lput, lkill, lmask, ol, flC_0_0, flC_0_1, flC_0_2, flC_0_3, flC_0_4, flC_0_5, flC_0_6, flC_0_7, flC_0_8, flC_0_9, flC_0_10, flC_1_0, flC_1_1, flC_1_2, flC_1_3, flC_1_4, flC_1_5, flC_1_6, flC_1_7, flC_2_0, flC_2_1, flC_2_2, flC_2_3, flC_2_4, flC_2_5, flC_2_6, flC_2_7, flC_2_8, arC_3, arC_4, arC_5, arC_6, arC_7, arC_8, arC_9, flC_10_0, flC_10_1, flC_10_2, flC_10_3, flC_10_4, flC_10_5, flC_10_6, flC_10_7, flC_10_8, arC_11, arC_12, arC_13, arC_14, arC_15, arC_16, flC_17_0, arC_18, flC_19_0, flC_19_1, flC_19_2, arC_20, flC_21_0, flC_21_1, flC_21_2, arC_22, arC_23, flC_24_0, flC_24_1, flC_24_2, arC_25, flC_26_0, flC_26_1, flC_26_2, arC_27, arC_28, flC_29_0, arC_30, flC_31_0, flC_31_1, arC_32, arC_33, arC_34]
        try simp only [up, upL, rp, sf, cpy, Nat.reduceEqDiff, reduceIte, Int.reduceNeg, Int.reduceLE, Int.reduceLT, Int.reduceEq, Int.reduceAdd, Int.reduceSub, Int.reduceMul, ne_eq, not_true_eq_false, not_false_eq_true, true_and, and_true, and_self, false_implies, true_implies, implies_true, forall_const, Nat.reduceAdd, Int.add_zero, Int.zero_add, true_or, or_true, false_or, or_false, List.length_nil, List.length_cons]
        refine ⟨rfl, k_pushDown (f := f) h1.1 hE h2.1 h2.2.1 ha.1 ha.2 (fun c hc => ?_)⟩
        (first | refine BX9_push_0 ?_ | refine BX9_push_8 ?_ | refine BX9_push_14 ?_ | refine BX9_push_22 ?_ | refine BX9_push_28 ?_ | refine BX9_push_39 ?_ | refine BX9_push_51 ?_)
        dsimp only [bX9_push_0, bX9_push_8, bX9_push_14, bX9_push_22, bX9_push_28, bX9_push_39, bX9_push_51, o_ald, o_gf, o_ic, o_ild, o_iret, o_v1, o_v2, o_zne, tk, lget, lput, lkill, lmask, ol, flC_0_0, flC_0_1, flC_0_2, flC_0_3, flC_0_4, flC_0_5, flC_0_6, flC_0_7, flC_0_8, flC_0_9, flC_0_10, flC_1_0, flC_1_1, flC_1_2, flC_1_3, flC_1_4, flC_1_5, flC_1_6, flC_1_7, flC_2_0, flC_2_1, flC_2_2, flC_2_3, flC_2_4, flC_2_5, flC_2_6, flC_2_7, flC_2_8, arC_3, arC_4, arC_5, arC_6, arC_7, arC_8, arC_9, flC_10_0, flC_10_1, flC_10_2, flC_10_3, flC_10_4, flC_10_5, flC_10_6, flC_10_7, flC_10_8, arC_11, arC_12, arC_13, arC_14, arC_15, arC_16, flC_17_0, arC_18, flC_19_0, flC_19_1, flC_19_2, arC_20, flC_21_0, flC_21_1, flC_21_2, arC_22, arC_23, flC_24_0, flC_24_1, flC_24_2, arC_25, flC_26_0, flC_26_1, flC_26_2, arC_27, arC_28, flC_29_0, arC_30, flC_31_0, flC_31_1, arC_32, arC_33, arC_34]
        try simp only [up, upL, rp, sf, cpy, Nat.reduceEqDiff, reduceIte, Int.reduceNeg, Int.reduceLE, Int.reduceLT, Int.reduceEq, Int.reduceAdd, Int.reduceSub, Int.reduceMul, ne_eq, not_true_eq_false, not_false_eq_true, true_and, and_true, and_self, false_implies, true_implies, implies_true, forall_const, Nat.reduceAdd, Int.add_zero, Int.zero_add, true_or, or_true, false_or, or_false, List.length_nil, List.length_cons]
        exact hq (_, w) (inv_act hI hc ⟨OkR_push hE h2.2.1 ha.1 ha.2, by rw [hcl.2]; exact h2.2.2.1, hcl.1⟩)
      · refine EX10_push rfl ?_
        (first | refine BX10_push_0 ?_ | refine BX10_push_5 ?_ | refine BX10_push_11 ?_ | refine BX10_push_16 ?_ | refine BX10_push_22 ?_ | refine BX10_push_26 ?_ | refine BX10_push_31 ?_)
        dsimp only [bX10_push_0, bX10_push_5, bX10_push_11, bX10_push_16, bX10_push_22, bX10_push_26, bX10_push_31, o_ald, o_ic, o_ild, o_iret, o_v0, o_v1, o_zne, tk, lget, lput, lkill, lmask, ol, lent]
        try simp only [up, upL, rp, sf, cpy, Nat.reduceEqDiff, reduceIte, Int.reduceNeg, Int.reduceLE, Int.reduceLT, Int.reduceEq, Int.reduceAdd, Int.reduceSub, Int.reduceMul, ne_eq, not_true_eq_false, not_false_eq_true, true_and, and_true, and_self, false_implies, true_implies, implies_true, forall_const, Nat.reduceAdd, Int.add_zero, Int.zero_add, true_or, or_true, false_or, or_false, List.length_nil, List.length_cons]
        refine ⟨rfl, c_isBox hx hB (fun h => ?_) (fun h => absurd ha h)⟩
        (first | refine BX10_push_0 ?_ | refine BX10_push_5 ?_ | refine BX10_push_11 ?_ | refine BX10_push_16 ?_ | refine BX10_push_22 ?_ | refine BX10_push_26 ?_ | refine BX10_push_31 ?_)
        dsimp only [bX10_push_0, bX10_push_5, bX10_push_11, bX10_push_16, bX10_push_22, bX10_push_26, bX10_push_31, o_ald, o_ic, o_ild, o_iret, o_v0, o_v1, o_zne, tk, lget, lput, lkill, lmask, ol]
        try simp only [up, upL, rp, sf, cpy, Nat.reduceEqDiff, reduceIte, Int.reduceNeg, Int.reduceLE, Int.reduceLT, Int.reduceEq, Int.reduceAdd, Int.reduceSub, Int.reduceMul, ne_eq, not_true_eq_false, not_false_eq_true, true_and, and_true, and_self, false_implies, true_implies, implies_true, forall_const, Nat.reduceAdd, Int.add_zero, Int.zero_add, true_or, or_true, false_or, or_false, List.length_nil, List.length_cons]
        (first | refine BX10_push_0 ?_ | refine BX10_push_5 ?_ | refine BX10_push_11 ?_ | refine BX10_push_16 ?_ | refine BX10_push_22 ?_ | refine BX10_push_26 ?_ | refine BX10_push_31 ?_)
        dsimp only [bX10_push_0, bX10_push_5, bX10_push_11, bX10_push_16, bX10_push_22, bX10_push_26, bX10_push_31, o_ald, o_ic, o_ild, o_iret, o_v0, o_v1, o_zne, tk, lget, lput, lkill, lmask, ol]
        try simp only [up, upL, rp, sf, cpy, Nat.reduceEqDiff, reduceIte, Int.reduceNeg, Int.reduceLE, Int.reduceLT, Int.reduceEq, Int.reduceAdd, Int.reduceSub, Int.reduceMul, ne_eq, not_true_eq_false, not_false_eq_true, true_and, and_true, and_self, false_implies, true_implies, implies_true, forall_const, Nat.reduceAdd, Int.add_zero, Int.zero_add, true_or, or_true, false_or, or_false, List.length_nil, List.length_cons]
        refine ⟨rfl, c_isUp (fun h => ?_) (fun h => by dsimp only at h; rw [hb] at h; cases h)⟩
        (first | refine BX10_push_0 ?_ | refine BX10_push_5 ?_ | refine BX10_push_11 ?_ | refine BX10_push_16 ?_ | refine BX10_push_22 ?_ | refine BX10_push_26 ?_ | refine BX10_push_31 ?_)
        dsimp only [bX10_push_0, bX10_push_5, bX10_push_11, bX10_push_16, bX10_push_22, bX10_push_26, bX10_push_31, o_ald, o_ic, o_ild, o_iret, o_v0, o_v1, o_zne, tk, lget, lput, lkill, lmask, ol]
        try simp only [up, upL, rp, sf, cpy, Nat.reduceEqDiff, reduceIte, Int.reduceNeg, Int.reduceLE, Int.reduceLT, Int.reduceEq, Int.reduceAdd, Int.reduceSub, Int.reduceMul, ne_eq, not_true_eq_false, not_false_eq_true, true_and, and_true, and_self, false_implies, true_implies, implies_true, forall_const, Nat.reduceAdd, Int.add_zero, Int.zero_add, true_or, or_true, false_or, or_false, List.length_nil, List.length_cons]
        (first | refine BX10_push_0 ?_ | refine BX10_push_5 ?_ | refine BX10_push_11 ?_ | refine BX10_push_16 ?_ | refine BX10_push_22 ?_ | refine BX10_push_26 ?_ | refine BX10_push_31 ?_)
        dsimp only [bX10_push_0, bX10_push_5, bX10_push_11, bX10_push_16, bX10_push_22, bX10_push_26, bX10_push_31, o_ald, o_ic, o_ild, o_iret, o_v0, o_v1, o_zne, tk, lget, lput, lkill, lmask, ol]
        try simp only [up, upL, rp, sf, cpy, Nat.reduceEqDiff, reduceIte, Int.reduceNeg, Int.reduceLE, Int.reduceLT, Int.reduceEq, Int.reduceAdd, Int.reduceSub, Int.reduceMul, ne_eq, not_true_eq_false, not_false_eq_true, true_and, and_true, and_self, false_implies, true_implies, implies_true, forall_const, Nat.reduceAdd, Int.add_zero, Int.zero_add, true_or, or_true, false_or, or_false, List.length_nil, List.length_cons]
        refine ⟨rfl, c_remember h8.2.1 ?_⟩
        (first | refine BX10_push_0 ?_ | refine BX10_push_5 ?_ | refine BX10_push_11 ?_ | refine BX10_push_16 ?_ | refine BX10_push_22 ?_ | refine BX10_push_26 ?_ | refine BX10_push_31 ?_)
        dsimp only [bX10_push_0, bX10_push_5, bX10_push_11, bX10_push_16, bX10_push_22, bX10_push_26, bX10_push_31, o_ald, o_ic, o_ild, o_iret, o_v0, o_v1, o_zne, tk, lget, lput, lkill, lmask, ol]
        try simp only [up, upL, rp, sf, cpy, Nat.reduceEqDiff, reduceIte, Int.reduceNeg, Int.reduceLE, Int.reduceLT, Int.reduceEq, Int.reduceAdd, Int.reduceSub, Int.reduceMul, ne_eq, not_true_eq_false, not_false_eq_true, true_and, and_true, and_self, false_implies, true_implies, implies_true, forall_const, Nat.reduceAdd, Int.add_zero, Int.zero_add, true_or, or_true, false_or, or_false, List.length_nil, List.length_cons]
        refine ⟨rfl, c_pushNow (M := (remM f, u)) hE h2.2.1 ha.1 ha.2 ?_⟩
        (first | refine BX10_push_0 ?_ | refine BX10_push_5 ?_ | refine BX10_push_11 ?_ | refine BX10_push_16 ?_ | refine BX10_push_22 ?_ | refine BX10_push_26 ?_ | refine BX10_push_31 ?_)
        dsimp only [bX10_push_0, bX10_push_5, bX10_push_11, bX10_push_16, bX10_push_22, bX10_push_26, bX10_push_31, o_ald, o_ic, o_ild, o_iret, o_v0, o_v1, o_zne, tk, lget, lput, lkill, lmask, ol]
        try simp only [up, upL, rp, sf, cpy, Nat.reduceEqDiff, reduceIte, Int.reduceNeg, Int.reduceLE, Int.reduceLT, Int.reduceEq, Int.reduceAdd, Int.reduceSub, Int.reduceMul, ne_eq, not_true_eq_false, not_false_eq_true, true_and, and_true, and_self, false_implies, true_implies, implies_true, forall_const, Nat.reduceAdd, Int.add_zero, Int.zero_add, true_or, or_true, false_or, or_false, List.length_nil, List.length_cons]
        exact hq
  · refine ⟨-1000000001, f, by omega, fun w Q hq => ?_, fun u Q hq => ?_⟩
    · refine EX9_push rfl ?_
      (first | refine BX9_push_0 ?_ | refine BX9_push_8 ?_ | refine BX9_push_14 ?_ | refine BX9_push_22 ?_ | refine BX9_push_28 ?_ | refine BX9_push_39 ?_ | refine BX9_push_51 ?_)
      dsimp only [bX9_push_0, bX9_push_8, bX9_push_14, bX9_push_22, bX9_push_28, bX9_push_39, bX9_push_51, o_ald, o_gf, o_ic, o_ild, o_iret, o_v1, o_v2, o_zne, tk, lget, lput, lkill, lmask, ol, lent, flC_0_0, flC_0_1, flC_0_2, flC_0_3, flC_0_4, flC_0_5, flC_0_6, flC_0_7, flC_0_8, flC_0_9, flC_0_10, flC_1_0, flC_1_1, flC_1_2, flC_1_3, flC_1_4, flC_1_5, flC_1_6, flC_1_7, flC_2_0, flC_2_1, flC_2_2, flC_2_3, flC_2_4, flC_2_5, flC_2_6, flC_2_7, flC_2_8, arC_3, arC_4, arC_5, arC_6, arC_7, arC_8, arC_9, flC_10_0, flC_10_1, flC_10_2, flC_10_3, flC_10_4, flC_10_5, flC_10_6, flC_10_7, flC_10_8, arC_11, arC_12, arC_13, arC_14, arC_15, arC_16, flC_17_0, arC_18, flC_19_0, flC_19_1, flC_19_2, arC_20, flC_21_0, flC_21_1, flC_21_2, arC_22, arC_23, flC_24_0, flC_24_1, flC_24_2, arC_25, flC_26_0, flC_26_1, flC_26_2, arC_27, arC_28, flC_29_0, arC_30, flC_31_0, flC_31_1, arC_32, arC_33, arC_34]
      try simp only [up, upL, rp, sf, cpy, Nat.reduceEqDiff, reduceIte, Int.reduceNeg, Int.reduceLE, Int.reduceLT, Int.reduceEq, Int.reduceAdd, Int.reduceSub, Int.reduceMul, ne_eq, not_true_eq_false, not_false_eq_true, true_and, and_true, and_self, false_implies, true_implies, implies_true, forall_const, Nat.reduceAdd, Int.add_zero, Int.zero_add, true_or, or_true, false_or, or_false, List.length_nil, List.length_cons]
      refine ⟨rfl, k_hasBox hx (by dsimp only; omega) (fun h => absurd h (by dsimp only; omega)) (fun h => ?_)⟩
      (first | refine BX9_push_0 ?_ | refine BX9_push_8 ?_ | refine BX9_push_14 ?_ | refine BX9_push_22 ?_ | refine BX9_push_28 ?_ | refine BX9_push_39 ?_ | refine BX9_push_51 ?_)
      dsimp only [bX9_push_0, bX9_push_8, bX9_push_14, bX9_push_22, bX9_push_28, bX9_push_39, bX9_push_51, o_ald, o_gf, o_ic, o_ild, o_iret, o_v1, o_v2, o_zne, tk, lget, lput, lkill, lmask, ol, flC_0_0, flC_0_1, flC_0_2, flC_0_3, flC_0_4, flC_0_5, flC_0_6, flC_0_7, flC_0_8, flC_0_9, flC_0_10, flC_1_0, flC_1_1, flC_1_2, flC_1_3, flC_1_4, flC_1_5, flC_1_6, flC_1_7, flC_2_0, flC_2_1, flC_2_2, flC_2_3, flC_2_4, flC_2_5, flC_2_6, flC_2_7, flC_2_8, arC_3, arC_4, arC_5, arC_6, arC_7, arC_8, arC_9, flC_10_0, flC_10_1, flC_10_2, flC_10_3, flC_10_4, flC_10_5, flC_10_6, flC_10_7, flC_10_8, arC_11, arC_12, arC_13, arC_14, arC_15, arC_16, flC_17_0, arC_18, flC_19_0, flC_19_1, flC_19_2, arC_20, flC_21_0, flC_21_1, flC_21_2, arC_22, arC_23, flC_24_0, flC_24_1, flC_24_2, arC_25, flC_26_0, flC_26_1, flC_26_2, arC_27, arC_28, flC_29_0, arC_30, flC_31_0, flC_31_1, arC_32, arC_33, arC_34]
      try simp only [up, upL, rp, sf, cpy, Nat.reduceEqDiff, reduceIte, Int.reduceNeg, Int.reduceLE, Int.reduceLT, Int.reduceEq, Int.reduceAdd, Int.reduceSub, Int.reduceMul, ne_eq, not_true_eq_false, not_false_eq_true, true_and, and_true, and_self, false_implies, true_implies, implies_true, forall_const, Nat.reduceAdd, Int.add_zero, Int.zero_add, true_or, or_true, false_or, or_false, List.length_nil, List.length_cons]
      exact hq (C, w) hI
    · refine EX10_push rfl ?_
      (first | refine BX10_push_0 ?_ | refine BX10_push_5 ?_ | refine BX10_push_11 ?_ | refine BX10_push_16 ?_ | refine BX10_push_22 ?_ | refine BX10_push_26 ?_ | refine BX10_push_31 ?_)
      dsimp only [bX10_push_0, bX10_push_5, bX10_push_11, bX10_push_16, bX10_push_22, bX10_push_26, bX10_push_31, o_ald, o_ic, o_ild, o_iret, o_v0, o_v1, o_zne, tk, lget, lput, lkill, lmask, ol, lent]
      try simp only [up, upL, rp, sf, cpy, Nat.reduceEqDiff, reduceIte, Int.reduceNeg, Int.reduceLE, Int.reduceLT, Int.reduceEq, Int.reduceAdd, Int.reduceSub, Int.reduceMul, ne_eq, not_true_eq_false, not_false_eq_true, true_and, and_true, and_self, false_implies, true_implies, implies_true, forall_const, Nat.reduceAdd, Int.add_zero, Int.zero_add, true_or, or_true, false_or, or_false, List.length_nil, List.length_cons]
      refine ⟨rfl, c_isBox hx hB (fun h => absurd h ha) (fun h => ?_)⟩
      (first | refine BX10_push_0 ?_ | refine BX10_push_5 ?_ | refine BX10_push_11 ?_ | refine BX10_push_16 ?_ | refine BX10_push_22 ?_ | refine BX10_push_26 ?_ | refine BX10_push_31 ?_)
      dsimp only [bX10_push_0, bX10_push_5, bX10_push_11, bX10_push_16, bX10_push_22, bX10_push_26, bX10_push_31, o_ald, o_ic, o_ild, o_iret, o_v0, o_v1, o_zne, tk, lget, lput, lkill, lmask, ol]
      try simp only [up, upL, rp, sf, cpy, Nat.reduceEqDiff, reduceIte, Int.reduceNeg, Int.reduceLE, Int.reduceLT, Int.reduceEq, Int.reduceAdd, Int.reduceSub, Int.reduceMul, ne_eq, not_true_eq_false, not_false_eq_true, true_and, and_true, and_self, false_implies, true_implies, implies_true, forall_const, Nat.reduceAdd, Int.add_zero, Int.zero_add, true_or, or_true, false_or, or_false, List.length_nil, List.length_cons]
      exact hq
