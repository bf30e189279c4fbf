/-! what bars alone do: where boxes are, rust, who is up -/
theorem wsum_c {g g' w : Int → Int} {b : Int} : ∀ (j : Nat) (r : Int), (∀ i, r ≤ i → i < r + j → g (23 + i) = g' (23 + i)) → wsum g w b j r = wsum g' w b j r
  | 0, _, _ => rfl
  | j + 1, r, h => by
    unfold wsum
    rw [h r (by omega) (by omega), wsum_c j (r + 1) (fun i a c => h i (by omega) (by omega))]
def Kp (g g' : Int → Int) : Prop := g 8 = g' 8 ∧ (∀ c, 0 ≤ c → c < 7 → g (16 + c) = g' (16 + c)) ∧ (∀ r, 0 ≤ r → r < 6 → g (23 + r) = g' (23 + r))
theorem wonM_kp {f : Nat → Int → Int} {g : Int → Int} {b : Int} (hE : OkE f) (h : ∀ r, 0 ≤ r → r < 6 → g (23 + r) = f 7 (23 + r)) : wonM (rp f 7 g) b = wonM f b := by
  have hR := hE.2.2.1
  show wsum (rp f 7 g 7) (f 6) b (f 0 8).toNat 0 = wsum (f 7) (f 6) b (f 0 8).toNat 0
  rw [rp_k]
  exact wsum_c _ _ (fun i a c => h i (by omega) (by omega))
def gdF (f : Nat → Int → Int) (b rust : Int) : Bool := decide (1 ≤ frcM f b rust ∧ ¬ (1 ≤ wonM f b ∧ frcM f b rust ≤ wonM f b))
theorem gdF_kp {f : Nat → Int → Int} {g : Int → Int} {b r : Int} (hE : OkE f) (h8 : g 8 = f 7 8) (h : ∀ r, 0 ≤ r → r < 6 → g (23 + r) = f 7 (23 + r)) : gdF (rp f 7 g) b r = gdF f b r := by
  unfold gdF
  rw [frcM_row h8, wonM_kp hE h]
theorem can_adv {f : Nat → Int → Int} {b : Int} (hE : OkE f) (b0 : 0 ≤ b) (b1 : b < f 0 1) : canM (adv f b) b = (gdF f b (f 7 (16 + b)) && (decide (f 5 b < 0) || bt (f 7 7) (f 5 b))) := by
  have hB := hE.2.1
  have e7 : adv f b 7 = sf (f 7) b ((f 7 b + 1).tmod (f 1 b)) := rp_k
  have a1 : adv f b 7 (16 + b) = f 7 (16 + b) := by rw [e7]; unfold sf; rw [if_neg (by omega)]
  have a2 : adv f b 7 7 = f 7 7 := by rw [e7]; unfold sf; rw [if_neg (by omega)]
  have a3 : frcM (adv f b) b (f 7 (16 + b)) = frcM f b (f 7 (16 + b)) := frcM_row (by unfold sf; rw [if_neg (by omega)])
  have a4 : wonM (adv f b) b = wonM f b := wonM_kp hE (fun r r0 r1 => by unfold sf; rw [if_neg (by omega)])
  have a5 : adv f b 5 b = f 5 b := rfl
  unfold canM heldM gdF
  rw [a1, a2, a3, a4, a5]
  apply Bool.eq_iff_iff.mpr
  simp only [decide_eq_true_eq, Bool.and_eq_true, Bool.or_eq_true, decide_eq_false_iff_not]
  constructor
  · rintro ⟨q1, q2, q3⟩; exact ⟨⟨q2, q1⟩, q3⟩
  · rintro ⟨⟨q2, q1⟩, q3⟩; exact ⟨q1, q2, q3⟩
theorem turn_row {f : Nat → Int → Int} {b : Int} (hE : OkE f) (hO : OkR f (f 7)) (b0 : 0 ≤ b) (b1 : b < f 0 1) : (∀ c, 0 ≤ c → c < 7 → turnM f b c = if c = b then (f 7 b + 1).tmod (f 1 b) else f 7 c) ∧ Kp (turnM f b) (f 7) ∧ (∀ c, 0 ≤ c → c < 7 → bt (turnM f b 7) c = (bt (f 7 7) c || (decide (c = b) && (decide ((f 7 b + 1).tmod (f 1 b) = f 2 b) && (gdF f b (f 7 (16 + b)) && (decide (f 5 b < 0) || bt (f 7 7) (f 5 b))))))) := by
  have hB := hE.2.1
  have hu := hO.2.2.1
  have e7 : adv f b 7 = sf (f 7) b ((f 7 b + 1).tmod (f 1 b)) := rp_k
  have ab : adv f b 7 b = (f 7 b + 1).tmod (f 1 b) := by rw [e7]; unfold sf; rw [if_pos rfl]
  have a7 : adv f b 7 7 = f 7 7 := by rw [e7]; unfold sf; rw [if_neg (by omega)]
  have an : ∀ i, i ≠ b → adv f b 7 i = f 7 i := fun i hi => by rw [e7]; unfold sf; rw [if_neg hi]
  have a2 : adv f b 2 b = f 2 b := rfl
  have ac : ∀ c, adv f b 7 c = if c = b then (f 7 b + 1).tmod (f 1 b) else f 7 c := fun c => by rw [e7]; rfl
  have hcan := can_adv hE b0 b1
  generalize hz : (gdF f b (f 7 (16 + b)) && (decide (f 5 b < 0) || bt (f 7 7) (f 5 b))) = z at hcan
  unfold turnM turn2M
  rw [ab, a2, a7]
  by_cases h1 : (f 7 b + 1).tmod (f 1 b) ≠ f 2 b ∨ bt (f 7 7) b = true
  · rw [if_pos h1]
    have sw : ∀ i, i ≠ 9 + b → swayM (adv f b 7) b i = adv f b 7 i := fun i hi => by unfold swayM sf; rw [if_neg hi]
    refine ⟨fun c c0 c1 => (sw c (by omega)).trans (ac c), ⟨?_, fun c c0 c1 => ?_, fun r r0 r1 => ?_⟩, fun c c0 c1 => ?_⟩
    · rw [sw 8 (by omega), an 8 (by omega)]
    · rw [sw _ (by omega), an _ (by omega)]
    · rw [sw _ (by omega), an _ (by omega)]
    · rw [sw 7 (by omega), a7]
      by_cases hc : c = b
      · subst hc
        rcases h1 with h1 | h1
        · rw [decide_eq_false h1]; simp
        · rw [h1]; simp
      · rw [decide_eq_false hc]; simp
  · rw [if_neg h1]
    have h2 : (f 7 b + 1).tmod (f 1 b) = f 2 b := Decidable.byContradiction (fun q => h1 (Or.inl q))
    have h3 : bt (f 7 7) b = false := by
      cases hq : bt (f 7 7) b
      · rfl
      · exact absurd (Or.inr hq) h1
    rw [hcan]
    cases z with
    | true =>
      rw [if_pos rfl]
      have sw : ∀ i, i ≠ 9 + b → i ≠ 7 → comeM (adv f b) b i = adv f b 7 i := fun i hi h7 => by unfold comeM sf; rw [if_neg hi, if_neg h7]
      have s7 : comeM (adv f b) b 7 = ior (f 7 7) (ishl 1 b) := by unfold comeM sf; rw [if_neg (by omega), if_pos rfl, a7]
      refine ⟨fun c c0 c1 => (sw c (by omega) (by omega)).trans (ac c), ⟨?_, fun c c0 c1 => ?_, fun r r0 r1 => ?_⟩, fun c c0 c1 => ?_⟩
      · rw [sw 8 (by omega) (by omega), an 8 (by omega)]
      · rw [sw _ (by omega) (by omega), an _ (by omega)]
      · rw [sw _ (by omega) (by omega), an _ (by omega)]
      · rw [s7, bt_or hu.1 (by omega) b0 (by omega) c0 (by omega), decide_eq_true h2]
        simp
    | false =>
      rw [if_neg (by decide)]
      have sw : ∀ i, i ≠ 31 → thudM (adv f b 7) i = adv f b 7 i := fun i hi => by unfold thudM sf; rw [if_neg hi]
      refine ⟨fun c c0 c1 => (sw c (by omega)).trans (ac c), ⟨?_, fun c c0 c1 => ?_, fun r r0 r1 => ?_⟩, fun c c0 c1 => ?_⟩
      · rw [sw 8 (by omega), an 8 (by omega)]
      · rw [sw _ (by omega), an _ (by omega)]
      · rw [sw _ (by omega), an _ (by omega)]
      · rw [sw 7 (by omega), a7]
        simp
theorem trs_s {j : Nat} {b : Int} {f : Nat → Int → Int} : trs (j + 1) b f = trs j (b + 1) (trn f b) := rfl
theorem trs_row : ∀ (j : Nat) (b : Int) (f : Nat → Int → Int), OkE f → OkR f (f 7) → 0 ≤ b → b + j ≤ f 0 1 → (∀ c, 0 ≤ c → c < 7 → trs j b f 7 c = if b ≤ c ∧ c < b + j then (f 7 c + 1).tmod (f 1 c) else f 7 c) ∧ Kp (trs j b f 7) (f 7) ∧ (∀ c, 0 ≤ c → c < 7 → ¬ (b ≤ c ∧ c < b + j) → bt (trs j b f 7 7) c = bt (f 7 7) c) ∧ (∀ c, b ≤ c → c < b + j → bt (trs j b f 7 7) c = (bt (f 7 7) c || (decide ((f 7 c + 1).tmod (f 1 c) = f 2 c) && (gdF f c (f 7 (16 + c)) && (decide (f 5 c < 0) || bt (trs j b f 7 7) (f 5 c)))))) := by
  intro j
  induction j with
  | zero =>
    intro b f _ _ _ _
    exact ⟨fun c _ _ => by rw [if_neg (by omega)]; rfl, ⟨rfl, fun _ _ _ => rfl, fun _ _ _ => rfl⟩, fun _ _ _ _ => rfl, fun c h1 h2 => by omega⟩
  | succ j IH =>
    intro b f hE hO b0 b1
    have hB := hE.2.1
    have e7 : trn f b 7 = turnM f b := rp_k
    obtain ⟨t1, t2, t3⟩ := turn_row hE hO b0 (show b < f 0 1 by omega)
    have ih := IH (b + 1) (trn f b) (OkE7 hE) (by unfold trn; rw [rp_k]; exact OkR_turn hE hO b0 (by omega)) (by omega) (by show b + 1 + (j : Int) ≤ f 0 1; omega)
    have r1 : trn f b 1 = f 1 := rp_ne (by decide)
    have r2 : trn f b 2 = f 2 := rp_ne (by decide)
    have r5 : trn f b 5 = f 5 := rp_ne (by decide)
    rw [e7, r1, r2, r5] at ih
    obtain ⟨i1, i2, i3, i4⟩ := ih
    rw [trs_s]
    generalize trs j (b + 1) (trn f b) 7 = h at i1 i2 i3 i4 ⊢
    refine ⟨fun c c0 c1 => ?_, ⟨i2.1.trans t2.1, fun c c0 c1 => (i2.2.1 c c0 c1).trans (t2.2.1 c c0 c1), fun r r0 r1 => (i2.2.2 r r0 r1).trans (t2.2.2 r r0 r1)⟩, fun c c0 c1 hc => ?_, fun c c0 c1 => ?_⟩
    · rw [i1 c c0 c1, t1 c c0 c1]
      by_cases hc : c = b
      · rw [if_neg (by omega), if_pos hc, if_pos (by omega), hc]
      · simp only [if_neg hc]
        by_cases h2 : b + 1 ≤ c ∧ c < b + 1 + (j : Int)
        · rw [if_pos h2, if_pos (by omega)]
        · rw [if_neg h2, if_neg (by omega)]
    · rw [i3 c c0 c1 (by omega), t3 c c0 c1, decide_eq_false (show ¬ c = b by omega)]
      simp
    · by_cases hc : c = b
      · subst hc
        have ho := (hE.2.2.2.2.2.1 c b0 (by omega)).2.2.2.2
        rw [i3 c b0 (by omega) (by omega), t3 c b0 (by omega), show decide (c = c) = true by simp, Bool.true_and]
        have e5 : (decide (f 5 c < 0) || bt (h 7) (f 5 c)) = (decide (f 5 c < 0) || bt (f 7 7) (f 5 c)) := by
          by_cases h5 : f 5 c < 0
          · rw [decide_eq_true h5, Bool.true_or, Bool.true_or]
          · rw [i3 (f 5 c) (by omega) (by omega) (by omega), t3 (f 5 c) (by omega) (by omega), decide_eq_false (show ¬ f 5 c = c by omega)]
            simp
        rw [e5]
      · have := i4 c (by omega) (by omega)
        have eg : gdF (trn f b) c (turnM f b (16 + c)) = gdF f c (f 7 (16 + c)) := by
          rw [t2.2.1 c (by omega) (by omega)]
          unfold trn
          exact gdF_kp hE t2.1 t2.2.2
        rw [this, eg, t1 c (by omega) (by omega), if_neg hc, t3 c (by omega) (by omega), decide_eq_false hc]
        simp
theorem rsA_row : ∀ (j : Nat) (b : Int) (g : Int → Int), 0 ≤ b → b + j ≤ 7 → ∀ i, rsA j b g i = if 16 + b ≤ i ∧ i < 16 + b + j then g i + (if g i < 20 then 1 else 0) else g i
  | 0, b, g, _, _, i => by rw [if_neg (by omega)]; rfl
  | j + 1, b, g, h0, h1, i => by
    show rsA j (b + 1) (sf g (16 + b) (g (16 + b) + if g (16 + b) < 20 then 1 else 0)) i = _
    rw [rsA_row j (b + 1) _ (by omega) (by omega) i]
    unfold sf
    by_cases hi : i = 16 + b
    · rw [if_neg (show ¬ (16 + (b + 1) ≤ i ∧ i < 16 + (b + 1) + (j : Int)) by omega), if_pos hi, if_pos (show 16 + b ≤ i ∧ i < 16 + b + ((j + 1 : Nat) : Int) by omega), hi]
    · simp only [if_neg hi]
      by_cases h2 : 16 + (b + 1) ≤ i ∧ i < 16 + (b + 1) + (j : Int)
      · rw [if_pos h2, if_pos (show 16 + b ≤ i ∧ i < 16 + b + ((j + 1 : Nat) : Int) by omega)]
      · rw [if_neg h2, if_neg (show ¬ (16 + b ≤ i ∧ i < 16 + b + ((j + 1 : Nat) : Int)) by omega)]
theorem pass_row {f : Nat → Int → Int} (hE : OkE f) (hO : OkR f (f 7)) (hC : Clo f (f 7)) (h29 : 0 ≤ f 7 29) : (∀ c, 0 ≤ c → c < f 0 1 → passM f c = (f 7 c + 1) % f 1 c) ∧ passM f 8 = f 7 8 ∧ (∀ r, 0 ≤ r → r < 6 → passM f (23 + r) = f 7 (23 + r)) ∧ (∀ c, 0 ≤ c → c < f 0 1 → passM f (16 + c) = if (f 7 29 + 1) % f 0 0 = 0 then f 7 (16 + c) + (if f 7 (16 + c) < 20 then 1 else 0) else f 7 (16 + c)) ∧ (∀ c, 0 ≤ c → c < f 0 1 → bt (passM f 7) c = (bt (f 7 7) c || (decide ((f 7 c + 1) % f 1 c = f 2 c) && (gdF f c (f 7 (16 + c)) && (decide (f 5 c < 0) || bt (passM f 7) (f 5 c)))))) := by
  have hB := hE.2.1
  obtain ⟨t1, t2, -, t4⟩ := trs_row (f 0 1).toNat 0 f hE hO (by omega) (by omega)
  have tc := (trs_clo (f 0 1).toNat 0 f hE hO hC (by omega) (by omega)).2
  have hk := rsl_keep (each := f 0 0) (f 0 1).toNat 0 (barM (nodM (trs (f 0 1).toNat 0 f 7) (cms (f 0 1).toNat 0 f))) (by omega) (by omega)
  have e7 : passM f 7 = trs (f 0 1).toNat 0 f 7 7 := hk.1
  have er : ∀ i, passM f i = if ((f 7 29 + 1).tmod (f 0 0) = 0 ∧ 16 ≤ i ∧ i < 16 + f 0 1) then trs (f 0 1).toNat 0 f 7 i + (if trs (f 0 1).toNat 0 f 7 i < 20 then 1 else 0) else barM (nodM (trs (f 0 1).toNat 0 f 7) (cms (f 0 1).toNat 0 f)) i := by
    intro i
    unfold passM
    rw [rsl_eq _ _ _ (by omega) (by omega)]
    have e29 : barM (nodM (trs (f 0 1).toNat 0 f 7) (cms (f 0 1).toNat 0 f)) 29 = f 7 29 + 1 := by rw [← tc]; rfl
    rw [e29]
    by_cases h1 : (f 7 29 + 1).tmod (f 0 0) = 0
    · rw [if_pos h1, rsA_row _ _ _ (by omega) (by omega)]
      by_cases h2 : 16 ≤ i ∧ i < 16 + f 0 1
      · rw [if_pos (show 16 + (0 : Int) ≤ i ∧ i < 16 + 0 + ((f 0 1).toNat : Int) by omega), if_pos (show (f 7 29 + 1).tmod (f 0 0) = 0 ∧ 16 ≤ i ∧ i < 16 + f 0 1 from ⟨h1, h2⟩)]
        have : barM (nodM (trs (f 0 1).toNat 0 f 7) (cms (f 0 1).toNat 0 f)) i = trs (f 0 1).toNat 0 f 7 i := by
          unfold barM nodM sf
          rw [if_neg (by omega), if_neg (by omega)]
        rw [this]
      · rw [if_neg (show ¬ (16 + (0 : Int) ≤ i ∧ i < 16 + 0 + ((f 0 1).toNat : Int)) by omega), if_neg (show ¬ ((f 7 29 + 1).tmod (f 0 0) = 0 ∧ 16 ≤ i ∧ i < 16 + f 0 1) from fun q => h2 q.2)]
    · rw [if_neg h1, if_neg (show ¬ ((f 7 29 + 1).tmod (f 0 0) = 0 ∧ 16 ≤ i ∧ i < 16 + f 0 1) from fun q => h1 q.1)]
  have en : ∀ i, ¬ (16 ≤ i ∧ i < 23) → i ≠ 29 → i ≠ 30 → passM f i = trs (f 0 1).toNat 0 f 7 i := by
    intro i h1 h2 h3
    rw [er i, if_neg (by omega)]
    unfold barM nodM sf
    rw [if_neg h2, if_neg h3]
  refine ⟨fun c c0 c1 => ?_, ?_, fun r r0 r1 => ?_, fun c c0 c1 => ?_, fun c c0 c1 => ?_⟩
  · have hg := (hO.1 c c0 c1).1
    rw [en c (by omega) (by omega) (by omega), t1 c c0 (by omega), if_pos (by omega), Int.tmod_eq_emod_of_nonneg (by omega)]
  · rw [en 8 (by omega) (by omega) (by omega)]; exact t2.1
  · rw [en (23 + r) (by omega) (by omega) (by omega)]; exact t2.2.2 r r0 r1
  · have hk2 := t2.2.1 c c0 (by omega)
    rw [er, hk2, Int.tmod_eq_emod_of_nonneg (by omega)]
    by_cases h1 : (f 7 29 + 1) % f 0 0 = 0
    · rw [if_pos ⟨h1, by omega, by omega⟩, if_pos h1]
    · rw [if_neg (fun q => h1 q.1), if_neg h1]
      unfold barM nodM sf
      rw [if_neg (by omega), if_neg (by omega), hk2]
  · have hg := (hO.1 c c0 c1).1
    have := t4 c (by omega) (by omega)
    rw [Int.tmod_eq_emod_of_nonneg (by omega)] at this
    rw [e7]
    exact this
theorem pasN_s : ∀ (j : Nat) (f : Nat → Int → Int), pasN (j + 1) f = rp (pasN j f) 7 (passM (pasN j f))
  | 0, f => rfl
  | j + 1, f => pasN_s j (rp f 7 (passM f))
/-- behind n bars -/
theorem pas_row {f : Nat → Int → Int} (hE : OkE f) (hO : OkR f (f 7)) (hC : Clo f (f 7)) (h29 : 0 ≤ f 7 29) (hB0 : 0 < f 0 1) : ∀ n : Nat, (∀ c, 0 ≤ c → c < f 0 1 → pasN n f 7 c = (f 7 c + n) % f 1 c) ∧ pasN n f 7 8 = f 7 8 ∧ (∀ r, 0 ≤ r → r < 6 → pasN n f 7 (23 + r) = f 7 (23 + r)) ∧ (∀ c, 0 ≤ c → c < f 0 1 → pasN n f 7 (16 + c) = rn (f 7 29) (f 0 0) (f 7 (16 + c)) n) := by
  have hr := hE.2.2.2.1 hB0
  intro n
  induction n with
  | zero =>
    refine ⟨fun c c0 c1 => ?_, rfl, fun _ _ _ => rfl, fun c c0 c1 => ?_⟩
    · have hg := (hO.1 c c0 c1).1
      show f 7 c = (f 7 c + 0) % f 1 c
      rw [Int.add_zero, Int.emod_eq_of_lt (by omega) (by omega)]
    · have hg := (hO.1 c c0 c1).2.2
      show f 7 (16 + c) = rn (f 7 29) (f 0 0) (f 7 (16 + c)) 0
      exact (rn_0 (show f 7 (16 + c) ≤ 20 by omega)).symm
  | succ n ih =>
    obtain ⟨p1, p2, p3, p4⟩ := pasN_ok n f hE hO hC
    obtain ⟨i1, i2, i3, i4⟩ := ih
    rw [pasN_s, rp_k]
    rw [← p1]
    generalize pasN n f 7 = G at p1 p2 p3 p4 i1 i2 i3 i4
    have e7 : rp f 7 G 7 = G := rp_k
    obtain ⟨q1, q2, q3, q4, -⟩ := pass_row (f := rp f 7 G) (OkE7 hE) (by rw [e7]; exact p2) (by rw [e7]; exact p3) (by rw [e7, p4]; omega)
    rw [e7] at q1 q2 q3 q4
    refine ⟨fun c c0 c1 => ?_, q2.trans i2, fun r r0 r1 => (q3 r r0 r1).trans (i3 r r0 r1), fun c c0 c1 => ?_⟩
    · have := q1 c c0 c1
      rw [i1 c c0 c1] at this
      rw [this]
      show ((f 7 c + (n : Int)) % f 1 c + 1) % f 1 c = (f 7 c + ((n + 1 : Nat) : Int)) % f 1 c
      rw [Int.emod_add_emod]
      congr 1
      omega
    · have := q4 c c0 c1
      rw [i4 c c0 c1, p4] at this
      rw [this]
      show (if (f 7 29 + (n : Int) + 1) % f 0 0 = 0 then _ else _) = rn (f 7 29) (f 0 0) (f 7 (16 + c)) ((n + 1 : Nat) : Int)
      rw [show ((n + 1 : Nat) : Int) = (n : Int) + 1 by omega, rn_s (by omega), Int.add_assoc]
theorem up_row {f : Nat → Int → Int} (hE : OkE f) (hO : OkR f (f 7)) (hC : Clo f (f 7)) (h29 : 0 ≤ f 7 29) (n : Nat) (c : Int) (c0 : 0 ≤ c) (c1 : c < f 0 1) : bt (pasN (n + 1) f 7 7) c = (bt (pasN n f 7 7) c || (catz f c (f 7 c + (n + 1 : Nat)) && (gdF f c (rn (f 7 29) (f 0 0) (f 7 (16 + c)) n) && (decide (f 5 c < 0) || bt (pasN (n + 1) f 7 7) (f 5 c))))) := by
  obtain ⟨p1, p2, p3, p4⟩ := pasN_ok n f hE hO hC
  obtain ⟨i1, i2, i3, i4⟩ := pas_row hE hO hC h29 (by omega) n
  have hg := (hO.1 c c0 c1).1
  rw [pasN_s, rp_k]
  rw [← p1]
  rw [show rp f 7 (pasN n f 7) 7 = pasN n f 7 from rp_k]
  generalize pasN n f 7 = G at p1 p2 p3 p4 i1 i2 i3 i4
  have e7 : rp f 7 G 7 = G := rp_k
  obtain ⟨-, -, -, -, q5⟩ := pass_row (f := rp f 7 G) (OkE7 hE) (by rw [e7]; exact p2) (by rw [e7]; exact p3) (by rw [e7, p4]; omega)
  rw [e7] at q5
  have := q5 c c0 c1
  rw [i1 c c0 c1, i4 c c0 c1, gdF_kp hE i2 i3] at this
  have ec : decide ((((f 7 c + (n : Int)) % rp f 7 G 1 c) + 1) % rp f 7 G 1 c = rp f 7 G 2 c) = catz f c (f 7 c + (n + 1 : Nat)) := by
    show decide (((f 7 c + (n : Int)) % f 1 c + 1) % f 1 c = f 2 c) = decide ((f 7 c + ((n + 1 : Nat) : Int)).tmod (f 1 c) = f 2 c)
    rw [Int.emod_add_emod, Int.tmod_eq_emod_of_nonneg (by omega), show f 7 c + (n : Int) + 1 = f 7 c + ((n + 1 : Nat) : Int) by omega]
  rw [show f 1 c = rp f 7 G 1 c from rfl, ec] at this
  exact this
