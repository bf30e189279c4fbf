/-! the first bar at which an heir is up, as the class reckons it -/
theorem rn_mono {B E R n m : Int} (hE : 0 < E) (h : n ≤ m) : rn B E R n ≤ rn B E R m := by
  have := Int.ediv_le_ediv hE (show B + n ≤ B + m by omega)
  unfold rn
  split <;> split <;> omega
theorem frc_anti {sp kd dp r r' : Int} {dm : Bool} (h0 : 0 ≤ r) (h : r ≤ r') : frc sp kd dp dm r' ≤ frc sp kd dp dm r := by
  have : lessP kd dp dm r ≤ lessP kd dp dm r' := by
    unfold lessP
    rw [Int.tdiv_eq_ediv_of_nonneg h0, Int.tdiv_eq_ediv_of_nonneg (show 0 ≤ r' by omega)]
    repeat' split
    all_goals omega
  unfold frc
  split <;> split <;> omega
theorem gdF_anti {f : Nat → Int → Int} {b r r' : Int} (h0 : 0 ≤ r) (h : r ≤ r') (hg : gdF f b r = false) : gdF f b r' = false := by
  have e : frcM f b r' ≤ frcM f b r := frc_anti h0 h
  unfold gdF at hg ⊢
  rw [decide_eq_false_iff_not] at hg ⊢
  omega
theorem fst_core {U ct gd : Nat → Bool} {gone N : Nat} (h0 : ∀ n, n ≤ gone → U n = false) (hs : ∀ n, gone ≤ n → U (n + 1) = (U n || (ct (n + 1) && gd n))) (hN : 1 ≤ N) (hc : ct (gone + N) = true) (hc2 : ∀ m, 1 ≤ m → m < N → ct (gone + m) = false) (hg : ∀ n k, n ≤ k → gd n = false → gd k = false) : (gd (gone + N - 1) = true → U (gone + N) = true ∧ ∀ n, n < gone + N → U n = false) ∧ (gd (gone + N - 1) = false → ∀ n, U n = false) := by
  have A : ∀ m, m < N → U (gone + m) = false := by
    intro m
    induction m with
    | zero => exact fun _ => h0 _ (by omega)
    | succ m ih =>
      intro hm
      have := hs (gone + m) (by omega)
      rw [ih (by omega), show gone + m + 1 = gone + (m + 1) by omega, hc2 (m + 1) (by omega) hm] at this
      rw [this]
      rfl
  have B : ∀ n, n < gone + N → U n = false := by
    intro n hn
    by_cases h : n ≤ gone
    · exact h0 n h
    · have := A (n - gone) (by omega)
      rw [show gone + (n - gone) = n by omega] at this
      exact this
  refine ⟨fun h => ⟨?_, B⟩, fun h n => ?_⟩
  · have := hs (gone + N - 1) (by omega)
    rw [show gone + N - 1 + 1 = gone + N by omega, hc, h] at this
    rw [this]
    simp
  · by_cases hn : n < gone + N
    · exact B n hn
    · obtain ⟨k, hk⟩ : ∃ k, n = gone + N - 1 + k := ⟨n - (gone + N - 1), by omega⟩
      rw [hk]
      clear hk hn
      induction k with
      | zero => exact B _ (by omega)
      | succ k ih =>
        have := hs (gone + N - 1 + k) (by omega)
        rw [ih, hg _ _ (by omega) h] at this
        rw [show gone + N - 1 + (k + 1) = gone + N - 1 + k + 1 by omega, this]
        simp
def Fst (U : Nat → Bool) (v : Int) : Prop := (v = -1 ∧ ∀ n, U n = false) ∨ (0 ≤ v ∧ U v.toNat = true ∧ ∀ n, n < v.toNat → U n = false)
def gon (f : Nat → Int → Int) (B : Int → Int) (b : Int) : Int := if f 5 b = -1 then 0 else if B (f 5 b) - 1 < 0 then 0 else B (f 5 b) - 1
def wen (f : Nat → Int → Int) (B : Int → Int) (b : Int) : Int := gon f B b + nxz f b (f 7 b + gon f B b)
def fup (f : Nat → Int → Int) (B : Int → Int) (b : Int) : Int := if bt (f 7 7) b = true then 0 else if f 5 b ≠ -1 ∧ B (f 5 b) = -1 then -1 else if gdF f b (rn (f 7 29) (f 0 0) (f 7 (16 + b)) (wen f B b - 1)) = true then wen f B b else -1
theorem up_mono {f : Nat → Int → Int} (hE : OkE f) (hO : OkR f (f 7)) (hC : Clo f (f 7)) (h29 : 0 ≤ f 7 29) {c : Int} (c0 : 0 ≤ c) (c1 : c < f 0 1) {n m : Nat} (h : bt (pasN n f 7 7) c = true) (hm : n ≤ m) : bt (pasN m f 7 7) c = true := by
  induction hm with
  | refl => exact h
  | step _ ih =>
    rw [up_row hE hO hC h29 _ c c0 c1, ih]
    rfl
theorem fup_spec {f : Nat → Int → Int} {B : Int → Int} {b : Int} (hE : OkE f) (hO : OkR f (f 7)) (hC : Clo f (f 7)) (h29 : 0 ≤ f 7 29) (b0 : 0 ≤ b) (b1 : b < f 0 1) (hB : 0 ≤ f 5 b → Fst (fun n => bt (pasN n f 7 7) (f 5 b)) (B (f 5 b)) ∧ B (f 5 b) ≤ 60 * (f 5 b + 1)) : Fst (fun n => bt (pasN n f 7 7) b) (fup f B b) ∧ fup f B b ≤ 60 * (b + 1) := by
  have tb := hE.2.2.2.2.2.1 b b0 b1
  have gb := hO.1 b b0 b1
  have hr := hE.2.2.2.1 (by omega)
  have ur := fun n => up_row hE hO hC h29 n b b0 b1
  unfold fup
  by_cases hu : bt (f 7 7) b = true
  · rw [if_pos hu]
    exact ⟨Or.inr ⟨by omega, hu, fun n hn => by simp at hn⟩, by omega⟩
  · rw [if_neg hu]
    have hu : bt (f 7 7) b = false := by simpa using hu
    by_cases ho : f 5 b ≠ -1 ∧ B (f 5 b) = -1
    · rw [if_pos ho]
      have hq := (hB (by omega)).1
      have hz : ∀ n, bt (pasN n f 7 7) (f 5 b) = false := by
        rcases hq with hq | hq
        · exact hq.2
        · omega
      refine ⟨Or.inl ⟨rfl, fun n => ?_⟩, by omega⟩
      show bt (pasN n f 7 7) b = false
      induction n with
      | zero => exact hu
      | succ n ih =>
        rw [ur, ih, hz, decide_eq_false (show ¬ f 5 b < 0 by omega)]
        simp
    · rw [if_neg ho]
      unfold wen
      obtain ⟨G, hG⟩ : ∃ G, gon f B b = G := ⟨_, rfl⟩
      have hGa : f 5 b = -1 → G = 0 := by
        intro h
        rw [← hG]
        unfold gon
        rw [if_pos h]
      have hGb : f 5 b ≠ -1 → (G = B (f 5 b) - 1 ∧ 0 ≤ G) ∨ (G = 0 ∧ B (f 5 b) - 1 < 0) := by
        intro h
        rw [← hG]
        unfold gon
        rw [if_neg h]
        split
        · exact Or.inr ⟨rfl, by omega⟩
        · exact Or.inl ⟨rfl, by omega⟩
      rw [hG]
      have hB2 : f 5 b ≠ -1 → B (f 5 b) ≤ 60 * (f 5 b + 1) ∧ 0 ≤ B (f 5 b) ∧ bt (pasN (B (f 5 b)).toNat f 7 7) (f 5 b) = true ∧ ∀ n, n < (B (f 5 b)).toNat → bt (pasN n f 7 7) (f 5 b) = false := by
        intro h
        obtain ⟨q1, q2⟩ := hB (by omega)
        rcases q1 with q | q
        · exact absurd ⟨h, q.1⟩ ho
        · exact ⟨q2, q⟩
      have hg0 : 0 ≤ G ∧ G ≤ 60 * b := by
        by_cases h : f 5 b = -1
        · have := hGa h
          omega
        · have h1 := hGb h
          have h2 := hB2 h
          omega
      have sp := nxz_spec hE b0 b1 (z := f 7 b + G) (by omega)
      generalize nxz f b (f 7 b + G) = N at sp ⊢
      have hU0 : ∀ n : Nat, n ≤ G.toNat → bt (pasN n f 7 7) b = false := by
        intro n
        induction n with
        | zero => exact fun _ => hu
        | succ n ih =>
          intro hn
          have h5 : f 5 b ≠ -1 := by
            intro h
            have := hGa h
            omega
          have h1 := hGb h5
          have h2 := hB2 h5
          rw [ur, ih (by omega), h2.2.2.2 (n + 1) (by omega), decide_eq_false (show ¬ f 5 b < 0 by omega)]
          simp
      have hUs : ∀ n : Nat, G.toNat ≤ n → bt (pasN (n + 1) f 7 7) b = (bt (pasN n f 7 7) b || (catz f b (f 7 b + ((n + 1 : Nat) : Int)) && gdF f b (rn (f 7 29) (f 0 0) (f 7 (16 + b)) (n : Int)))) := by
        intro n hn
        have : (decide (f 5 b < 0) || bt (pasN (n + 1) f 7 7) (f 5 b)) = true := by
          by_cases h5 : f 5 b = -1
          · rw [decide_eq_true (show f 5 b < 0 by omega)]
            rfl
          · have h1 := hGb h5
            have h2 := hB2 h5
            rw [up_mono hE hO hC h29 (by omega) (by omega) h2.2.2.1 (show (B (f 5 b)).toNat ≤ n + 1 by omega)]
            simp
        rw [ur, this, Bool.and_true]
      have core := fst_core (U := fun n => bt (pasN n f 7 7) b) (ct := fun n => catz f b (f 7 b + (n : Int))) (gd := fun n => gdF f b (rn (f 7 29) (f 0 0) (f 7 (16 + b)) (n : Int))) (gone := G.toNat) (N := N.toNat) hU0 hUs (by omega) (by
        show catz f b (f 7 b + ((G.toNat + N.toNat : Nat) : Int)) = true
        rw [show f 7 b + ((G.toNat + N.toNat : Nat) : Int) = f 7 b + G + N by omega]
        exact sp.2.1) (fun m m1 m2 => by
        show catz f b (f 7 b + ((G.toNat + m : Nat) : Int)) = false
        rw [show f 7 b + ((G.toNat + m : Nat) : Int) = f 7 b + G + (m : Int) by omega]
        exact sp.2.2 m (by omega) (by omega)) (fun n k nk h => by
        have b1 := rn_bd (B := f 7 29) (E := f 0 0) (R := f 7 (16 + b)) (n := (n : Int)) (by omega) (by omega) (by omega)
        exact gdF_anti (by omega) (rn_mono (by omega) (by omega)) h)
      have eg : ((G.toNat + N.toNat - 1 : Nat) : Int) = G + N - 1 := by omega
      have en : (G + N).toNat = G.toNat + N.toNat := by omega
      have core : (gdF f b (rn (f 7 29) (f 0 0) (f 7 (16 + b)) ((G.toNat + N.toNat - 1 : Nat) : Int)) = true → bt (pasN (G.toNat + N.toNat) f 7 7) b = true ∧ ∀ n, n < G.toNat + N.toNat → bt (pasN n f 7 7) b = false) ∧ (gdF f b (rn (f 7 29) (f 0 0) (f 7 (16 + b)) ((G.toNat + N.toNat - 1 : Nat) : Int)) = false → ∀ n, bt (pasN n f 7 7) b = false) := core
      rw [eg, ← en] at core
      by_cases hgd : gdF f b (rn (f 7 29) (f 0 0) (f 7 (16 + b)) (G + N - 1)) = true
      · rw [if_pos hgd]
        exact ⟨Or.inr ⟨by omega, core.1 hgd⟩, by omega⟩
      · rw [if_neg hgd]
        exact ⟨Or.inl ⟨rfl, core.2 (by simpa using hgd)⟩, by omega⟩
theorem Fst_bd {U : Nat → Bool} {v : Int} (h : Fst U v) : -1 ≤ v := by
  rcases h with h | h <;> omega
/-- the very bar at which an heir comes up -/
theorem Fst_at {U : Nat → Bool} {v : Int} (h : Fst U v) (hm : ∀ n m, U n = true → n ≤ m → U m = true) (k : Nat) : (U (k + 1) = true ∧ U k = false) ↔ v = (k : Int) + 1 := by
  rcases h with ⟨h1, h2⟩ | ⟨h1, h2, h3⟩
  · rw [h2 (k + 1)]
    constructor
    · rintro ⟨q, -⟩
      cases q
    · intro q
      omega
  · constructor
    · rintro ⟨q1, q2⟩
      have a1 : ¬ k + 1 < v.toNat := fun q => by rw [h3 _ q] at q1; cases q1
      have a2 : ¬ v.toNat ≤ k := fun q => by rw [hm _ _ h2 q] at q2; cases q2
      omega
    · intro q
      have e : v.toNat = k + 1 := by omega
      rw [e] at h2 h3
      exact ⟨h2, h3 k (by omega)⟩
