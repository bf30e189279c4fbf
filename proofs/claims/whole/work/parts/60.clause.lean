/-! clauses: what they say, and how the class reads them -/
abbrev Oc : Type := (Int × Int) ⊕ ((Nat → Int → Int) × Int)
def closeP (T : Int → Int) (n : Int) (D : Nat → Int → Int) (p : Int) : Oc := if sk T n p < n ∧ T (sk T n p) = 59 then .inr (D, sk T n p + 1) else .inl (1, sk T n p)
def addb (D : Nat → Int → Int) (t h s k : Int) : Nat → Int → Int := up (up (up (up (up (up D 1 (D 0 1) t) 2 (D 0 1) h) 3 (D 0 1) s) 4 (D 0 1) k) 5 (D 0 1) (-1)) 0 1 (D 0 1 + 1)
def addi (D : Nat → Int → Int) (a b : Int) : Nat → Int → Int := up (up D 5 b a) 0 7 (D 0 7 + 1)
def addr (D : Nat → Int → Int) (v : Int) : Nat → Int → Int := up (up D 6 (D 0 8) v) 0 8 (D 0 8 + 1)
def clD (T : Int → Int) (n : Int) (D : Nat → Int → Int) (p : Int) : Oc := match rdN T n 1 99 (p + 1) with
  | .inl x => .inl x
  | .inr (v, _, e) => closeP T n (up D 0 0 v) e
def clB4 (T : Int → Int) (n : Int) (D : Nat → Int → Int) (t h s p : Int) : Oc := match rdN T n 0 4 p with
  | .inl x => .inl x
  | .inr (k, _, e) => closeP T n (addb D t h s k) e
def clB3 (T : Int → Int) (n : Int) (D : Nat → Int → Int) (t h p : Int) : Oc := match rdN T n 1 20 p with
  | .inl x => .inl x
  | .inr (s, _, e) => clB4 T n D t h s e
def clB2 (T : Int → Int) (n : Int) (D : Nat → Int → Int) (t p : Int) : Oc := match rdN T n 0 (t - 1) p with
  | .inl x => .inl x
  | .inr (h, _, e) => clB3 T n D t h e
def clB (T : Int → Int) (n : Int) (D : Nat → Int → Int) (p : Int) : Oc := match rdN T n 2 60 (p + 1) with
  | .inl x => .inl x
  | .inr (t, _, e) => clB2 T n D t e
def clI2 (T : Int → Int) (n : Int) (D : Nat → Int → Int) (a p : Int) : Oc := match rdN T n 0 (D 0 1 - 1) p with
  | .inl x => .inl x
  | .inr (b, q, e) => if b ≤ a ∨ D 5 b ≠ -1 then .inl (4, q) else closeP T n (addi D a b) e
def clI (T : Int → Int) (n : Int) (D : Nat → Int → Int) (p : Int) : Oc := match rdN T n 0 (D 0 1 - 1) (p + 1) with
  | .inl x => .inl x
  | .inr (a, _, e) => clI2 T n D a e
def clR (T : Int → Int) (n : Int) (D : Nat → Int → Int) (p : Int) : Oc := match rdN T n 1 30 (p + 1) with
  | .inl x => .inl x
  | .inr (v, _, e) => closeP T n (addr D v) e
def cl (T : Int → Int) (n : Int) (D : Nat → Int → Int) (p : Int) : Oc := if T p = 100 then (if 0 < D 0 0 then .inl (3, p) else clD T n D p) else if D 0 0 = 0 then .inl (1, p) else if T p = 98 then (if D 0 1 = 7 then .inl (3, p) else clB T n D p) else if T p = 105 then (if D 0 7 = 6 then .inl (3, p) else clI T n D p) else if T p = 114 then (if D 0 8 = 6 then .inl (3, p) else clR T n D p) else .inl (1, p)
def OkD (D : Nat → Int → Int) : Prop := OkE D ∧ 0 ≤ D 0 7 ∧ D 0 7 ≤ 6
def DC (C D : Nat → Int → Int) : Prop := C 2 0 = D 0 0 ∧ C 2 1 = D 0 1 ∧ C 2 2 = D 0 8 ∧ C 1 7 = D 0 7 ∧ (∀ b, 0 ≤ b → b < D 0 1 → C 3 b = D 1 b ∧ C 4 b = D 2 b ∧ C 5 b = D 3 b ∧ C 6 b = D 4 b ∧ C 7 b = D 5 b) ∧ (∀ r, 0 ≤ r → r < D 0 8 → C 8 r = D 6 r)
def FC (C' C : Nat → Int → Int) : Prop := C' 1 2 = C 1 2 ∧ ∀ k, ¬ (1 ≤ k ∧ k ≤ 8) → C' k = C k
theorem FC_1 {C : Nat → Int → Int} {c : Int → Int} (h : RC c (C 1)) : FC (rp C 1 c) C := ⟨h.1, fun k hk => rp_ne (by omega)⟩
theorem FC_up {C C' : Nat → Int → Int} {k : Nat} {i v : Int} (h : FC C' C) (h1 : 2 ≤ k) (h2 : k ≤ 8) : FC (up C' k i v) C := by
  rw [up_to]
  refine ⟨?_, fun k' hk => ?_⟩
  · rw [rp_ne (by omega)]; exact h.1
  · rw [rp_ne (by omega)]; exact h.2 k' hk
theorem FC_up1 {C C' : Nat → Int → Int} {i v : Int} (h : FC C' C) (h1 : i ≠ 2) : FC (up C' 1 i v) C := by
  rw [up_to]
  refine ⟨?_, fun k' hk => ?_⟩
  · rw [rp_k]; unfold sf; rw [if_neg (Ne.symm h1)]; exact h.1
  · rw [rp_ne (by omega)]; exact h.2 k' hk
theorem TX_1 {C : Nat → Int → Int} {T c : Int → Int} {n : Int} (h : TX C T n) (hc : RC c (C 1)) : TX (rp C 1 c) T n := ⟨⟨hc.1.trans h.1.1, h.1.2⟩, h.2⟩
theorem DC_1 {C D : Nat → Int → Int} {c : Int → Int} (h : DC C D) (hc : RC c (C 1)) : DC (rp C 1 c) D := ⟨h.1, h.2.1, h.2.2.1, hc.2.trans h.2.2.2.1, h.2.2.2.2⟩
theorem closeP_ok {T : Int → Int} {n p : Int} {D D' : Nat → Int → Int} {p' : Int} (hp : p ≤ n) (h : closeP T n D p = .inr (D', p')) : D' = D ∧ p < p' ∧ p' ≤ n := by
  have hs := sk_bd (T := T) hp
  unfold closeP at h
  split at h
  · have := Sum.inr.inj h; cases this; exact ⟨rfl, by omega, by omega⟩
  · cases h
theorem closeP_bad {T : Int → Int} {n p k q : Int} {D : Nat → Int → Int} (hp : p ≤ n) (h : closeP T n D p = .inl (k, q)) : (1 ≤ k ∧ k ≤ 4) ∧ p ≤ q ∧ q ≤ n := by
  have hs := sk_bd (T := T) hp
  unfold closeP at h
  split at h
  · cases h
  · have := Sum.inl.inj h; cases this; omega
theorem OkD_rust {D : Nat → Int → Int} {v : Int} (h : OkD D) (hv : 1 ≤ v ∧ v ≤ 99) : OkD (up D 0 0 v) := by
  obtain ⟨⟨a1, a2, a3, a4, a5, a6, a7⟩, b⟩ := h
  refine ⟨⟨?_, a2, a3, fun _ => ?_, fun _ => ?_, a6, a7⟩, b⟩
  · show 0 ≤ v ∧ v ≤ 99; omega
  · show 1 ≤ v; omega
  · show 1 ≤ v; omega
theorem OkD_box {D : Nat → Int → Int} {t h s k : Int} (hD : OkD D) (hb : D 0 1 ≠ 7) (hr : D 0 0 ≠ 0) (ht : 2 ≤ t ∧ t ≤ 60) (hh : 0 ≤ h ∧ h < t) (hs : 1 ≤ s ∧ s ≤ 20) (hk : 0 ≤ k ∧ k ≤ 4) : OkD (addb D t h s k) := by
  obtain ⟨⟨a1, a2, a3, a4, a5, a6, a7⟩, b⟩ := hD
  refine ⟨⟨a1, ?_, a3, fun _ => ?_, a5, fun c c0 c1 => ?_, a7⟩, b⟩
  · show 0 ≤ D 0 1 + 1 ∧ D 0 1 + 1 ≤ 7; omega
  · show 1 ≤ D 0 0; omega
  · have c1 : c < D 0 1 + 1 := c1
    show (2 ≤ (if c = D 0 1 then t else D 1 c) ∧ (if c = D 0 1 then t else D 1 c) ≤ 60) ∧ (0 ≤ (if c = D 0 1 then h else D 2 c) ∧ (if c = D 0 1 then h else D 2 c) < (if c = D 0 1 then t else D 1 c)) ∧ (1 ≤ (if c = D 0 1 then s else D 3 c) ∧ (if c = D 0 1 then s else D 3 c) ≤ 20) ∧ (0 ≤ (if c = D 0 1 then k else D 4 c) ∧ (if c = D 0 1 then k else D 4 c) ≤ 4) ∧ (-1 ≤ (if c = D 0 1 then -1 else D 5 c) ∧ (if c = D 0 1 then -1 else D 5 c) < c)
    by_cases hc : c = D 0 1
    · simp only [if_pos hc]
      omega
    · simp only [if_neg hc]
      exact a6 c c0 (by omega)
theorem OkD_ins {D : Nat → Int → Int} {a b : Int} (hD : OkD D) (hi : D 0 7 ≠ 6) (ha : 0 ≤ a) (hab : a < b) : OkD (addi D a b) := by
  obtain ⟨⟨a1, a2, a3, a4, a5, a6, a7⟩, b'⟩ := hD
  refine ⟨⟨a1, a2, a3, a4, a5, fun c c0 c1 => ?_, a7⟩, ?_⟩
  · have hc := a6 c c0 c1
    refine ⟨hc.1, hc.2.1, hc.2.2.1, hc.2.2.2.1, ?_⟩
    show -1 ≤ (if c = b then a else D 5 c) ∧ (if c = b then a else D 5 c) < c
    split <;> omega
  · show 0 ≤ D 0 7 + 1 ∧ D 0 7 + 1 ≤ 6; omega
theorem OkD_reg {D : Nat → Int → Int} {v : Int} (hD : OkD D) (hb : D 0 8 ≠ 6) (hr : D 0 0 ≠ 0) (hv : 1 ≤ v ∧ v ≤ 30) : OkD (addr D v) := by
  obtain ⟨⟨a1, a2, a3, a4, a5, a6, a7⟩, b⟩ := hD
  refine ⟨⟨a1, a2, ?_, a4, fun _ => ?_, a6, fun r r0 r1 => ?_⟩, b⟩
  · show 0 ≤ D 0 8 + 1 ∧ D 0 8 + 1 ≤ 6; omega
  · show 1 ≤ D 0 0; omega
  · have r1 : r < D 0 8 + 1 := r1
    show 1 ≤ (if r = D 0 8 then v else D 6 r) ∧ (if r = D 0 8 then v else D 6 r) ≤ 30
    by_cases hc : r = D 0 8
    · simp only [if_pos hc]; omega
    · simp only [if_neg hc]; exact a7 r r0 (by omega)
/-- what a clause comes to keeps the bounds, and goes on -/
def Ocl (n p : Int) (o : Oc) : Prop := (∀ k q, o = .inl (k, q) → (1 ≤ k ∧ k ≤ 4) ∧ 0 ≤ q ∧ q ≤ n) ∧ (∀ D' p', o = .inr (D', p') → OkD D' ∧ p < p' ∧ p' ≤ n)
theorem Ocl_inl {n p k q : Int} (h : (1 ≤ k ∧ k ≤ 4) ∧ 0 ≤ q ∧ q ≤ n) : Ocl n p (.inl (k, q)) := ⟨fun k' q' e => by have := Sum.inl.inj e; cases this; exact h, fun D' p' e => by cases e⟩
theorem Ocl_close {T : Int → Int} {n p e : Int} {D : Nat → Int → Int} (hD : OkD D) (h0 : 0 ≤ p) (h1 : p ≤ e) (h2 : e ≤ n) : Ocl n p (closeP T n D e) := ⟨fun k q h => by have := closeP_bad h2 h; omega, fun D' p' h => by
  have := closeP_ok h2 h
  exact ⟨by rw [this.1]; exact hD, by omega, this.2.2⟩⟩
theorem cl_ok {T : Int → Int} {n p : Int} {D : Nat → Int → Int} (hD : OkD D) (p0 : 0 ≤ p) (p1 : p < n) : Ocl n p (cl T n D p) := by
  have h00 := hD.1.1
  have h01 := hD.1.2.1
  unfold cl
  split
  · split
    · exact Ocl_inl (by omega)
    · unfold clD
      cases h : rdN T n 1 99 (p + 1) with
      | inl x => obtain ⟨k, q⟩ := x; have := rdN_bad (by omega) h; exact Ocl_inl (by omega)
      | inr x =>
        obtain ⟨v, q, e⟩ := x
        have := rdN_ok (by omega) h
        exact Ocl_close (OkD_rust hD (by omega)) p0 (by omega) (by omega)
  · split
    · exact Ocl_inl (by omega)
    · split
      · split
        · exact Ocl_inl (by omega)
        · unfold clB
          cases h : rdN T n 2 60 (p + 1) with
          | inl x => obtain ⟨k, q⟩ := x; have := rdN_bad (by omega) h; exact Ocl_inl (by omega)
          | inr x =>
            obtain ⟨t, q, e⟩ := x
            have b1 := rdN_ok (by omega) h
            show Ocl n p (clB2 T n D t e)
            unfold clB2
            cases h : rdN T n 0 (t - 1) e with
            | inl x => obtain ⟨k, q⟩ := x; have := rdN_bad (by omega) h; exact Ocl_inl (by omega)
            | inr x =>
              obtain ⟨hk, q2, e2⟩ := x
              have b2 := rdN_ok (by omega) h
              show Ocl n p (clB3 T n D t hk e2)
              unfold clB3
              cases h : rdN T n 1 20 e2 with
              | inl x => obtain ⟨k, q⟩ := x; have := rdN_bad (by omega) h; exact Ocl_inl (by omega)
              | inr x =>
                obtain ⟨s, q3, e3⟩ := x
                have b3 := rdN_ok (by omega) h
                show Ocl n p (clB4 T n D t hk s e3)
                unfold clB4
                cases h : rdN T n 0 4 e3 with
                | inl x => obtain ⟨k, q⟩ := x; have := rdN_bad (by omega) h; exact Ocl_inl (by omega)
                | inr x =>
                  obtain ⟨k, q4, e4⟩ := x
                  have b4 := rdN_ok (by omega) h
                  exact Ocl_close (OkD_box hD (by assumption) (by assumption) (by omega) (by omega) (by omega) (by omega)) p0 (by omega) (by omega)
      · split
        · split
          · exact Ocl_inl (by omega)
          · unfold clI
            cases h : rdN T n 0 (D 0 1 - 1) (p + 1) with
            | inl x => obtain ⟨k, q⟩ := x; have := rdN_bad (by omega) h; exact Ocl_inl (by omega)
            | inr x =>
              obtain ⟨a, q, e⟩ := x
              have b1 := rdN_ok (by omega) h
              show Ocl n p (clI2 T n D a e)
              unfold clI2
              cases h : rdN T n 0 (D 0 1 - 1) e with
              | inl x => obtain ⟨k, q⟩ := x; have := rdN_bad (by omega) h; exact Ocl_inl (by omega)
              | inr x =>
                obtain ⟨b, q2, e2⟩ := x
                have b2 := rdN_ok (by omega) h
                show Ocl n p (if b ≤ a ∨ D 5 b ≠ -1 then .inl (4, q2) else closeP T n (addi D a b) e2)
                split
                · exact Ocl_inl (by omega)
                · exact Ocl_close (OkD_ins hD (by assumption) (by omega) (by omega)) p0 (by omega) (by omega)
        · split
          · split
            · exact Ocl_inl (by omega)
            · unfold clR
              cases h : rdN T n 1 30 (p + 1) with
              | inl x => obtain ⟨k, q⟩ := x; have := rdN_bad (by omega) h; exact Ocl_inl (by omega)
              | inr x =>
                obtain ⟨v, q, e⟩ := x
                have := rdN_ok (by omega) h
                exact Ocl_close (OkD_reg hD (by assumption) (by assumption) (by omega)) p0 (by omega) (by omega)
          · exact Ocl_inl (by omega)
/-! the class's clauses -/
def HB (C : Nat → Int → Int) (w : Int → Int) (Q : Qt) (o : Oc) : Prop := ∀ k q, o = .inl (k, q) → ∀ C', FC C' C → C' 1 4 = k → C' 1 3 = q → (0 ≤ C' 1 5 ∧ C' 1 5 ≤ C 1 2) → Q none (C', w)
def HO (C : Nat → Int → Int) (w : Int → Int) (Q : Qt) (o : Oc) : Prop := ∀ D' p', o = .inr (D', p') → ∀ C', FC C' C → DC C' D' → C' 1 4 = 0 → C' 1 3 = C 1 3 → C' 1 5 = p' → Q none (C', w)
/-- the clause's end in the class; K is what is done behind it -/
theorem k_close {l : Launch} {X : Cx} {Q : Qt} {C C1 : Nat → Int → Int} {w T : Int → Int} {n p : Int} {D : Nat → Int → Int} {K : Option Vl → Me → Prop} (hT : TX C1 T n) (h4 : C1 1 4 = 0) (h5 : C1 1 5 = p) (p0 : 0 ≤ p) (p1 : p ≤ n) (hF : FC C1 C) (h3 : C1 1 3 = C 1 3) (hb : HB C w Q (closeP T n D p))
    (k0 : ∀ c, (Q none (rp C1 1 c, w)) → K (some (vI 0)) (rp C1 1 c, w)) (k1 : ∀ c, RC c (C1 1) → c 3 = C 1 3 → c 4 = 0 → c 5 = sk T n p + 1 → closeP T n D p = .inr (D, sk T n p + 1) → K (some (vI 1)) (rp C1 1 c, w)) : TM l X shC 1 mX5_closes [vR 1] (C1, w) K := by
  refine k_closes hT h4 (by rw [h5]; exact p0) (by rw [h5]; exact p1) (fun h c hc c4 c3 c9 => ?_) (fun h c hc c3 c4 c5 => ?_)
  · refine k0 c (hb 1 (sk T n p) (by unfold closeP; rw [h5] at h; rw [if_neg h]) _ ?_ c4 (by show c 3 = _; rw [c3, h5]) (by show 0 ≤ c 5 ∧ c 5 ≤ C 1 2; rw [← hF.1, hT.1.1]; exact c9))
    exact ⟨hc.1.trans hF.1, fun k hk => (rp_ne (by omega)).trans (hF.2 k hk)⟩
  · rw [h5] at h c5
    exact k1 c hc (c3.trans h3) c4 c5 (by unfold closeP; rw [if_pos h])
theorem k_readRust {l : Launch} {X : Cx} {Q : Qt} {C : Nat → Int → Int} {w T : Int → Int} {n p : Int} {D : Nat → Int → Int} (hT : TX C T n) (hD : DC C D) (hO : OkD D) (h4 : C 1 4 = 0) (h5 : C 1 5 = p) (p0 : 0 ≤ p) (p1 : p < n) (hb : HB C w Q (if 0 < D 0 0 then .inl (3, p) else clD T n D p)) (ho : HO C w Q (if 0 < D 0 0 then .inl (3, p) else clD T n D p)) : TM l X shC 2 mX5_readRust [vR 1] (C, w) Q := by
  have e0 := hD.1
  have h00 := hO.1.1
  refine EX5_readRust rfl ?_
  (first | refine BX5_readRust_0 ?_ | refine BX5_readRust_8 ?_ | refine BX5_readRust_11 ?_ | refine BX5_readRust_21 ?_ | refine BX5_readRust_26 ?_ | refine BX5_readRust_37 ?_)
  dsimp only [bX5_readRust_0, bX5_readRust_8, bX5_readRust_11, bX5_readRust_21, bX5_readRust_26, bX5_readRust_37, o_ald, o_gf, o_ic, o_ild, o_ist, o_pf, o_v0, o_v1, o_v2, o_vret, o_zeq, tk, lget, lput, lkill, lmask, ol, lent, flC_0_0, flC_0_1, flC_0_2, flC_0_3, flC_0_4, flC_0_5, flC_0_6, flC_0_7, flC_0_8, flC_0_9, flC_0_10, flC_1_0, flC_1_1, flC_1_2, flC_1_3, flC_1_4, flC_1_5, flC_1_6, flC_1_7, flC_2_0, flC_2_1, flC_2_2, flC_2_3, flC_2_4, flC_2_5, flC_2_6, flC_2_7, flC_2_8, arC_3, arC_4, arC_5, arC_6, arC_7, arC_8, arC_9, flC_10_0, flC_10_1, flC_10_2, flC_10_3, flC_10_4, flC_10_5, flC_10_6, flC_10_7, flC_10_8, arC_11, arC_12, arC_13, arC_14, arC_15, arC_16, flC_17_0, arC_18, flC_19_0, flC_19_1, flC_19_2, arC_20, flC_21_0, flC_21_1, flC_21_2, arC_22, arC_23, flC_24_0, flC_24_1, flC_24_2, arC_25, flC_26_0, flC_26_1, flC_26_2, arC_27, arC_28, flC_29_0, arC_30, flC_31_0, flC_31_1, arC_32, arC_33, arC_34]
  try simp only [up, upL, rp, sf, cpy, Nat.reduceEqDiff, reduceIte, Int.reduceNeg, Int.reduceLE, Int.reduceLT, Int.reduceEq, Int.reduceAdd, Int.reduceSub, Int.reduceMul, ne_eq, not_true_eq_false, not_false_eq_true, true_and, and_true, and_self, false_implies, true_implies, implies_true, forall_const, Nat.reduceAdd, Int.add_zero, Int.zero_add, true_or, or_true, false_or, or_false, List.length_nil, List.length_cons]
  refine ⟨rfl, k_exists (Or.inl rfl) (by dsimp only; omega) (fun h => ?_) (fun h => ?_)⟩
  · have h : 0 < D 0 0 := by rw [← e0]; exact h
    rw [if_pos h] at hb
    (first | refine BX5_readRust_0 ?_ | refine BX5_readRust_8 ?_ | refine BX5_readRust_11 ?_ | refine BX5_readRust_21 ?_ | refine BX5_readRust_26 ?_ | refine BX5_readRust_37 ?_)
    dsimp only [bX5_readRust_0, bX5_readRust_8, bX5_readRust_11, bX5_readRust_21, bX5_readRust_26, bX5_readRust_37, o_ald, o_gf, o_ic, o_ild, o_ist, o_pf, o_v0, o_v1, o_v2, o_vret, o_zeq, tk, lget, lput, lkill, lmask, ol, flC_0_0, flC_0_1, flC_0_2, flC_0_3, flC_0_4, flC_0_5, flC_0_6, flC_0_7, flC_0_8, flC_0_9, flC_0_10, flC_1_0, flC_1_1, flC_1_2, flC_1_3, flC_1_4, flC_1_5, flC_1_6, flC_1_7, flC_2_0, flC_2_1, flC_2_2, flC_2_3, flC_2_4, flC_2_5, flC_2_6, flC_2_7, flC_2_8, arC_3, arC_4, arC_5, arC_6, arC_7, arC_8, arC_9, flC_10_0, flC_10_1, flC_10_2, flC_10_3, flC_10_4, flC_10_5, flC_10_6, flC_10_7, flC_10_8, arC_11, arC_12, arC_13, arC_14, arC_15, arC_16, flC_17_0, arC_18, flC_19_0, flC_19_1, flC_19_2, arC_20, flC_21_0, flC_21_1, flC_21_2, arC_22, arC_23, flC_24_0, flC_24_1, flC_24_2, arC_25, flC_26_0, flC_26_1, flC_26_2, arC_27, arC_28, flC_29_0, arC_30, flC_31_0, flC_31_1, arC_32, arC_33, arC_34]
    try simp only [up, upL, rp, sf, cpy, Nat.reduceEqDiff, reduceIte, Int.reduceNeg, Int.reduceLE, Int.reduceLT, Int.reduceEq, Int.reduceAdd, Int.reduceSub, Int.reduceMul, ne_eq, not_true_eq_false, not_false_eq_true, true_and, and_true, and_self, false_implies, true_implies, implies_true, forall_const, Nat.reduceAdd, Int.add_zero, Int.zero_add, true_or, or_true, false_or, or_false, List.length_nil, List.length_cons]
    refine ⟨rfl, k_opens_bad ?_⟩
    (first | refine BX5_readRust_0 ?_ | refine BX5_readRust_8 ?_ | refine BX5_readRust_11 ?_ | refine BX5_readRust_21 ?_ | refine BX5_readRust_26 ?_ | refine BX5_readRust_37 ?_)
    dsimp only [bX5_readRust_0, bX5_readRust_8, bX5_readRust_11, bX5_readRust_21, bX5_readRust_26, bX5_readRust_37, o_ald, o_gf, o_ic, o_ild, o_ist, o_pf, o_v0, o_v1, o_v2, o_vret, o_zeq, tk, lget, lput, lkill, lmask, ol, flC_0_0, flC_0_1, flC_0_2, flC_0_3, flC_0_4, flC_0_5, flC_0_6, flC_0_7, flC_0_8, flC_0_9, flC_0_10, flC_1_0, flC_1_1, flC_1_2, flC_1_3, flC_1_4, flC_1_5, flC_1_6, flC_1_7, flC_2_0, flC_2_1, flC_2_2, flC_2_3, flC_2_4, flC_2_5, flC_2_6, flC_2_7, flC_2_8, arC_3, arC_4, arC_5, arC_6, arC_7, arC_8, arC_9, flC_10_0, flC_10_1, flC_10_2, flC_10_3, flC_10_4, flC_10_5, flC_10_6, flC_10_7, flC_10_8, arC_11, arC_12, arC_13, arC_14, arC_15, arC_16, flC_17_0, arC_18, flC_19_0, flC_19_1, flC_19_2, arC_20, flC_21_0, flC_21_1, flC_21_2, arC_22, arC_23, flC_24_0, flC_24_1, flC_24_2, arC_25, flC_26_0, flC_26_1, flC_26_2, arC_27, arC_28, flC_29_0, arC_30, flC_31_0, flC_31_1, arC_32, arC_33, arC_34]
    try simp only [up, upL, rp, sf, cpy, Nat.reduceEqDiff, reduceIte, Int.reduceNeg, Int.reduceLE, Int.reduceLT, Int.reduceEq, Int.reduceAdd, Int.reduceSub, Int.reduceMul, ne_eq, not_true_eq_false, not_false_eq_true, true_and, and_true, and_self, false_implies, true_implies, implies_true, forall_const, Nat.reduceAdd, Int.add_zero, Int.zero_add, true_or, or_true, false_or, or_false, List.length_nil, List.length_cons]
    (first | refine BX5_readRust_0 ?_ | refine BX5_readRust_8 ?_ | refine BX5_readRust_11 ?_ | refine BX5_readRust_21 ?_ | refine BX5_readRust_26 ?_ | refine BX5_readRust_37 ?_)
    dsimp only [bX5_readRust_0, bX5_readRust_8, bX5_readRust_11, bX5_readRust_21, bX5_readRust_26, bX5_readRust_37, o_ald, o_gf, o_ic, o_ild, o_ist, o_pf, o_v0, o_v1, o_v2, o_vret, o_zeq, tk, lget, lput, lkill, lmask, ol, flC_0_0, flC_0_1, flC_0_2, flC_0_3, flC_0_4, flC_0_5, flC_0_6, flC_0_7, flC_0_8, flC_0_9, flC_0_10, flC_1_0, flC_1_1, flC_1_2, flC_1_3, flC_1_4, flC_1_5, flC_1_6, flC_1_7, flC_2_0, flC_2_1, flC_2_2, flC_2_3, flC_2_4, flC_2_5, flC_2_6, flC_2_7, flC_2_8, arC_3, arC_4, arC_5, arC_6, arC_7, arC_8, arC_9, flC_10_0, flC_10_1, flC_10_2, flC_10_3, flC_10_4, flC_10_5, flC_10_6, flC_10_7, flC_10_8, arC_11, arC_12, arC_13, arC_14, arC_15, arC_16, flC_17_0, arC_18, flC_19_0, flC_19_1, flC_19_2, arC_20, flC_21_0, flC_21_1, flC_21_2, arC_22, arC_23, flC_24_0, flC_24_1, flC_24_2, arC_25, flC_26_0, flC_26_1, flC_26_2, arC_27, arC_28, flC_29_0, arC_30, flC_31_0, flC_31_1, arC_32, arC_33, arC_34]
    try simp only [up, upL, rp, sf, cpy, Nat.reduceEqDiff, reduceIte, Int.reduceNeg, Int.reduceLE, Int.reduceLT, Int.reduceEq, Int.reduceAdd, Int.reduceSub, Int.reduceMul, ne_eq, not_true_eq_false, not_false_eq_true, true_and, and_true, and_self, false_implies, true_implies, implies_true, forall_const, Nat.reduceAdd, Int.add_zero, Int.zero_add, true_or, or_true, false_or, or_false, List.length_nil, List.length_cons]
    exact hb 3 p rfl _ (FC_1 ⟨rfl, rfl⟩) rfl h5 (show 0 ≤ C 1 5 ∧ C 1 5 ≤ C 1 2 by have := hT.1; omega)
  · have h : ¬ 0 < D 0 0 := by rw [← e0]; exact Int.not_lt.mpr h
    rw [if_neg h] at hb ho
    (first | refine BX5_readRust_0 ?_ | refine BX5_readRust_8 ?_ | refine BX5_readRust_11 ?_ | refine BX5_readRust_21 ?_ | refine BX5_readRust_26 ?_ | refine BX5_readRust_37 ?_)
    dsimp only [bX5_readRust_0, bX5_readRust_8, bX5_readRust_11, bX5_readRust_21, bX5_readRust_26, bX5_readRust_37, o_ald, o_gf, o_ic, o_ild, o_ist, o_pf, o_v0, o_v1, o_v2, o_vret, o_zeq, tk, lget, lput, lkill, lmask, ol, flC_0_0, flC_0_1, flC_0_2, flC_0_3, flC_0_4, flC_0_5, flC_0_6, flC_0_7, flC_0_8, flC_0_9, flC_0_10, flC_1_0, flC_1_1, flC_1_2, flC_1_3, flC_1_4, flC_1_5, flC_1_6, flC_1_7, flC_2_0, flC_2_1, flC_2_2, flC_2_3, flC_2_4, flC_2_5, flC_2_6, flC_2_7, flC_2_8, arC_3, arC_4, arC_5, arC_6, arC_7, arC_8, arC_9, flC_10_0, flC_10_1, flC_10_2, flC_10_3, flC_10_4, flC_10_5, flC_10_6, flC_10_7, flC_10_8, arC_11, arC_12, arC_13, arC_14, arC_15, arC_16, flC_17_0, arC_18, flC_19_0, flC_19_1, flC_19_2, arC_20, flC_21_0, flC_21_1, flC_21_2, arC_22, arC_23, flC_24_0, flC_24_1, flC_24_2, arC_25, flC_26_0, flC_26_1, flC_26_2, arC_27, arC_28, flC_29_0, arC_30, flC_31_0, flC_31_1, arC_32, arC_33, arC_34]
    try simp only [up, upL, rp, sf, cpy, Nat.reduceEqDiff, reduceIte, Int.reduceNeg, Int.reduceLE, Int.reduceLT, Int.reduceEq, Int.reduceAdd, Int.reduceSub, Int.reduceMul, ne_eq, not_true_eq_false, not_false_eq_true, true_and, and_true, and_self, false_implies, true_implies, implies_true, forall_const, Nat.reduceAdd, Int.add_zero, Int.zero_add, true_or, or_true, false_or, or_false, List.length_nil, List.length_cons]
    refine ⟨rfl, k_opens ?_⟩
    (first | refine BX5_readRust_0 ?_ | refine BX5_readRust_8 ?_ | refine BX5_readRust_11 ?_ | refine BX5_readRust_21 ?_ | refine BX5_readRust_26 ?_ | refine BX5_readRust_37 ?_)
    dsimp only [bX5_readRust_0, bX5_readRust_8, bX5_readRust_11, bX5_readRust_21, bX5_readRust_26, bX5_readRust_37, o_ald, o_gf, o_ic, o_ild, o_ist, o_pf, o_v0, o_v1, o_v2, o_vret, o_zeq, tk, lget, lput, lkill, lmask, ol, flC_0_0, flC_0_1, flC_0_2, flC_0_3, flC_0_4, flC_0_5, flC_0_6, flC_0_7, flC_0_8, flC_0_9, flC_0_10, flC_1_0, flC_1_1, flC_1_2, flC_1_3, flC_1_4, flC_1_5, flC_1_6, flC_1_7, flC_2_0, flC_2_1, flC_2_2, flC_2_3, flC_2_4, flC_2_5, flC_2_6, flC_2_7, flC_2_8, arC_3, arC_4, arC_5, arC_6, arC_7, arC_8, arC_9, flC_10_0, flC_10_1, flC_10_2, flC_10_3, flC_10_4, flC_10_5, flC_10_6, flC_10_7, flC_10_8, arC_11, arC_12, arC_13, arC_14, arC_15, arC_16, flC_17_0, arC_18, flC_19_0, flC_19_1, flC_19_2, arC_20, flC_21_0, flC_21_1, flC_21_2, arC_22, arC_23, flC_24_0, flC_24_1, flC_24_2, arC_25, flC_26_0, flC_26_1, flC_26_2, arC_27, arC_28, flC_29_0, arC_30, flC_31_0, flC_31_1, arC_32, arC_33, arC_34]
    try simp only [up, upL, rp, sf, cpy, Nat.reduceEqDiff, reduceIte, Int.reduceNeg, Int.reduceLE, Int.reduceLT, Int.reduceEq, Int.reduceAdd, Int.reduceSub, Int.reduceMul, ne_eq, not_true_eq_false, not_false_eq_true, true_and, and_true, and_self, false_implies, true_implies, implies_true, forall_const, Nat.reduceAdd, Int.add_zero, Int.zero_add, true_or, or_true, false_or, or_false, List.length_nil, List.length_cons]
    have hr1 : RC (sf (C 1) 5 (C 1 5 + 1)) (C 1) := ⟨rfl, rfl⟩
    have e5 : rp C 1 (sf (C 1) 5 (C 1 5 + 1)) 1 5 = p + 1 := by rw [← h5]; rfl
    refine ⟨rfl, k_readNumber (TX_1 hT hr1) h4 (by rw [e5]; omega) (by rw [e5]; omega) (by omega) (by omega) (fun k q hk v c hc c4 c3 c9 => ?_) (fun v q e hk c hc c3 c4 c5 c6 => ?_)⟩
    · rw [e5] at hk
      have hkk := rdN_bad (by omega) hk
      (first | refine BX5_readRust_0 ?_ | refine BX5_readRust_8 ?_ | refine BX5_readRust_11 ?_ | refine BX5_readRust_21 ?_ | refine BX5_readRust_26 ?_ | refine BX5_readRust_37 ?_)
      dsimp only [bX5_readRust_0, bX5_readRust_8, bX5_readRust_11, bX5_readRust_21, bX5_readRust_26, bX5_readRust_37, o_ald, o_gf, o_ic, o_ild, o_ist, o_pf, o_v0, o_v1, o_v2, o_vret, o_zeq, tk, lget, lput, lkill, lmask, ol, flC_0_0, flC_0_1, flC_0_2, flC_0_3, flC_0_4, flC_0_5, flC_0_6, flC_0_7, flC_0_8, flC_0_9, flC_0_10, flC_1_0, flC_1_1, flC_1_2, flC_1_3, flC_1_4, flC_1_5, flC_1_6, flC_1_7, flC_2_0, flC_2_1, flC_2_2, flC_2_3, flC_2_4, flC_2_5, flC_2_6, flC_2_7, flC_2_8, arC_3, arC_4, arC_5, arC_6, arC_7, arC_8, arC_9, flC_10_0, flC_10_1, flC_10_2, flC_10_3, flC_10_4, flC_10_5, flC_10_6, flC_10_7, flC_10_8, arC_11, arC_12, arC_13, arC_14, arC_15, arC_16, flC_17_0, arC_18, flC_19_0, flC_19_1, flC_19_2, arC_20, flC_21_0, flC_21_1, flC_21_2, arC_22, arC_23, flC_24_0, flC_24_1, flC_24_2, arC_25, flC_26_0, flC_26_1, flC_26_2, arC_27, arC_28, flC_29_0, arC_30, flC_31_0, flC_31_1, arC_32, arC_33, arC_34]
      try simp only [up, upL, rp, sf, cpy, Nat.reduceEqDiff, reduceIte, Int.reduceNeg, Int.reduceLE, Int.reduceLT, Int.reduceEq, Int.reduceAdd, Int.reduceSub, Int.reduceMul, ne_eq, not_true_eq_false, not_false_eq_true, true_and, and_true, and_self, false_implies, true_implies, implies_true, forall_const, Nat.reduceAdd, Int.add_zero, Int.zero_add, true_or, or_true, false_or, or_false, List.length_nil, List.length_cons]
      refine ⟨rfl, k_closes_bad (show 1 ≤ c 4 ∧ c 4 ≤ 4 by omega) ?_⟩
      (first | refine BX5_readRust_0 ?_ | refine BX5_readRust_8 ?_ | refine BX5_readRust_11 ?_ | refine BX5_readRust_21 ?_ | refine BX5_readRust_26 ?_ | refine BX5_readRust_37 ?_)
      dsimp only [bX5_readRust_0, bX5_readRust_8, bX5_readRust_11, bX5_readRust_21, bX5_readRust_26, bX5_readRust_37, o_ald, o_gf, o_ic, o_ild, o_ist, o_pf, o_v0, o_v1, o_v2, o_vret, o_zeq, tk, lget, lput, lkill, lmask, ol, flC_0_0, flC_0_1, flC_0_2, flC_0_3, flC_0_4, flC_0_5, flC_0_6, flC_0_7, flC_0_8, flC_0_9, flC_0_10, flC_1_0, flC_1_1, flC_1_2, flC_1_3, flC_1_4, flC_1_5, flC_1_6, flC_1_7, flC_2_0, flC_2_1, flC_2_2, flC_2_3, flC_2_4, flC_2_5, flC_2_6, flC_2_7, flC_2_8, arC_3, arC_4, arC_5, arC_6, arC_7, arC_8, arC_9, flC_10_0, flC_10_1, flC_10_2, flC_10_3, flC_10_4, flC_10_5, flC_10_6, flC_10_7, flC_10_8, arC_11, arC_12, arC_13, arC_14, arC_15, arC_16, flC_17_0, arC_18, flC_19_0, flC_19_1, flC_19_2, arC_20, flC_21_0, flC_21_1, flC_21_2, arC_22, arC_23, flC_24_0, flC_24_1, flC_24_2, arC_25, flC_26_0, flC_26_1, flC_26_2, arC_27, arC_28, flC_29_0, arC_30, flC_31_0, flC_31_1, arC_32, arC_33, arC_34]
      try simp only [up, upL, rp, sf, cpy, Nat.reduceEqDiff, reduceIte, Int.reduceNeg, Int.reduceLE, Int.reduceLT, Int.reduceEq, Int.reduceAdd, Int.reduceSub, Int.reduceMul, ne_eq, not_true_eq_false, not_false_eq_true, true_and, and_true, and_self, false_implies, true_implies, implies_true, forall_const, Nat.reduceAdd, Int.add_zero, Int.zero_add, true_or, or_true, false_or, or_false, List.length_nil, List.length_cons]
      (first | refine BX5_readRust_0 ?_ | refine BX5_readRust_8 ?_ | refine BX5_readRust_11 ?_ | refine BX5_readRust_21 ?_ | refine BX5_readRust_26 ?_ | refine BX5_readRust_37 ?_)
      dsimp only [bX5_readRust_0, bX5_readRust_8, bX5_readRust_11, bX5_readRust_21, bX5_readRust_26, bX5_readRust_37, o_ald, o_gf, o_ic, o_ild, o_ist, o_pf, o_v0, o_v1, o_v2, o_vret, o_zeq, tk, lget, lput, lkill, lmask, ol, flC_0_0, flC_0_1, flC_0_2, flC_0_3, flC_0_4, flC_0_5, flC_0_6, flC_0_7, flC_0_8, flC_0_9, flC_0_10, flC_1_0, flC_1_1, flC_1_2, flC_1_3, flC_1_4, flC_1_5, flC_1_6, flC_1_7, flC_2_0, flC_2_1, flC_2_2, flC_2_3, flC_2_4, flC_2_5, flC_2_6, flC_2_7, flC_2_8, arC_3, arC_4, arC_5, arC_6, arC_7, arC_8, arC_9, flC_10_0, flC_10_1, flC_10_2, flC_10_3, flC_10_4, flC_10_5, flC_10_6, flC_10_7, flC_10_8, arC_11, arC_12, arC_13, arC_14, arC_15, arC_16, flC_17_0, arC_18, flC_19_0, flC_19_1, flC_19_2, arC_20, flC_21_0, flC_21_1, flC_21_2, arC_22, arC_23, flC_24_0, flC_24_1, flC_24_2, arC_25, flC_26_0, flC_26_1, flC_26_2, arC_27, arC_28, flC_29_0, arC_30, flC_31_0, flC_31_1, arC_32, arC_33, arC_34]
      try simp only [up, upL, rp, sf, cpy, Nat.reduceEqDiff, reduceIte, Int.reduceNeg, Int.reduceLE, Int.reduceLT, Int.reduceEq, Int.reduceAdd, Int.reduceSub, Int.reduceMul, ne_eq, not_true_eq_false, not_false_eq_true, true_and, and_true, and_self, false_implies, true_implies, implies_true, forall_const, Nat.reduceAdd, Int.add_zero, Int.zero_add, true_or, or_true, false_or, or_false, List.length_nil, List.length_cons]
      rw [rp_rp]
      exact hb k q (by unfold clD; rw [hk]) _ (FC_1 ⟨hc.1, hc.2⟩) c4 c3 (show 0 ≤ c 5 ∧ c 5 ≤ C 1 2 by have := hT.1; omega)
    · rw [e5] at hk
      have hkk := rdN_ok (by omega) hk
      have hcl : clD T n D p = closeP T n (up D 0 0 v) e := by unfold clD; rw [hk]
      rw [hcl] at hb ho
      (first | refine BX5_readRust_0 ?_ | refine BX5_readRust_8 ?_ | refine BX5_readRust_11 ?_ | refine BX5_readRust_21 ?_ | refine BX5_readRust_26 ?_ | refine BX5_readRust_37 ?_)
      dsimp only [bX5_readRust_0, bX5_readRust_8, bX5_readRust_11, bX5_readRust_21, bX5_readRust_26, bX5_readRust_37, o_ald, o_gf, o_ic, o_ild, o_ist, o_pf, o_v0, o_v1, o_v2, o_vret, o_zeq, tk, lget, lput, lkill, lmask, ol, flC_0_0, flC_0_1, flC_0_2, flC_0_3, flC_0_4, flC_0_5, flC_0_6, flC_0_7, flC_0_8, flC_0_9, flC_0_10, flC_1_0, flC_1_1, flC_1_2, flC_1_3, flC_1_4, flC_1_5, flC_1_6, flC_1_7, flC_2_0, flC_2_1, flC_2_2, flC_2_3, flC_2_4, flC_2_5, flC_2_6, flC_2_7, flC_2_8, arC_3, arC_4, arC_5, arC_6, arC_7, arC_8, arC_9, flC_10_0, flC_10_1, flC_10_2, flC_10_3, flC_10_4, flC_10_5, flC_10_6, flC_10_7, flC_10_8, arC_11, arC_12, arC_13, arC_14, arC_15, arC_16, flC_17_0, arC_18, flC_19_0, flC_19_1, flC_19_2, arC_20, flC_21_0, flC_21_1, flC_21_2, arC_22, arC_23, flC_24_0, flC_24_1, flC_24_2, arC_25, flC_26_0, flC_26_1, flC_26_2, arC_27, arC_28, flC_29_0, arC_30, flC_31_0, flC_31_1, arC_32, arC_33, arC_34]
      try simp only [up, upL, rp, sf, cpy, Nat.reduceEqDiff, reduceIte, Int.reduceNeg, Int.reduceLE, Int.reduceLT, Int.reduceEq, Int.reduceAdd, Int.reduceSub, Int.reduceMul, ne_eq, not_true_eq_false, not_false_eq_true, true_and, and_true, and_self, false_implies, true_implies, implies_true, forall_const, Nat.reduceAdd, Int.add_zero, Int.zero_add, true_or, or_true, false_or, or_false, List.length_nil, List.length_cons]
      rw [rp_rp]
      refine ⟨rfl, k_close (C := C) (Q := Q) (TX_1 hT hc) c4 c5 (by omega) (by omega) (FC_1 hc) c3 hb (fun c' q => ?_) (fun c' hc' c3 c4 c5 hh => ?_)⟩
      · (first | refine BX5_readRust_0 ?_ | refine BX5_readRust_8 ?_ | refine BX5_readRust_11 ?_ | refine BX5_readRust_21 ?_ | refine BX5_readRust_26 ?_ | refine BX5_readRust_37 ?_)
        dsimp only [bX5_readRust_0, bX5_readRust_8, bX5_readRust_11, bX5_readRust_21, bX5_readRust_26, bX5_readRust_37, o_ald, o_gf, o_ic, o_ild, o_ist, o_pf, o_v0, o_v1, o_v2, o_vret, o_zeq, tk, lget, lput, lkill, lmask, ol, flC_0_0, flC_0_1, flC_0_2, flC_0_3, flC_0_4, flC_0_5, flC_0_6, flC_0_7, flC_0_8, flC_0_9, flC_0_10, flC_1_0, flC_1_1, flC_1_2, flC_1_3, flC_1_4, flC_1_5, flC_1_6, flC_1_7, flC_2_0, flC_2_1, flC_2_2, flC_2_3, flC_2_4, flC_2_5, flC_2_6, flC_2_7, flC_2_8, arC_3, arC_4, arC_5, arC_6, arC_7, arC_8, arC_9, flC_10_0, flC_10_1, flC_10_2, flC_10_3, flC_10_4, flC_10_5, flC_10_6, flC_10_7, flC_10_8, arC_11, arC_12, arC_13, arC_14, arC_15, arC_16, flC_17_0, arC_18, flC_19_0, flC_19_1, flC_19_2, arC_20, flC_21_0, flC_21_1, flC_21_2, arC_22, arC_23, flC_24_0, flC_24_1, flC_24_2, arC_25, flC_26_0, flC_26_1, flC_26_2, arC_27, arC_28, flC_29_0, arC_30, flC_31_0, flC_31_1, arC_32, arC_33, arC_34]
        try simp only [up, upL, rp, sf, cpy, Nat.reduceEqDiff, reduceIte, Int.reduceNeg, Int.reduceLE, Int.reduceLT, Int.reduceEq, Int.reduceAdd, Int.reduceSub, Int.reduceMul, ne_eq, not_true_eq_false, not_false_eq_true, true_and, and_true, and_self, false_implies, true_implies, implies_true, forall_const, Nat.reduceAdd, Int.add_zero, Int.zero_add, true_or, or_true, false_or, or_false, List.length_nil, List.length_cons]
        (first | refine BX5_readRust_0 ?_ | refine BX5_readRust_8 ?_ | refine BX5_readRust_11 ?_ | refine BX5_readRust_21 ?_ | refine BX5_readRust_26 ?_ | refine BX5_readRust_37 ?_)
        dsimp only [bX5_readRust_0, bX5_readRust_8, bX5_readRust_11, bX5_readRust_21, bX5_readRust_26, bX5_readRust_37, o_ald, o_gf, o_ic, o_ild, o_ist, o_pf, o_v0, o_v1, o_v2, o_vret, o_zeq, tk, lget, lput, lkill, lmask, ol, flC_0_0, flC_0_1, flC_0_2, flC_0_3, flC_0_4, flC_0_5, flC_0_6, flC_0_7, flC_0_8, flC_0_9, flC_0_10, flC_1_0, flC_1_1, flC_1_2, flC_1_3, flC_1_4, flC_1_5, flC_1_6, flC_1_7, flC_2_0, flC_2_1, flC_2_2, flC_2_3, flC_2_4, flC_2_5, flC_2_6, flC_2_7, flC_2_8, arC_3, arC_4, arC_5, arC_6, arC_7, arC_8, arC_9, flC_10_0, flC_10_1, flC_10_2, flC_10_3, flC_10_4, flC_10_5, flC_10_6, flC_10_7, flC_10_8, arC_11, arC_12, arC_13, arC_14, arC_15, arC_16, flC_17_0, arC_18, flC_19_0, flC_19_1, flC_19_2, arC_20, flC_21_0, flC_21_1, flC_21_2, arC_22, arC_23, flC_24_0, flC_24_1, flC_24_2, arC_25, flC_26_0, flC_26_1, flC_26_2, arC_27, arC_28, flC_29_0, arC_30, flC_31_0, flC_31_1, arC_32, arC_33, arC_34]
        try simp only [up, upL, rp, sf, cpy, Nat.reduceEqDiff, reduceIte, Int.reduceNeg, Int.reduceLE, Int.reduceLT, Int.reduceEq, Int.reduceAdd, Int.reduceSub, Int.reduceMul, ne_eq, not_true_eq_false, not_false_eq_true, true_and, and_true, and_self, false_implies, true_implies, implies_true, forall_const, Nat.reduceAdd, Int.add_zero, Int.zero_add, true_or, or_true, false_or, or_false, List.length_nil, List.length_cons]
        exact q
      · rw [rp_rp]
        (first | refine BX5_readRust_0 ?_ | refine BX5_readRust_8 ?_ | refine BX5_readRust_11 ?_ | refine BX5_readRust_21 ?_ | refine BX5_readRust_26 ?_ | refine BX5_readRust_37 ?_)
        dsimp only [bX5_readRust_0, bX5_readRust_8, bX5_readRust_11, bX5_readRust_21, bX5_readRust_26, bX5_readRust_37, o_ald, o_gf, o_ic, o_ild, o_ist, o_pf, o_v0, o_v1, o_v2, o_vret, o_zeq, tk, lget, lput, lkill, lmask, ol, flC_0_0, flC_0_1, flC_0_2, flC_0_3, flC_0_4, flC_0_5, flC_0_6, flC_0_7, flC_0_8, flC_0_9, flC_0_10, flC_1_0, flC_1_1, flC_1_2, flC_1_3, flC_1_4, flC_1_5, flC_1_6, flC_1_7, flC_2_0, flC_2_1, flC_2_2, flC_2_3, flC_2_4, flC_2_5, flC_2_6, flC_2_7, flC_2_8, arC_3, arC_4, arC_5, arC_6, arC_7, arC_8, arC_9, flC_10_0, flC_10_1, flC_10_2, flC_10_3, flC_10_4, flC_10_5, flC_10_6, flC_10_7, flC_10_8, arC_11, arC_12, arC_13, arC_14, arC_15, arC_16, flC_17_0, arC_18, flC_19_0, flC_19_1, flC_19_2, arC_20, flC_21_0, flC_21_1, flC_21_2, arC_22, arC_23, flC_24_0, flC_24_1, flC_24_2, arC_25, flC_26_0, flC_26_1, flC_26_2, arC_27, arC_28, flC_29_0, arC_30, flC_31_0, flC_31_1, arC_32, arC_33, arC_34]
        try simp only [up, upL, rp, sf, cpy, Nat.reduceEqDiff, reduceIte, Int.reduceNeg, Int.reduceLE, Int.reduceLT, Int.reduceEq, Int.reduceAdd, Int.reduceSub, Int.reduceMul, ne_eq, not_true_eq_false, not_false_eq_true, true_and, and_true, and_self, false_implies, true_implies, implies_true, forall_const, Nat.reduceAdd, Int.add_zero, Int.zero_add, true_or, or_true, false_or, or_false, List.length_nil, List.length_cons]
        (first | refine BX5_readRust_0 ?_ | refine BX5_readRust_8 ?_ | refine BX5_readRust_11 ?_ | refine BX5_readRust_21 ?_ | refine BX5_readRust_26 ?_ | refine BX5_readRust_37 ?_)
        dsimp only [bX5_readRust_0, bX5_readRust_8, bX5_readRust_11, bX5_readRust_21, bX5_readRust_26, bX5_readRust_37, o_ald, o_gf, o_ic, o_ild, o_ist, o_pf, o_v0, o_v1, o_v2, o_vret, o_zeq, tk, lget, lput, lkill, lmask, ol, flC_0_0, flC_0_1, flC_0_2, flC_0_3, flC_0_4, flC_0_5, flC_0_6, flC_0_7, flC_0_8, flC_0_9, flC_0_10, flC_1_0, flC_1_1, flC_1_2, flC_1_3, flC_1_4, flC_1_5, flC_1_6, flC_1_7, flC_2_0, flC_2_1, flC_2_2, flC_2_3, flC_2_4, flC_2_5, flC_2_6, flC_2_7, flC_2_8, arC_3, arC_4, arC_5, arC_6, arC_7, arC_8, arC_9, flC_10_0, flC_10_1, flC_10_2, flC_10_3, flC_10_4, flC_10_5, flC_10_6, flC_10_7, flC_10_8, arC_11, arC_12, arC_13, arC_14, arC_15, arC_16, flC_17_0, arC_18, flC_19_0, flC_19_1, flC_19_2, arC_20, flC_21_0, flC_21_1, flC_21_2, arC_22, arC_23, flC_24_0, flC_24_1, flC_24_2, arC_25, flC_26_0, flC_26_1, flC_26_2, arC_27, arC_28, flC_29_0, arC_30, flC_31_0, flC_31_1, arC_32, arC_33, arC_34]
        try simp only [up, upL, rp, sf, cpy, Nat.reduceEqDiff, reduceIte, Int.reduceNeg, Int.reduceLE, Int.reduceLT, Int.reduceEq, Int.reduceAdd, Int.reduceSub, Int.reduceMul, ne_eq, not_true_eq_false, not_false_eq_true, true_and, and_true, and_self, false_implies, true_implies, implies_true, forall_const, Nat.reduceAdd, Int.add_zero, Int.zero_add, true_or, or_true, false_or, or_false, List.length_nil, List.length_cons]
        have hr : RC c' (C 1) := ⟨hc'.1.trans hc.1, hc'.2.trans hc.2⟩
        refine ho _ _ hh _ (FC_up (FC_1 hr) (by omega) (by omega)) ?_ c4 c3 c5
        have hd := DC_1 hD hr
        exact ⟨rfl, hd.2⟩
theorem k_addRegent {l : Launch} {X : Cx} {Q : Qt} {M : Me} {v : Int} (h0 : 0 ≤ M.1 2 2) (h1 : M.1 2 2 < 6) (hq : Q none (up (up M.1 8 (M.1 2 2) v) 2 2 (M.1 2 2 + 1), M.2)) : TM l X shC 0 mX6_addRegent [vR 2, vI v] M Q := by
  refine EX6_addRegent rfl ?_
  (first | refine BX6_addRegent_0 ?_ | refine BX6_addRegent_29 ?_)
  dsimp only [bX6_addRegent_0, bX6_addRegent_29, o_add, o_ald, o_cge, o_dup, o_gf, o_ias, o_ic, o_ild, o_pf, o_vret, tk, lget, lput, lkill, lmask, ol, lent, flC_0_0, flC_0_1, flC_0_2, flC_0_3, flC_0_4, flC_0_5, flC_0_6, flC_0_7, flC_0_8, flC_0_9, flC_0_10, flC_1_0, flC_1_1, flC_1_2, flC_1_3, flC_1_4, flC_1_5, flC_1_6, flC_1_7, flC_2_0, flC_2_1, flC_2_2, flC_2_3, flC_2_4, flC_2_5, flC_2_6, flC_2_7, flC_2_8, arC_3, arC_4, arC_5, arC_6, arC_7, arC_8, arC_9, flC_10_0, flC_10_1, flC_10_2, flC_10_3, flC_10_4, flC_10_5, flC_10_6, flC_10_7, flC_10_8, arC_11, arC_12, arC_13, arC_14, arC_15, arC_16, flC_17_0, arC_18, flC_19_0, flC_19_1, flC_19_2, arC_20, flC_21_0, flC_21_1, flC_21_2, arC_22, arC_23, flC_24_0, flC_24_1, flC_24_2, arC_25, flC_26_0, flC_26_1, flC_26_2, arC_27, arC_28, flC_29_0, arC_30, flC_31_0, flC_31_1, arC_32, arC_33, arC_34]
  try simp only [up, upL, rp, sf, cpy, Nat.reduceEqDiff, reduceIte, Int.reduceNeg, Int.reduceLE, Int.reduceLT, Int.reduceEq, Int.reduceAdd, Int.reduceSub, Int.reduceMul, ne_eq, not_true_eq_false, not_false_eq_true, true_and, and_true, and_self, false_implies, true_implies, implies_true, forall_const, Nat.reduceAdd, Int.add_zero, Int.zero_add, true_or, or_true, false_or, or_false, List.length_nil, List.length_cons]
  refine ⟨by omega, fun h => absurd h (by omega), fun h => ⟨by omega, ?_⟩⟩
  (first | refine BX6_addRegent_0 ?_ | refine BX6_addRegent_29 ?_)
  dsimp only [bX6_addRegent_0, bX6_addRegent_29, o_add, o_ald, o_cge, o_dup, o_gf, o_ias, o_ic, o_ild, o_pf, o_vret, tk, lget, lput, lkill, lmask, ol, flC_0_0, flC_0_1, flC_0_2, flC_0_3, flC_0_4, flC_0_5, flC_0_6, flC_0_7, flC_0_8, flC_0_9, flC_0_10, flC_1_0, flC_1_1, flC_1_2, flC_1_3, flC_1_4, flC_1_5, flC_1_6, flC_1_7, flC_2_0, flC_2_1, flC_2_2, flC_2_3, flC_2_4, flC_2_5, flC_2_6, flC_2_7, flC_2_8, arC_3, arC_4, arC_5, arC_6, arC_7, arC_8, arC_9, flC_10_0, flC_10_1, flC_10_2, flC_10_3, flC_10_4, flC_10_5, flC_10_6, flC_10_7, flC_10_8, arC_11, arC_12, arC_13, arC_14, arC_15, arC_16, flC_17_0, arC_18, flC_19_0, flC_19_1, flC_19_2, arC_20, flC_21_0, flC_21_1, flC_21_2, arC_22, arC_23, flC_24_0, flC_24_1, flC_24_2, arC_25, flC_26_0, flC_26_1, flC_26_2, arC_27, arC_28, flC_29_0, arC_30, flC_31_0, flC_31_1, arC_32, arC_33, arC_34]
  try simp only [up, upL, rp, sf, cpy, Nat.reduceEqDiff, reduceIte, Int.reduceNeg, Int.reduceLE, Int.reduceLT, Int.reduceEq, Int.reduceAdd, Int.reduceSub, Int.reduceMul, ne_eq, not_true_eq_false, not_false_eq_true, true_and, and_true, and_self, false_implies, true_implies, implies_true, forall_const, Nat.reduceAdd, Int.add_zero, Int.zero_add, true_or, or_true, false_or, or_false, List.length_nil, List.length_cons]
  exact hq
theorem k_readRegent {l : Launch} {X : Cx} {Q : Qt} {C : Nat → Int → Int} {w T : Int → Int} {n p : Int} {D : Nat → Int → Int} (hT : TX C T n) (hD : DC C D) (hO : OkD D) (h4 : C 1 4 = 0) (h5 : C 1 5 = p) (p0 : 0 ≤ p) (p1 : p < n) (hb : HB C w Q (if D 0 8 = 6 then .inl (3, p) else clR T n D p)) (ho : HO C w Q (if D 0 8 = 6 then .inl (3, p) else clR T n D p)) : TM l X shC 2 mX5_readRegent [vR 1] (C, w) Q := by
  have e0 := hD.2.2.1
  have h00 := hO.1.2.2.1
  refine EX5_readRegent rfl ?_
  (first | refine BX5_readRegent_0 ?_ | refine BX5_readRegent_17 ?_ | refine BX5_readRegent_18 ?_ | refine BX5_readRegent_21 ?_ | refine BX5_readRegent_31 ?_ | refine BX5_readRegent_36 ?_ | refine BX5_readRegent_47 ?_)
  dsimp only [bX5_readRegent_0, bX5_readRegent_17, bX5_readRegent_18, bX5_readRegent_21, bX5_readRegent_31, bX5_readRegent_36, bX5_readRegent_47, o_ald, o_clt, o_gf, o_ic, o_ild, o_ist, o_v0, o_v1, o_v2, o_vret, o_zeq, tk, lget, lput, lkill, lmask, ol, lent, flC_0_0, flC_0_1, flC_0_2, flC_0_3, flC_0_4, flC_0_5, flC_0_6, flC_0_7, flC_0_8, flC_0_9, flC_0_10, flC_1_0, flC_1_1, flC_1_2, flC_1_3, flC_1_4, flC_1_5, flC_1_6, flC_1_7, flC_2_0, flC_2_1, flC_2_2, flC_2_3, flC_2_4, flC_2_5, flC_2_6, flC_2_7, flC_2_8, arC_3, arC_4, arC_5, arC_6, arC_7, arC_8, arC_9, flC_10_0, flC_10_1, flC_10_2, flC_10_3, flC_10_4, flC_10_5, flC_10_6, flC_10_7, flC_10_8, arC_11, arC_12, arC_13, arC_14, arC_15, arC_16, flC_17_0, arC_18, flC_19_0, flC_19_1, flC_19_2, arC_20, flC_21_0, flC_21_1, flC_21_2, arC_22, arC_23, flC_24_0, flC_24_1, flC_24_2, arC_25, flC_26_0, flC_26_1, flC_26_2, arC_27, arC_28, flC_29_0, arC_30, flC_31_0, flC_31_1, arC_32, arC_33, arC_34]
  try simp only [up, upL, rp, sf, cpy, Nat.reduceEqDiff, reduceIte, Int.reduceNeg, Int.reduceLE, Int.reduceLT, Int.reduceEq, Int.reduceAdd, Int.reduceSub, Int.reduceMul, ne_eq, not_true_eq_false, not_false_eq_true, true_and, and_true, and_self, false_implies, true_implies, implies_true, forall_const, Nat.reduceAdd, Int.add_zero, Int.zero_add, true_or, or_true, false_or, or_false, List.length_nil, List.length_cons]
  rw [e0]
  refine ⟨by omega, fun h => ?_, fun h => ?_⟩
  · rw [if_neg (by omega)] at hb ho
    (first | refine BX5_readRegent_0 ?_ | refine BX5_readRegent_17 ?_ | refine BX5_readRegent_18 ?_ | refine BX5_readRegent_21 ?_ | refine BX5_readRegent_31 ?_ | refine BX5_readRegent_36 ?_ | refine BX5_readRegent_47 ?_)
    dsimp only [bX5_readRegent_0, bX5_readRegent_17, bX5_readRegent_18, bX5_readRegent_21, bX5_readRegent_31, bX5_readRegent_36, bX5_readRegent_47, o_ald, o_clt, o_gf, o_ic, o_ild, o_ist, o_v0, o_v1, o_v2, o_vret, o_zeq, tk, lget, lput, lkill, lmask, ol, flC_0_0, flC_0_1, flC_0_2, flC_0_3, flC_0_4, flC_0_5, flC_0_6, flC_0_7, flC_0_8, flC_0_9, flC_0_10, flC_1_0, flC_1_1, flC_1_2, flC_1_3, flC_1_4, flC_1_5, flC_1_6, flC_1_7, flC_2_0, flC_2_1, flC_2_2, flC_2_3, flC_2_4, flC_2_5, flC_2_6, flC_2_7, flC_2_8, arC_3, arC_4, arC_5, arC_6, arC_7, arC_8, arC_9, flC_10_0, flC_10_1, flC_10_2, flC_10_3, flC_10_4, flC_10_5, flC_10_6, flC_10_7, flC_10_8, arC_11, arC_12, arC_13, arC_14, arC_15, arC_16, flC_17_0, arC_18, flC_19_0, flC_19_1, flC_19_2, arC_20, flC_21_0, flC_21_1, flC_21_2, arC_22, arC_23, flC_24_0, flC_24_1, flC_24_2, arC_25, flC_26_0, flC_26_1, flC_26_2, arC_27, arC_28, flC_29_0, arC_30, flC_31_0, flC_31_1, arC_32, arC_33, arC_34]
    try simp only [up, upL, rp, sf, cpy, Nat.reduceEqDiff, reduceIte, Int.reduceNeg, Int.reduceLE, Int.reduceLT, Int.reduceEq, Int.reduceAdd, Int.reduceSub, Int.reduceMul, ne_eq, not_true_eq_false, not_false_eq_true, true_and, and_true, and_self, false_implies, true_implies, implies_true, forall_const, Nat.reduceAdd, Int.add_zero, Int.zero_add, true_or, or_true, false_or, or_false, List.length_nil, List.length_cons]
    (first | refine BX5_readRegent_0 ?_ | refine BX5_readRegent_17 ?_ | refine BX5_readRegent_18 ?_ | refine BX5_readRegent_21 ?_ | refine BX5_readRegent_31 ?_ | refine BX5_readRegent_36 ?_ | refine BX5_readRegent_47 ?_)
    dsimp only [bX5_readRegent_0, bX5_readRegent_17, bX5_readRegent_18, bX5_readRegent_21, bX5_readRegent_31, bX5_readRegent_36, bX5_readRegent_47, o_ald, o_clt, o_gf, o_ic, o_ild, o_ist, o_v0, o_v1, o_v2, o_vret, o_zeq, tk, lget, lput, lkill, lmask, ol, flC_0_0, flC_0_1, flC_0_2, flC_0_3, flC_0_4, flC_0_5, flC_0_6, flC_0_7, flC_0_8, flC_0_9, flC_0_10, flC_1_0, flC_1_1, flC_1_2, flC_1_3, flC_1_4, flC_1_5, flC_1_6, flC_1_7, flC_2_0, flC_2_1, flC_2_2, flC_2_3, flC_2_4, flC_2_5, flC_2_6, flC_2_7, flC_2_8, arC_3, arC_4, arC_5, arC_6, arC_7, arC_8, arC_9, flC_10_0, flC_10_1, flC_10_2, flC_10_3, flC_10_4, flC_10_5, flC_10_6, flC_10_7, flC_10_8, arC_11, arC_12, arC_13, arC_14, arC_15, arC_16, flC_17_0, arC_18, flC_19_0, flC_19_1, flC_19_2, arC_20, flC_21_0, flC_21_1, flC_21_2, arC_22, arC_23, flC_24_0, flC_24_1, flC_24_2, arC_25, flC_26_0, flC_26_1, flC_26_2, arC_27, arC_28, flC_29_0, arC_30, flC_31_0, flC_31_1, arC_32, arC_33, arC_34]
    try simp only [up, upL, rp, sf, cpy, Nat.reduceEqDiff, reduceIte, Int.reduceNeg, Int.reduceLE, Int.reduceLT, Int.reduceEq, Int.reduceAdd, Int.reduceSub, Int.reduceMul, ne_eq, not_true_eq_false, not_false_eq_true, true_and, and_true, and_self, false_implies, true_implies, implies_true, forall_const, Nat.reduceAdd, Int.add_zero, Int.zero_add, true_or, or_true, false_or, or_false, List.length_nil, List.length_cons]
    refine ⟨rfl, k_opens ?_⟩
    (first | refine BX5_readRegent_0 ?_ | refine BX5_readRegent_17 ?_ | refine BX5_readRegent_18 ?_ | refine BX5_readRegent_21 ?_ | refine BX5_readRegent_31 ?_ | refine BX5_readRegent_36 ?_ | refine BX5_readRegent_47 ?_)
    dsimp only [bX5_readRegent_0, bX5_readRegent_17, bX5_readRegent_18, bX5_readRegent_21, bX5_readRegent_31, bX5_readRegent_36, bX5_readRegent_47, o_ald, o_clt, o_gf, o_ic, o_ild, o_ist, o_v0, o_v1, o_v2, o_vret, o_zeq, tk, lget, lput, lkill, lmask, ol, flC_0_0, flC_0_1, flC_0_2, flC_0_3, flC_0_4, flC_0_5, flC_0_6, flC_0_7, flC_0_8, flC_0_9, flC_0_10, flC_1_0, flC_1_1, flC_1_2, flC_1_3, flC_1_4, flC_1_5, flC_1_6, flC_1_7, flC_2_0, flC_2_1, flC_2_2, flC_2_3, flC_2_4, flC_2_5, flC_2_6, flC_2_7, flC_2_8, arC_3, arC_4, arC_5, arC_6, arC_7, arC_8, arC_9, flC_10_0, flC_10_1, flC_10_2, flC_10_3, flC_10_4, flC_10_5, flC_10_6, flC_10_7, flC_10_8, arC_11, arC_12, arC_13, arC_14, arC_15, arC_16, flC_17_0, arC_18, flC_19_0, flC_19_1, flC_19_2, arC_20, flC_21_0, flC_21_1, flC_21_2, arC_22, arC_23, flC_24_0, flC_24_1, flC_24_2, arC_25, flC_26_0, flC_26_1, flC_26_2, arC_27, arC_28, flC_29_0, arC_30, flC_31_0, flC_31_1, arC_32, arC_33, arC_34]
    try simp only [up, upL, rp, sf, cpy, Nat.reduceEqDiff, reduceIte, Int.reduceNeg, Int.reduceLE, Int.reduceLT, Int.reduceEq, Int.reduceAdd, Int.reduceSub, Int.reduceMul, ne_eq, not_true_eq_false, not_false_eq_true, true_and, and_true, and_self, false_implies, true_implies, implies_true, forall_const, Nat.reduceAdd, Int.add_zero, Int.zero_add, true_or, or_true, false_or, or_false, List.length_nil, List.length_cons]
    have hr1 : RC (sf (C 1) 5 (C 1 5 + 1)) (C 1) := ⟨rfl, rfl⟩
    have e5 : rp C 1 (sf (C 1) 5 (C 1 5 + 1)) 1 5 = p + 1 := by rw [← h5]; rfl
    refine ⟨rfl, k_readNumber (TX_1 hT hr1) h4 (by rw [e5]; omega) (by rw [e5]; omega) (by omega) (by omega) (fun k q hk v c hc c4 c3 c9 => ?_) (fun v q e hk c hc c3 c4 c5 c6 => ?_)⟩
    · rw [e5] at hk
      have hkk := rdN_bad (by omega) hk
      (first | refine BX5_readRegent_0 ?_ | refine BX5_readRegent_17 ?_ | refine BX5_readRegent_18 ?_ | refine BX5_readRegent_21 ?_ | refine BX5_readRegent_31 ?_ | refine BX5_readRegent_36 ?_ | refine BX5_readRegent_47 ?_)
      dsimp only [bX5_readRegent_0, bX5_readRegent_17, bX5_readRegent_18, bX5_readRegent_21, bX5_readRegent_31, bX5_readRegent_36, bX5_readRegent_47, o_ald, o_clt, o_gf, o_ic, o_ild, o_ist, o_v0, o_v1, o_v2, o_vret, o_zeq, tk, lget, lput, lkill, lmask, ol, flC_0_0, flC_0_1, flC_0_2, flC_0_3, flC_0_4, flC_0_5, flC_0_6, flC_0_7, flC_0_8, flC_0_9, flC_0_10, flC_1_0, flC_1_1, flC_1_2, flC_1_3, flC_1_4, flC_1_5, flC_1_6, flC_1_7, flC_2_0, flC_2_1, flC_2_2, flC_2_3, flC_2_4, flC_2_5, flC_2_6, flC_2_7, flC_2_8, arC_3, arC_4, arC_5, arC_6, arC_7, arC_8, arC_9, flC_10_0, flC_10_1, flC_10_2, flC_10_3, flC_10_4, flC_10_5, flC_10_6, flC_10_7, flC_10_8, arC_11, arC_12, arC_13, arC_14, arC_15, arC_16, flC_17_0, arC_18, flC_19_0, flC_19_1, flC_19_2, arC_20, flC_21_0, flC_21_1, flC_21_2, arC_22, arC_23, flC_24_0, flC_24_1, flC_24_2, arC_25, flC_26_0, flC_26_1, flC_26_2, arC_27, arC_28, flC_29_0, arC_30, flC_31_0, flC_31_1, arC_32, arC_33, arC_34]
      try simp only [up, upL, rp, sf, cpy, Nat.reduceEqDiff, reduceIte, Int.reduceNeg, Int.reduceLE, Int.reduceLT, Int.reduceEq, Int.reduceAdd, Int.reduceSub, Int.reduceMul, ne_eq, not_true_eq_false, not_false_eq_true, true_and, and_true, and_self, false_implies, true_implies, implies_true, forall_const, Nat.reduceAdd, Int.add_zero, Int.zero_add, true_or, or_true, false_or, or_false, List.length_nil, List.length_cons]
      refine ⟨rfl, k_closes_bad (show 1 ≤ c 4 ∧ c 4 ≤ 4 by omega) ?_⟩
      (first | refine BX5_readRegent_0 ?_ | refine BX5_readRegent_17 ?_ | refine BX5_readRegent_18 ?_ | refine BX5_readRegent_21 ?_ | refine BX5_readRegent_31 ?_ | refine BX5_readRegent_36 ?_ | refine BX5_readRegent_47 ?_)
      dsimp only [bX5_readRegent_0, bX5_readRegent_17, bX5_readRegent_18, bX5_readRegent_21, bX5_readRegent_31, bX5_readRegent_36, bX5_readRegent_47, o_ald, o_clt, o_gf, o_ic, o_ild, o_ist, o_v0, o_v1, o_v2, o_vret, o_zeq, tk, lget, lput, lkill, lmask, ol, flC_0_0, flC_0_1, flC_0_2, flC_0_3, flC_0_4, flC_0_5, flC_0_6, flC_0_7, flC_0_8, flC_0_9, flC_0_10, flC_1_0, flC_1_1, flC_1_2, flC_1_3, flC_1_4, flC_1_5, flC_1_6, flC_1_7, flC_2_0, flC_2_1, flC_2_2, flC_2_3, flC_2_4, flC_2_5, flC_2_6, flC_2_7, flC_2_8, arC_3, arC_4, arC_5, arC_6, arC_7, arC_8, arC_9, flC_10_0, flC_10_1, flC_10_2, flC_10_3, flC_10_4, flC_10_5, flC_10_6, flC_10_7, flC_10_8, arC_11, arC_12, arC_13, arC_14, arC_15, arC_16, flC_17_0, arC_18, flC_19_0, flC_19_1, flC_19_2, arC_20, flC_21_0, flC_21_1, flC_21_2, arC_22, arC_23, flC_24_0, flC_24_1, flC_24_2, arC_25, flC_26_0, flC_26_1, flC_26_2, arC_27, arC_28, flC_29_0, arC_30, flC_31_0, flC_31_1, arC_32, arC_33, arC_34]
      try simp only [up, upL, rp, sf, cpy, Nat.reduceEqDiff, reduceIte, Int.reduceNeg, Int.reduceLE, Int.reduceLT, Int.reduceEq, Int.reduceAdd, Int.reduceSub, Int.reduceMul, ne_eq, not_true_eq_false, not_false_eq_true, true_and, and_true, and_self, false_implies, true_implies, implies_true, forall_const, Nat.reduceAdd, Int.add_zero, Int.zero_add, true_or, or_true, false_or, or_false, List.length_nil, List.length_cons]
      (first | refine BX5_readRegent_0 ?_ | refine BX5_readRegent_17 ?_ | refine BX5_readRegent_18 ?_ | refine BX5_readRegent_21 ?_ | refine BX5_readRegent_31 ?_ | refine BX5_readRegent_36 ?_ | refine BX5_readRegent_47 ?_)
      dsimp only [bX5_readRegent_0, bX5_readRegent_17, bX5_readRegent_18, bX5_readRegent_21, bX5_readRegent_31, bX5_readRegent_36, bX5_readRegent_47, o_ald, o_clt, o_gf, o_ic, o_ild, o_ist, o_v0, o_v1, o_v2, o_vret, o_zeq, tk, lget, lput, lkill, lmask, ol, flC_0_0, flC_0_1, flC_0_2, flC_0_3, flC_0_4, flC_0_5, flC_0_6, flC_0_7, flC_0_8, flC_0_9, flC_0_10, flC_1_0, flC_1_1, flC_1_2, flC_1_3, flC_1_4, flC_1_5, flC_1_6, flC_1_7, flC_2_0, flC_2_1, flC_2_2, flC_2_3, flC_2_4, flC_2_5, flC_2_6, flC_2_7, flC_2_8, arC_3, arC_4, arC_5, arC_6, arC_7, arC_8, arC_9, flC_10_0, flC_10_1, flC_10_2, flC_10_3, flC_10_4, flC_10_5, flC_10_6, flC_10_7, flC_10_8, arC_11, arC_12, arC_13, arC_14, arC_15, arC_16, flC_17_0, arC_18, flC_19_0, flC_19_1, flC_19_2, arC_20, flC_21_0, flC_21_1, flC_21_2, arC_22, arC_23, flC_24_0, flC_24_1, flC_24_2, arC_25, flC_26_0, flC_26_1, flC_26_2, arC_27, arC_28, flC_29_0, arC_30, flC_31_0, flC_31_1, arC_32, arC_33, arC_34]
      try simp only [up, upL, rp, sf, cpy, Nat.reduceEqDiff, reduceIte, Int.reduceNeg, Int.reduceLE, Int.reduceLT, Int.reduceEq, Int.reduceAdd, Int.reduceSub, Int.reduceMul, ne_eq, not_true_eq_false, not_false_eq_true, true_and, and_true, and_self, false_implies, true_implies, implies_true, forall_const, Nat.reduceAdd, Int.add_zero, Int.zero_add, true_or, or_true, false_or, or_false, List.length_nil, List.length_cons]
      rw [rp_rp]
      exact hb k q (by unfold clR; rw [hk]) _ (FC_1 ⟨hc.1, hc.2⟩) c4 c3 (show 0 ≤ c 5 ∧ c 5 ≤ C 1 2 by have := hT.1; omega)
    · rw [e5] at hk
      have hkk := rdN_ok (by omega) hk
      have hcl : clR T n D p = closeP T n (addr D v) e := by unfold clR; rw [hk]
      rw [hcl] at hb ho
      (first | refine BX5_readRegent_0 ?_ | refine BX5_readRegent_17 ?_ | refine BX5_readRegent_18 ?_ | refine BX5_readRegent_21 ?_ | refine BX5_readRegent_31 ?_ | refine BX5_readRegent_36 ?_ | refine BX5_readRegent_47 ?_)
      dsimp only [bX5_readRegent_0, bX5_readRegent_17, bX5_readRegent_18, bX5_readRegent_21, bX5_readRegent_31, bX5_readRegent_36, bX5_readRegent_47, o_ald, o_clt, o_gf, o_ic, o_ild, o_ist, o_v0, o_v1, o_v2, o_vret, o_zeq, tk, lget, lput, lkill, lmask, ol, flC_0_0, flC_0_1, flC_0_2, flC_0_3, flC_0_4, flC_0_5, flC_0_6, flC_0_7, flC_0_8, flC_0_9, flC_0_10, flC_1_0, flC_1_1, flC_1_2, flC_1_3, flC_1_4, flC_1_5, flC_1_6, flC_1_7, flC_2_0, flC_2_1, flC_2_2, flC_2_3, flC_2_4, flC_2_5, flC_2_6, flC_2_7, flC_2_8, arC_3, arC_4, arC_5, arC_6, arC_7, arC_8, arC_9, flC_10_0, flC_10_1, flC_10_2, flC_10_3, flC_10_4, flC_10_5, flC_10_6, flC_10_7, flC_10_8, arC_11, arC_12, arC_13, arC_14, arC_15, arC_16, flC_17_0, arC_18, flC_19_0, flC_19_1, flC_19_2, arC_20, flC_21_0, flC_21_1, flC_21_2, arC_22, arC_23, flC_24_0, flC_24_1, flC_24_2, arC_25, flC_26_0, flC_26_1, flC_26_2, arC_27, arC_28, flC_29_0, arC_30, flC_31_0, flC_31_1, arC_32, arC_33, arC_34]
      try simp only [up, upL, rp, sf, cpy, Nat.reduceEqDiff, reduceIte, Int.reduceNeg, Int.reduceLE, Int.reduceLT, Int.reduceEq, Int.reduceAdd, Int.reduceSub, Int.reduceMul, ne_eq, not_true_eq_false, not_false_eq_true, true_and, and_true, and_self, false_implies, true_implies, implies_true, forall_const, Nat.reduceAdd, Int.add_zero, Int.zero_add, true_or, or_true, false_or, or_false, List.length_nil, List.length_cons]
      rw [rp_rp]
      refine ⟨rfl, k_close (C := C) (Q := Q) (TX_1 hT hc) c4 c5 (by omega) (by omega) (FC_1 hc) c3 hb (fun c' q => ?_) (fun c' hc' c3 c4 c5 hh => ?_)⟩
      · (first | refine BX5_readRegent_0 ?_ | refine BX5_readRegent_17 ?_ | refine BX5_readRegent_18 ?_ | refine BX5_readRegent_21 ?_ | refine BX5_readRegent_31 ?_ | refine BX5_readRegent_36 ?_ | refine BX5_readRegent_47 ?_)
        dsimp only [bX5_readRegent_0, bX5_readRegent_17, bX5_readRegent_18, bX5_readRegent_21, bX5_readRegent_31, bX5_readRegent_36, bX5_readRegent_47, o_ald, o_clt, o_gf, o_ic, o_ild, o_ist, o_v0, o_v1, o_v2, o_vret, o_zeq, tk, lget, lput, lkill, lmask, ol, flC_0_0, flC_0_1, flC_0_2, flC_0_3, flC_0_4, flC_0_5, flC_0_6, flC_0_7, flC_0_8, flC_0_9, flC_0_10, flC_1_0, flC_1_1, flC_1_2, flC_1_3, flC_1_4, flC_1_5, flC_1_6, flC_1_7, flC_2_0, flC_2_1, flC_2_2, flC_2_3, flC_2_4, flC_2_5, flC_2_6, flC_2_7, flC_2_8, arC_3, arC_4, arC_5, arC_6, arC_7, arC_8, arC_9, flC_10_0, flC_10_1, flC_10_2, flC_10_3, flC_10_4, flC_10_5, flC_10_6, flC_10_7, flC_10_8, arC_11, arC_12, arC_13, arC_14, arC_15, arC_16, flC_17_0, arC_18, flC_19_0, flC_19_1, flC_19_2, arC_20, flC_21_0, flC_21_1, flC_21_2, arC_22, arC_23, flC_24_0, flC_24_1, flC_24_2, arC_25, flC_26_0, flC_26_1, flC_26_2, arC_27, arC_28, flC_29_0, arC_30, flC_31_0, flC_31_1, arC_32, arC_33, arC_34]
        try simp only [up, upL, rp, sf, cpy, Nat.reduceEqDiff, reduceIte, Int.reduceNeg, Int.reduceLE, Int.reduceLT, Int.reduceEq, Int.reduceAdd, Int.reduceSub, Int.reduceMul, ne_eq, not_true_eq_false, not_false_eq_true, true_and, and_true, and_self, false_implies, true_implies, implies_true, forall_const, Nat.reduceAdd, Int.add_zero, Int.zero_add, true_or, or_true, false_or, or_false, List.length_nil, List.length_cons]
        (first | refine BX5_readRegent_0 ?_ | refine BX5_readRegent_17 ?_ | refine BX5_readRegent_18 ?_ | refine BX5_readRegent_21 ?_ | refine BX5_readRegent_31 ?_ | refine BX5_readRegent_36 ?_ | refine BX5_readRegent_47 ?_)
        dsimp only [bX5_readRegent_0, bX5_readRegent_17, bX5_readRegent_18, bX5_readRegent_21, bX5_readRegent_31, bX5_readRegent_36, bX5_readRegent_47, o_ald, o_clt, o_gf, o_ic, o_ild, o_ist, o_v0, o_v1, o_v2, o_vret, o_zeq, tk, lget, lput, lkill, lmask, ol, flC_0_0, flC_0_1, flC_0_2, flC_0_3, flC_0_4, flC_0_5, flC_0_6, flC_0_7, flC_0_8, flC_0_9, flC_0_10, flC_1_0, flC_1_1, flC_1_2, flC_1_3, flC_1_4, flC_1_5, flC_1_6, flC_1_7, flC_2_0, flC_2_1, flC_2_2, flC_2_3, flC_2_4, flC_2_5, flC_2_6, flC_2_7, flC_2_8, arC_3, arC_4, arC_5, arC_6, arC_7, arC_8, arC_9, flC_10_0, flC_10_1, flC_10_2, flC_10_3, flC_10_4, flC_10_5, flC_10_6, flC_10_7, flC_10_8, arC_11, arC_12, arC_13, arC_14, arC_15, arC_16, flC_17_0, arC_18, flC_19_0, flC_19_1, flC_19_2, arC_20, flC_21_0, flC_21_1, flC_21_2, arC_22, arC_23, flC_24_0, flC_24_1, flC_24_2, arC_25, flC_26_0, flC_26_1, flC_26_2, arC_27, arC_28, flC_29_0, arC_30, flC_31_0, flC_31_1, arC_32, arC_33, arC_34]
        try simp only [up, upL, rp, sf, cpy, Nat.reduceEqDiff, reduceIte, Int.reduceNeg, Int.reduceLE, Int.reduceLT, Int.reduceEq, Int.reduceAdd, Int.reduceSub, Int.reduceMul, ne_eq, not_true_eq_false, not_false_eq_true, true_and, and_true, and_self, false_implies, true_implies, implies_true, forall_const, Nat.reduceAdd, Int.add_zero, Int.zero_add, true_or, or_true, false_or, or_false, List.length_nil, List.length_cons]
        exact q
      · rw [rp_rp]
        have e2 : rp C 1 c' 2 2 = D 0 8 := e0
        (first | refine BX5_readRegent_0 ?_ | refine BX5_readRegent_17 ?_ | refine BX5_readRegent_18 ?_ | refine BX5_readRegent_21 ?_ | refine BX5_readRegent_31 ?_ | refine BX5_readRegent_36 ?_ | refine BX5_readRegent_47 ?_)
        dsimp only [bX5_readRegent_0, bX5_readRegent_17, bX5_readRegent_18, bX5_readRegent_21, bX5_readRegent_31, bX5_readRegent_36, bX5_readRegent_47, o_ald, o_clt, o_gf, o_ic, o_ild, o_ist, o_v0, o_v1, o_v2, o_vret, o_zeq, tk, lget, lput, lkill, lmask, ol, flC_0_0, flC_0_1, flC_0_2, flC_0_3, flC_0_4, flC_0_5, flC_0_6, flC_0_7, flC_0_8, flC_0_9, flC_0_10, flC_1_0, flC_1_1, flC_1_2, flC_1_3, flC_1_4, flC_1_5, flC_1_6, flC_1_7, flC_2_0, flC_2_1, flC_2_2, flC_2_3, flC_2_4, flC_2_5, flC_2_6, flC_2_7, flC_2_8, arC_3, arC_4, arC_5, arC_6, arC_7, arC_8, arC_9, flC_10_0, flC_10_1, flC_10_2, flC_10_3, flC_10_4, flC_10_5, flC_10_6, flC_10_7, flC_10_8, arC_11, arC_12, arC_13, arC_14, arC_15, arC_16, flC_17_0, arC_18, flC_19_0, flC_19_1, flC_19_2, arC_20, flC_21_0, flC_21_1, flC_21_2, arC_22, arC_23, flC_24_0, flC_24_1, flC_24_2, arC_25, flC_26_0, flC_26_1, flC_26_2, arC_27, arC_28, flC_29_0, arC_30, flC_31_0, flC_31_1, arC_32, arC_33, arC_34]
        try simp only [up, upL, rp, sf, cpy, Nat.reduceEqDiff, reduceIte, Int.reduceNeg, Int.reduceLE, Int.reduceLT, Int.reduceEq, Int.reduceAdd, Int.reduceSub, Int.reduceMul, ne_eq, not_true_eq_false, not_false_eq_true, true_and, and_true, and_self, false_implies, true_implies, implies_true, forall_const, Nat.reduceAdd, Int.add_zero, Int.zero_add, true_or, or_true, false_or, or_false, List.length_nil, List.length_cons]
        refine ⟨rfl, k_addRegent (by dsimp only; rw [e2]; omega) (by dsimp only; rw [e2]; omega) ?_⟩
        dsimp only
        rw [e2]
        (first | refine BX5_readRegent_0 ?_ | refine BX5_readRegent_17 ?_ | refine BX5_readRegent_18 ?_ | refine BX5_readRegent_21 ?_ | refine BX5_readRegent_31 ?_ | refine BX5_readRegent_36 ?_ | refine BX5_readRegent_47 ?_)
        dsimp only [bX5_readRegent_0, bX5_readRegent_17, bX5_readRegent_18, bX5_readRegent_21, bX5_readRegent_31, bX5_readRegent_36, bX5_readRegent_47, o_ald, o_clt, o_gf, o_ic, o_ild, o_ist, o_v0, o_v1, o_v2, o_vret, o_zeq, tk, lget, lput, lkill, lmask, ol, flC_0_0, flC_0_1, flC_0_2, flC_0_3, flC_0_4, flC_0_5, flC_0_6, flC_0_7, flC_0_8, flC_0_9, flC_0_10, flC_1_0, flC_1_1, flC_1_2, flC_1_3, flC_1_4, flC_1_5, flC_1_6, flC_1_7, flC_2_0, flC_2_1, flC_2_2, flC_2_3, flC_2_4, flC_2_5, flC_2_6, flC_2_7, flC_2_8, arC_3, arC_4, arC_5, arC_6, arC_7, arC_8, arC_9, flC_10_0, flC_10_1, flC_10_2, flC_10_3, flC_10_4, flC_10_5, flC_10_6, flC_10_7, flC_10_8, arC_11, arC_12, arC_13, arC_14, arC_15, arC_16, flC_17_0, arC_18, flC_19_0, flC_19_1, flC_19_2, arC_20, flC_21_0, flC_21_1, flC_21_2, arC_22, arC_23, flC_24_0, flC_24_1, flC_24_2, arC_25, flC_26_0, flC_26_1, flC_26_2, arC_27, arC_28, flC_29_0, arC_30, flC_31_0, flC_31_1, arC_32, arC_33, arC_34]
        try simp only [up, upL, rp, sf, cpy, Nat.reduceEqDiff, reduceIte, Int.reduceNeg, Int.reduceLE, Int.reduceLT, Int.reduceEq, Int.reduceAdd, Int.reduceSub, Int.reduceMul, ne_eq, not_true_eq_false, not_false_eq_true, true_and, and_true, and_self, false_implies, true_implies, implies_true, forall_const, Nat.reduceAdd, Int.add_zero, Int.zero_add, true_or, or_true, false_or, or_false, List.length_nil, List.length_cons]
        have hr : RC c' (C 1) := ⟨hc'.1.trans hc.1, hc'.2.trans hc.2⟩
        refine ho _ _ hh _ (FC_up (FC_up (FC_1 hr) (by omega) (by omega)) (by omega) (by omega)) ?_ c4 c3 c5
        obtain ⟨d1, d2, d3, d4, d5, d6⟩ := DC_1 hD hr
        refine ⟨d1, d2, rfl, d4, d5, fun r r0 r1 => ?_⟩
        have r1 : r < D 0 8 + 1 := r1
        show (if r = D 0 8 then v else C 8 r) = (if r = D 0 8 then v else D 6 r)
        by_cases hc : r = D 0 8
        · rw [if_pos hc, if_pos hc]
        · rw [if_neg hc, if_neg hc]; exact d6 r r0 (by omega)
  · rw [if_pos (by omega)] at hb
    (first | refine BX5_readRegent_0 ?_ | refine BX5_readRegent_17 ?_ | refine BX5_readRegent_18 ?_ | refine BX5_readRegent_21 ?_ | refine BX5_readRegent_31 ?_ | refine BX5_readRegent_36 ?_ | refine BX5_readRegent_47 ?_)
    dsimp only [bX5_readRegent_0, bX5_readRegent_17, bX5_readRegent_18, bX5_readRegent_21, bX5_readRegent_31, bX5_readRegent_36, bX5_readRegent_47, o_ald, o_clt, o_gf, o_ic, o_ild, o_ist, o_v0, o_v1, o_v2, o_vret, o_zeq, tk, lget, lput, lkill, lmask, ol, flC_0_0, flC_0_1, flC_0_2, flC_0_3, flC_0_4, flC_0_5, flC_0_6, flC_0_7, flC_0_8, flC_0_9, flC_0_10, flC_1_0, flC_1_1, flC_1_2, flC_1_3, flC_1_4, flC_1_5, flC_1_6, flC_1_7, flC_2_0, flC_2_1, flC_2_2, flC_2_3, flC_2_4, flC_2_5, flC_2_6, flC_2_7, flC_2_8, arC_3, arC_4, arC_5, arC_6, arC_7, arC_8, arC_9, flC_10_0, flC_10_1, flC_10_2, flC_10_3, flC_10_4, flC_10_5, flC_10_6, flC_10_7, flC_10_8, arC_11, arC_12, arC_13, arC_14, arC_15, arC_16, flC_17_0, arC_18, flC_19_0, flC_19_1, flC_19_2, arC_20, flC_21_0, flC_21_1, flC_21_2, arC_22, arC_23, flC_24_0, flC_24_1, flC_24_2, arC_25, flC_26_0, flC_26_1, flC_26_2, arC_27, arC_28, flC_29_0, arC_30, flC_31_0, flC_31_1, arC_32, arC_33, arC_34]
    try simp only [up, upL, rp, sf, cpy, Nat.reduceEqDiff, reduceIte, Int.reduceNeg, Int.reduceLE, Int.reduceLT, Int.reduceEq, Int.reduceAdd, Int.reduceSub, Int.reduceMul, ne_eq, not_true_eq_false, not_false_eq_true, true_and, and_true, and_self, false_implies, true_implies, implies_true, forall_const, Nat.reduceAdd, Int.add_zero, Int.zero_add, true_or, or_true, false_or, or_false, List.length_nil, List.length_cons]
    refine ⟨rfl, k_opens_bad ?_⟩
    (first | refine BX5_readRegent_0 ?_ | refine BX5_readRegent_17 ?_ | refine BX5_readRegent_18 ?_ | refine BX5_readRegent_21 ?_ | refine BX5_readRegent_31 ?_ | refine BX5_readRegent_36 ?_ | refine BX5_readRegent_47 ?_)
    dsimp only [bX5_readRegent_0, bX5_readRegent_17, bX5_readRegent_18, bX5_readRegent_21, bX5_readRegent_31, bX5_readRegent_36, bX5_readRegent_47, o_ald, o_clt, o_gf, o_ic, o_ild, o_ist, o_v0, o_v1, o_v2, o_vret, o_zeq, tk, lget, lput, lkill, lmask, ol, flC_0_0, flC_0_1, flC_0_2, flC_0_3, flC_0_4, flC_0_5, flC_0_6, flC_0_7, flC_0_8, flC_0_9, flC_0_10, flC_1_0, flC_1_1, flC_1_2, flC_1_3, flC_1_4, flC_1_5, flC_1_6, flC_1_7, flC_2_0, flC_2_1, flC_2_2, flC_2_3, flC_2_4, flC_2_5, flC_2_6, flC_2_7, flC_2_8, arC_3, arC_4, arC_5, arC_6, arC_7, arC_8, arC_9, flC_10_0, flC_10_1, flC_10_2, flC_10_3, flC_10_4, flC_10_5, flC_10_6, flC_10_7, flC_10_8, arC_11, arC_12, arC_13, arC_14, arC_15, arC_16, flC_17_0, arC_18, flC_19_0, flC_19_1, flC_19_2, arC_20, flC_21_0, flC_21_1, flC_21_2, arC_22, arC_23, flC_24_0, flC_24_1, flC_24_2, arC_25, flC_26_0, flC_26_1, flC_26_2, arC_27, arC_28, flC_29_0, arC_30, flC_31_0, flC_31_1, arC_32, arC_33, arC_34]
    try simp only [up, upL, rp, sf, cpy, Nat.reduceEqDiff, reduceIte, Int.reduceNeg, Int.reduceLE, Int.reduceLT, Int.reduceEq, Int.reduceAdd, Int.reduceSub, Int.reduceMul, ne_eq, not_true_eq_false, not_false_eq_true, true_and, and_true, and_self, false_implies, true_implies, implies_true, forall_const, Nat.reduceAdd, Int.add_zero, Int.zero_add, true_or, or_true, false_or, or_false, List.length_nil, List.length_cons]
    (first | refine BX5_readRegent_0 ?_ | refine BX5_readRegent_17 ?_ | refine BX5_readRegent_18 ?_ | refine BX5_readRegent_21 ?_ | refine BX5_readRegent_31 ?_ | refine BX5_readRegent_36 ?_ | refine BX5_readRegent_47 ?_)
    dsimp only [bX5_readRegent_0, bX5_readRegent_17, bX5_readRegent_18, bX5_readRegent_21, bX5_readRegent_31, bX5_readRegent_36, bX5_readRegent_47, o_ald, o_clt, o_gf, o_ic, o_ild, o_ist, o_v0, o_v1, o_v2, o_vret, o_zeq, tk, lget, lput, lkill, lmask, ol, flC_0_0, flC_0_1, flC_0_2, flC_0_3, flC_0_4, flC_0_5, flC_0_6, flC_0_7, flC_0_8, flC_0_9, flC_0_10, flC_1_0, flC_1_1, flC_1_2, flC_1_3, flC_1_4, flC_1_5, flC_1_6, flC_1_7, flC_2_0, flC_2_1, flC_2_2, flC_2_3, flC_2_4, flC_2_5, flC_2_6, flC_2_7, flC_2_8, arC_3, arC_4, arC_5, arC_6, arC_7, arC_8, arC_9, flC_10_0, flC_10_1, flC_10_2, flC_10_3, flC_10_4, flC_10_5, flC_10_6, flC_10_7, flC_10_8, arC_11, arC_12, arC_13, arC_14, arC_15, arC_16, flC_17_0, arC_18, flC_19_0, flC_19_1, flC_19_2, arC_20, flC_21_0, flC_21_1, flC_21_2, arC_22, arC_23, flC_24_0, flC_24_1, flC_24_2, arC_25, flC_26_0, flC_26_1, flC_26_2, arC_27, arC_28, flC_29_0, arC_30, flC_31_0, flC_31_1, arC_32, arC_33, arC_34]
    try simp only [up, upL, rp, sf, cpy, Nat.reduceEqDiff, reduceIte, Int.reduceNeg, Int.reduceLE, Int.reduceLT, Int.reduceEq, Int.reduceAdd, Int.reduceSub, Int.reduceMul, ne_eq, not_true_eq_false, not_false_eq_true, true_and, and_true, and_self, false_implies, true_implies, implies_true, forall_const, Nat.reduceAdd, Int.add_zero, Int.zero_add, true_or, or_true, false_or, or_false, List.length_nil, List.length_cons]
    exact hb 3 p rfl _ (FC_1 ⟨rfl, rfl⟩) rfl h5 (show 0 ≤ C 1 5 ∧ C 1 5 ≤ C 1 2 by have := hT.1; omega)
