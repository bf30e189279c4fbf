/-! arrays of other kinds, the static row, copies; returns, calls, switches, a method's entry -/
theorem Sx.moved {X : Cx} {s t : State} {H : Heap} {locs : List Loc} (h : Sx X s) (hS : va_S X.2.2.2 s.heap H locs) (ht : t.heap = H) (hv : s.vm.Alike t.vm) : Sx X t := by
  refine ⟨?_, ?_⟩
  · rw [ht]; exact va_Z.moved hv (h.1.kept hS.2.1)
  · rw [ht]; exact va_T.moved hv (h.2.kept hS.2.1)
theorem Wh.end {X : Cx} {sh : List Sh} {M : Me} {s t : State} {H : Heap} {locs : List Loc} (h : Wh X sh M s H locs) (ht : t.heap = H) (hv : s.vm.Alike t.vm) : Wd X sh M t :=
  ⟨by rw [ht]; exact h.1, va_K.moved hv h.2.1, h.2.2.1, h.2.2.2.2.moved h.2.2.2.1 ht hv⟩
theorem i32_bit {x : Int} (h : x = 0 ∨ x = 1) : i32 x &&& 1 = i32 x := by
  rcases h with rfl | rfl <;> decide +kernel
def fig (i : Int) : Int := if i = 0 then 1 else if i = 1 then 10 else if i = 2 then 100 else 1000
theorem fig_eq {i : Int} (h0 : 0 ≤ i) (h1 : i < 4) : figs i.toNat = .int (i32 (fig i)) := by
  rcases (by omega : i = 0 ∨ i = 1 ∨ i = 2 ∨ i = 3) with rfl | rfl | rfl | rfl <;> decide +kernel
theorem ce_upL {X : Cx} {sh : List Sh} {M : Me} {i v : Int} {id k : Nat} {s' : Sh} (h : ∀ (k : Nat) (s : Sh), k ≠ id → sh[k]? = some s → ∀ a b, s = .inl (a, b) → a < 2) (hk : k ≠ id) (hs : sh[k]? = some s') : ce X (M.1, upL M.2 i v) k s' = ce X M k s' := by
  have h := h k s' hk hs
  match s', h with
  | .inl (0, _), _ => rfl
  | .inl (1, _), _ => rfl
  | .inl (a + 2, b), h => exact absurd (h _ _ rfl) (by omega)
  | .inr _, _ => rfl
section MEM2
variable {l : Launch} {X : Cx} {sh : List Sh} {n : Nat} {mt : Mt} {Q : Qt} {pc : Nat} {k : Kt}
def o_zal (sh : List Sh) (k : Kt) : Kt := fun lv st M => match st with
  | .inl i :: .inr (.inr id) :: r => match arr sh 1 id with
    | some n => (0 ≤ i ∧ i < n) ∧ k lv (vI (M.1 id i) :: r) M
    | none => False
  | _ => False
theorem rt_zal (d : decode mt.2.1 pc = .ok (.baload, 1)) (h : ∀ lv st M, k lv st M → Tf l X sh n mt Q (pc + 1) lv st M) : ∀ lv st M, o_zal sh k lv st M → Tf l X sh n mt Q pc lv st M := by
  intro lv st M hk
  match st, hk with
  | .inl i :: .inr (.inr id) :: r, hk =>
    intro p e s m args below meth c hF H locs ls hW hL
    have hk : (match arr sh 1 id with
      | some n => (0 ≤ i ∧ i < n) ∧ k lv (vI (M.1 id i) :: r) M
      | none => False) := hk
    split at hk
    · rename_i nz hf
      obtain ⟨n0, rfl, b3, hf⟩ := arr_spec hf
      obtain ⟨⟨b1, b2⟩, hk⟩ := hk
      have w := h lv _ M hk p e s m args below meth c hF H locs ls hW hL
      obtain ⟨c1, c2⟩ := i32_in b1 b2 b3
      refine va_zald (D := X.1) hF.1 hF.2.1 hW.2.1 hW.1 id 1 ((wd_at hf).trans (by rw [ce_arr1])) rfl c1 d ?_
      rw [List.map_cons] at w
      rw [c2, show ((i.toNat : Nat) : Int) = i by omega]
      exact w
    · exact hk.elim
def o_zas (sh : List Sh) (k : Kt) : Kt := fun lv st M => match st with
  | .inl v :: .inl i :: .inr (.inr id) :: r => match arr sh 1 id with
    | some n => (0 ≤ i ∧ i < n) ∧ (v = 0 ∨ v = 1) ∧ k lv r (up M.1 id i v, M.2)
    | none => False
  | _ => False
theorem rt_zas (d : decode mt.2.1 pc = .ok (.bastore, 1)) (h : ∀ lv st M, k lv st M → Tf l X sh n mt Q (pc + 1) lv st M) : ∀ lv st M, o_zas sh k lv st M → Tf l X sh n mt Q pc lv st M := by
  intro lv st M hk
  match st, hk with
  | .inl v :: .inl i :: .inr (.inr id) :: r, hk =>
    intro p e s m args below meth c hF H locs ls hW hL
    have hk : (match arr sh 1 id with
      | some n => (0 ≤ i ∧ i < n) ∧ (v = 0 ∨ v = 1) ∧ k lv r (up M.1 id i v, M.2)
      | none => False) := hk
    split at hk
    · rename_i nz hf
      obtain ⟨n0, rfl, b3, hf⟩ := arr_spec hf
      obtain ⟨⟨b1, b2⟩, hv, hk⟩ := hk
      obtain ⟨c1, c2⟩ := i32_in b1 b2 b3
      refine va_zast (D := X.1) hF.1 hF.2.1 hW.2.1 hW.1 hW.2.2.1 hW.2.2.2.1 id 1 ((wd_at hf).trans (by rw [ce_arr1])) rfl c1 d (fun H1 locs1 hP hD hS => ?_)
      have e3 : (wd X sh M).set id (X.2.1 id, .inl (X.2.2.1.2.1, n0, .inl (upd (fun j : Nat => i32 (M.1 id j)) (i32 i).toNatClampNeg (vp_nar .boolean (i32 v))))) = wd X sh (up M.1 id i v, M.2) := by
        rw [show vp_nar .boolean (i32 v) = i32 v from i32_bit hv, c2, i32_upd b1, ← wd_set hf (M := M) (M' := (up M.1 id i v, M.2)) (fun k s' hk _ => ce_up hk)]
        rfl
      rw [e3] at hP hD
      exact h lv _ _ hk p e s m args below meth c hF H1 locs1 ls ⟨hP, hW.2.1, hD, hS, hW.2.2.2.2⟩ hL
    · exact hk.elim
def o_lal (sh : List Sh) (k : Kt) : Kt := fun lv st M => match st with
  | .inl i :: .inr (.inr id) :: r => match arr sh 2 id with
    | some n => (0 ≤ i ∧ i < n) ∧ k lv (vL (M.2 i) :: r) M
    | none => False
  | _ => False
theorem rt_lal (d : decode mt.2.1 pc = .ok (.laload, 1)) (h : ∀ lv st M, k lv st M → Tf l X sh n mt Q (pc + 1) lv st M) : ∀ lv st M, o_lal sh k lv st M → Tf l X sh n mt Q pc lv st M := by
  intro lv st M hk
  match st, hk with
  | .inl i :: .inr (.inr id) :: r, hk =>
    intro p e s m args below meth c hF H locs ls hW hL
    have hk : (match arr sh 2 id with
      | some n => (0 ≤ i ∧ i < n) ∧ k lv (vL (M.2 i) :: r) M
      | none => False) := hk
    split at hk
    · rename_i nz hf
      obtain ⟨n0, rfl, b3, hf⟩ := arr_spec hf
      obtain ⟨⟨b1, b2⟩, hk⟩ := hk
      have w := h lv _ M hk p e s m args below meth c hF H locs ls hW hL
      obtain ⟨c1, c2⟩ := i32_in b1 b2 b3
      refine va_lald (D := X.1) hF.1 hF.2.1 hW.2.1 hW.1 id 2 ((wd_at hf).trans (by rw [ce_arr2])) rfl c1 d ?_
      rw [List.map_cons] at w
      rw [c2, show ((i.toNat : Nat) : Int) = i by omega]
      exact w
    · exact hk.elim
def one2 (sh : List Sh) (id : Nat) : Prop := ∀ (k : Nat) (s : Sh), k ≠ id → sh[k]? = some s → ∀ a b, s = .inl (a, b) → a < 2
def o_las (sh : List Sh) (k : Kt) : Kt := fun lv st M => match st with
  | .inr (.inl v) :: .inl i :: .inr (.inr id) :: r => match arr sh 2 id with
    | some n => (0 ≤ i ∧ i < n) ∧ one2 sh id ∧ k lv r (M.1, upL M.2 i v)
    | none => False
  | _ => False
theorem rt_las (d : decode mt.2.1 pc = .ok (.lastore, 1)) (h : ∀ lv st M, k lv st M → Tf l X sh n mt Q (pc + 1) lv st M) : ∀ lv st M, o_las sh k lv st M → Tf l X sh n mt Q pc lv st M := by
  intro lv st M hk
  match st, hk with
  | .inr (.inl v) :: .inl i :: .inr (.inr id) :: r, hk =>
    intro p e s m args below meth c hF H locs ls hW hL
    have hk : (match arr sh 2 id with
      | some n => (0 ≤ i ∧ i < n) ∧ one2 sh id ∧ k lv r (M.1, upL M.2 i v)
      | none => False) := hk
    split at hk
    · rename_i nz hf
      obtain ⟨n0, rfl, b3, hf⟩ := arr_spec hf
      obtain ⟨⟨b1, b2⟩, hv, hk⟩ := hk
      obtain ⟨c1, c2⟩ := i32_in b1 b2 b3
      refine va_last (D := X.1) hF.1 hF.2.1 hW.2.1 hW.1 hW.2.2.1 hW.2.2.2.1 id 2 ((wd_at hf).trans (by rw [ce_arr2])) rfl c1 d (fun H1 locs1 hP hD hS => ?_)
      have e2 : vp_updL (fun j : Nat => i64 (M.2 j)) i.toNat (i64 v) = fun j : Nat => i64 (upL M.2 i v j) := by
        funext j
        show (if j = i.toNat then i64 v else i64 (M.2 j)) = i64 (if (j : Int) = i then v else M.2 j)
        by_cases hj : j = i.toNat
        · rw [if_pos hj, if_pos (by omega)]
        · rw [if_neg hj, if_neg (by omega)]
      have e3 : (wd X sh M).set id (X.2.1 id, .inl (X.2.2.1.2.2, n0, .inr (.inl (vp_updL (fun j : Nat => i64 (M.2 j)) (i32 i).toNatClampNeg (i64 v))))) = wd X sh (M.1, upL M.2 i v) := by
        rw [c2, e2, ← wd_set hf (M := M) (M' := (M.1, upL M.2 i v)) (fun k s' hk hs => ce_upL hv hk hs)]
        rfl
      rw [e3] at hP hD
      exact h lv _ _ hk p e s m args below meth c hF H1 locs1 ls ⟨hP, hW.2.1, hD, hS, hW.2.2.2.2⟩ hL
    · exact hk.elim
def o_gs (k : Kt) : Kt := fun lv st M => k lv (vR 1000 :: st) M
theorem rt_gs {ix : Nat} (d : decode mt.2.1 pc = .ok (.getstatic ix, 3)) (hw : Cond.fieldLink mt.1.cls ix "BoxedHeirs" "FIGURE_PLACES" "[I" ∈ TB) (h : ∀ lv st M, k lv st M → Tf l X sh n mt Q (pc + 3) lv st M) : ∀ lv st M, o_gs k lv st M → Tf l X sh n mt Q pc lv st M := by
  intro lv st M hk p e s m args below meth c hF H locs ls hW hL
  have w := h lv _ M hk p e s m args below meth c hF H locs ls hW hL
  rw [List.map_cons] at w
  exact va_gets hF.1 hF.2.1 hW.2.2.2.2.1 hW.2.2.2.1 hF.2.2.2.2.1 (hF.2.2.2.2.2.1 _ hw) (fun _ h9 => h9) d w
def o_ials (k : Kt) : Kt := fun lv st M => match st with
  | .inl i :: .inr (.inr id) :: r => id = 1000 ∧ (0 ≤ i ∧ i < 4) ∧ k lv (vI (fig i) :: r) M
  | _ => False
theorem rt_ials (d : decode mt.2.1 pc = .ok (.iaload, 1)) (h : ∀ lv st M, k lv st M → Tf l X sh n mt Q (pc + 1) lv st M) : ∀ lv st M, o_ials k lv st M → Tf l X sh n mt Q pc lv st M := by
  intro lv st M hk
  match st, hk with
  | .inl i :: .inr (.inr id) :: r, ⟨hid, ⟨b1, b2⟩, hk⟩ =>
    subst hid
    intro p e s m args below meth c hF H locs ls hW hL
    have w := h lv _ M hk p e s m args below meth c hF H locs ls hW hL
    rw [List.map_cons] at w
    obtain ⟨c1, c2⟩ := i32_in (n := 4) b1 (by omega) (by omega)
    exact va_ti hF.1 hF.2.1 hW.2.2.2.2.2 hW.2.2.2.1 c1 (by rw [c2]; exact fig_eq b1 b2) d w
def o_acp (sh : List Sh) (k : Kt) : Kt := fun lv st M => match st with
  | .inl z :: .inl dp :: .inr (.inr b) :: .inl sp :: .inr (.inr a) :: r => match arr sh 0 a, arr sh 0 b with
    | some na, some nb => (0 ≤ sp ∧ 0 ≤ dp ∧ 0 ≤ z ∧ sp + z ≤ na ∧ dp + z ≤ nb) ∧ r = [] ∧ k lv [] (cpy M.1 a sp b dp z, M.2)
    | _, _ => False
  | _ => False
theorem rt_acp {ix : Nat} (d : decode mt.2.1 pc = .ok (.invokestatic ix, 3)) (hw : Cond.methodLink mt.1.cls ix arraycopyName ∈ TB) (h1 : Cond.native arraycopyName ∈ TB) (h2 : Cond.static arraycopyName ∈ TB) (h3 : Cond.initialized "java/lang/System" ∈ TB) (hn : 1 ≤ n) (h : ∀ lv st M, k lv st M → Tf l X sh n mt Q (pc + 3) lv st M) : ∀ lv st M, o_acp sh k lv st M → Tf l X sh n mt Q pc lv st M := by
  intro lv st M hk
  match st, hk with
  | .inl z :: .inl dp :: .inr (.inr b) :: .inl sp :: .inr (.inr a) :: r, hk =>
    intro p e s m args below meth c hF H locs ls hW hL
    have hk : (match arr sh 0 a, arr sh 0 b with
      | some na, some nb => (0 ≤ sp ∧ 0 ≤ dp ∧ 0 ≤ z ∧ sp + z ≤ na ∧ dp + z ≤ nb) ∧ r = [] ∧ k lv [] (cpy M.1 a sp b dp z, M.2)
      | _, _ => False) := hk
    split at hk
    · rename_i na nb ha hb
      obtain ⟨na, rfl, b6, ha⟩ := arr_spec ha
      obtain ⟨nb, rfl, b7, hb⟩ := arr_spec hb
      obtain ⟨⟨b1, b2, b3, b4, b5⟩, hr, hk2⟩ := hk
      subst hr
      have n0 : ∀ {w : Int}, 0 ≤ w → w ≤ 2147483647 → ¬ i32 w < 0 ∧ (i32 w).toNatClampNeg = w.toNat := by
        intro w w1 w2
        have e := i32_toInt (x := w) (by omega) w2
        refine ⟨fun q => ?_, ?_⟩
        · rw [Int32.lt_iff_toInt_lt, e] at q
          exact absurd q (by simp; omega)
        · show (i32 w).toInt.toNat = w.toNat
          rw [e]
      obtain ⟨p1, q1⟩ := n0 b1 (by omega)
      obtain ⟨p2, q2⟩ := n0 b2 (by omega)
      obtain ⟨p3, q3⟩ := n0 b3 (by omega)
      refine va_copyi (D := X.1) (ty := .int) hF.1 hF.2.1 (by rw [hF.2.2.2.1]; exact hL.1.symm) hF.2.2.2.2.1 (hF.2.2.2.2.2.1 _ hw) (hF.2.2.2.2.2.1 _ h1) (hF.2.2.2.2.2.1 _ h2) (hF.2.2.2.2.2.1 _ h3) hW.2.1 hW.1 hW.2.2.1 hW.2.2.2.1 a b 0 0 ((wd_at ha).trans (by rw [ce_arr0])) ((wd_at hb).trans (by rw [ce_arr0])) rfl rfl rfl p1 p2 p3 (by rw [q1, q3]; omega) (by rw [q2, q3]; omega) (fun _ _ => rfl) hn ?_ d (fun H1 locs1 hP hD hS => ?_)
      · show 0 + (nativeFrameWords "java/lang/System" "arraycopy" 5 + 11) ≤ 40 * n
        have : nativeFrameWords "java/lang/System" "arraycopy" 5 = 7 := by decide
        omega
      have e2 : va_cpy (fun j : Nat => i32 (M.1 a j)) (fun j : Nat => i32 (M.1 b j)) sp.toNat dp.toNat z.toNat = fun j : Nat => i32 (cpy M.1 a sp b dp z b j) := by
        funext j
        unfold va_cpy cpy
        rw [if_pos rfl]
        by_cases hj : dp.toNat ≤ j ∧ j < dp.toNat + z.toNat
        · rw [if_pos hj, if_pos (by omega)]
          show i32 (M.1 a ((sp.toNat + (j - dp.toNat) : Nat) : Int)) = _
          rw [show ((sp.toNat + (j - dp.toNat) : Nat) : Int) = sp + ((j : Int) - dp) by omega]
        · rw [if_neg hj, if_neg (by omega)]
      have e3 : (wd X sh M).set b (X.2.1 b, .inl (X.2.2.1.1, nb, .inl (va_cpy (fun j : Nat => i32 (M.1 a j)) (fun j : Nat => i32 (M.1 b j)) (i32 sp).toNatClampNeg (i32 dp).toNatClampNeg (i32 z).toNatClampNeg))) = wd X sh (cpy M.1 a sp b dp z, M.2) := by
        rw [q1, q2, q3, e2, ← wd_set hb (M := M) (M' := (cpy M.1 a sp b dp z, M.2)) (fun k s' hk _ => by
          have e4 : cpy M.1 a sp b dp z k = M.1 k := by funext j; simp [cpy, hk]
          unfold ce
          simp only [e4])]
        rfl
      rw [e3] at hP hD
      exact h lv _ _ hk2 p e s m args below meth c hF H1 locs1 ls ⟨hP, hW.2.1, hD, hS, hW.2.2.2.2⟩ hL
    · exact hk.elim
-- returns
def o_iret (Q : Qt) : Kt := fun _ st M => match st with
  | [.inl x] => Q (some (vI x)) M
  | _ => False
theorem rt_iret (d : decode mt.2.1 pc = .ok (.ireturn, 1)) (hr : mt.2.2.2 = some .int) : ∀ lv st M, o_iret Q lv st M → Tf l X sh n mt Q pc lv st M := by
  intro lv st M hk
  match st, hk with
  | [.inl x], hk =>
    intro p e s m args below meth c hF H locs ls hW hL
    exact W.iret hF.1 hF.2.1 (hF.2.2.1.trans hr) (fun t ht hv => ⟨⟨some (vI x), M, rfl, hk, hW.end ht hv.alike⟩, hW.2.2.2.1.F ht⟩) hW.2.2.2.1.2.2 d hF.2.2.2.2.2.2
def o_zret (Q : Qt) : Kt := fun _ st M => match st with
  | [.inl x] => (x = 0 ∨ x = 1) ∧ Q (some (vI x)) M
  | _ => False
theorem rt_zret (d : decode mt.2.1 pc = .ok (.ireturn, 1)) (hr : mt.2.2.2 = some .boolean) : ∀ lv st M, o_zret Q lv st M → Tf l X sh n mt Q pc lv st M := by
  intro lv st M hk
  match st, hk with
  | [.inl x], ⟨hx, hk⟩ =>
    intro p e s m args below meth c hF H locs ls hW hL
    exact W.zret hF.1 hF.2.1 (hF.2.2.1.trans hr) (congrArg Value.int (i32_bit hx)) (fun t ht hv => ⟨⟨some (vI x), M, rfl, hk, hW.end ht hv.alike⟩, hW.2.2.2.1.F ht⟩) hW.2.2.2.1.2.2 d hF.2.2.2.2.2.2
def o_lret (Q : Qt) : Kt := fun _ st M => match st with
  | [.inr (.inl x)] => Q (some (vL x)) M
  | _ => False
theorem rt_lret (d : decode mt.2.1 pc = .ok (.lreturn, 1)) (hr : mt.2.2.2 = some .long) : ∀ lv st M, o_lret Q lv st M → Tf l X sh n mt Q pc lv st M := by
  intro lv st M hk
  match st, hk with
  | [.inr (.inl x)], hk =>
    intro p e s m args below meth c hF H locs ls hW hL
    exact W.lret hF.1 hF.2.1 (hF.2.2.1.trans hr) (fun t ht hv => ⟨⟨some (vL x), M, rfl, hk, hW.end ht hv.alike⟩, hW.2.2.2.1.F ht⟩) hW.2.2.2.1.2.2 d hF.2.2.2.2.2.2
def o_vret (Q : Qt) : Kt := fun _ st M => match st with
  | [] => Q none M
  | _ => False
theorem rt_vret (d : decode mt.2.1 pc = .ok (.return_, 1)) (hr : mt.2.2.2 = none) : ∀ lv st M, o_vret Q lv st M → Tf l X sh n mt Q pc lv st M := by
  intro lv st M hk
  match st, hk with
  | [], hk =>
    intro p e s m args below meth c hF H locs ls hW hL
    exact W.vret hF.1 hF.2.1 (hF.2.2.1.trans hr) (fun t ht hv => ⟨⟨none, M, rfl, hk, hW.end ht hv.alike⟩, hW.2.2.2.1.F ht⟩) hW.2.2.2.1.2.2 d hF.2.2.2.2.2.2
-- calls
def ol (v : Option Vl) (r : List Vl) : List Vl := match v with
  | some a => a :: r
  | none => r
theorem Wd.blind {M : Me} {av : List Value} : FrameBlind (va_Pc av (Wd X sh M)) := fun a U g mk q => ⟨q.1, q.2.1, va_K.moved (u := U) (U := U.calling g mk a) (Vm.Alike.refl U.vm) q.2.2.1, q.2.2.2.1, va_Z.moved (u := U) (U := U.calling g mk a) (Vm.Alike.refl U.vm) q.2.2.2.2.1, va_T.moved (u := U) (U := U.calling g mk a) (Vm.Alike.refl U.vm) q.2.2.2.2.2⟩
theorem catsum (sg : Nat → Nat) : ∀ (r : List Vl), ((r.map (tr sg)).map fun v => v.category).sum ≤ 2 * r.length
  | [] => Nat.le_refl _
  | a :: r => by
    have := catsum sg r
    have h2 : (tr sg a).category ≤ 2 := by rcases lv_cat (tr sg a) with h | h <;> omega
    simp only [List.map_cons, List.sum_cons, List.length_cons]
    omega
theorem wr_good {mt' : Mt} (hc : Cond.code mt'.1 mt'.2.1 mt'.2.2.1 mt'.2.2.2 ∈ TB) : GoodIn TB (wr mt') := fun w hw => by
  have h : w ∈ TB := by
    rcases List.mem_cons.mp hw with rfl | h
    · exact hc
    · exact h
  exact ⟨h, good_of_word (List.mem_filter.mp h).2⟩
/-- behind a call -/
theorem call_back {p : Program} {e : Env} {s : State} {m : MethodId} {args : Array Value} {below : List Frame} {meth : Method} {c : Code} {H : Heap} {locs : List Loc} {ls : Array Slot} {lv : Lv} {r st0 : List Vl} {M : Me} {a : Array Value} {Q' : Qt} (hF : Fx p s m args meth c mt) (hW : Wh X sh M s H locs) (hL : Lh X.2.1 ls mt.2.2.1 lv)
    (hr : va_Run p l e (rml n) s m args below meth c H locs 0 0 0 0 (F0 m pc ls (st0.map (tr X.2.1))) (r.map (tr X.2.1)) (Qm X sh Q' a) X.2.2.2) (h : ∀ v M', Q' v M' → Tf l X sh n mt Q (pc + 3) lv (ol v r) M') : W p l e (rml n) s m args below meth c H locs 0 0 (MQ below (Qm X sh Q) args s 0 0 X.2.2.2) (F0 m pc ls (st0.map (tr X.2.1))) := by
  intro T hT Y
  obtain ⟨v, st₀, t, T', L, h0, Y', hL2, e1, e2, ⟨⟨v', M', hv, hq, hWd⟩, hz, hk⟩, st⟩ := hr T hT Y
  cases hv
  rw [h0] at hz hk
  have hS := hW.2.2.2.1
  have w := h v' M' hq p e s m args below meth c hF T'.heap (locs ++ L) ls ⟨by rw [e1]; exact hWd.1, hW.2.1, hWd.2.2.1, ⟨Nat.le_trans hS.1 (by rw [e1]; exact hz), fun q h1 h2 => by rw [e1, hk q (Nat.lt_of_lt_of_le h1 hS.1) h2]; exact hS.2.1 q h1 h2, fun q hq => by
      rcases List.mem_append.mp hq with h | h
      · exact hS.2.2 q h
      · exact hL2 q h⟩, hW.2.2.2.2⟩ hL
  have es : (v'.map (tr X.2.1)).toList ++ r.map (tr X.2.1) = (ol v' r).map (tr X.2.1) := by cases v' <;> rfl
  rw [← es] at w
  obtain ⟨t2, a1, b1⟩ := w T' rfl Y'
  exact ⟨t2, st t2 a1, b1⟩
theorem rt_cs {ix na n' : Nat} {mt' : Mt} (d : decode mt.2.1 pc = .ok (.invokestatic ix, 3)) (hl : Cond.methodLink mt.1.cls ix mt'.1 ∈ TB) (hs : Cond.static mt'.1 ∈ TB) (hi : Cond.initialized mt'.1.cls ∈ TB) (hc : Cond.code mt'.1 mt'.2.1 mt'.2.2.1 mt'.2.2.2 ∈ TB) (hd : mt'.1.cls ≠ "java/lang/invoke/MethodHandle" ∧ mt'.1.cls ≠ "java/lang/invoke/VarHandle" ∧ (parseMethodDescriptor mt'.1.desc).map (fun d => d.parameters.length) = some na) (hn : n' < n) (hm : mt'.2.2.1 ≤ 21)
    {lv : Lv} {av r : List Vl} {M : Me} {Q' : Qt} (hav : av.length = na) (hr : r.length ≤ 4) (ht : TM l X sh n' mt' av M Q') (h : ∀ v M', Q' v M' → Tf l X sh n mt Q (pc + 3) lv (ol v r) M') : Tf l X sh n mt Q pc lv (av.reverse ++ r) M := by
  intro p e s m args below meth c hF H locs ls hW hL
  have hts := hF.2.2.2.2.2.1
  refine call_back hF hW hL (va_runS (As := av.map (tr X.2.1)) (rest := r.map (tr X.2.1)) (n := na) ⟨hF.1, hF.2.1, hF.2.2.2.1, hF.2.2.2.2.1, hts⟩ ht ⟨callB_of na hts (wr_good hc) rfl rfl rfl (hts _ hi) (hts _ hl) hd ⟨hn, by show 8 + (mt'.2.2.1 + 11) + 40 * n' ≤ 40 * n; omega⟩, hts _ hs⟩ ⟨Wd.blind, fun U hU hv => ⟨rfl, hW.end hU hv.alike⟩⟩ rfl (by rw [List.length_map]; exact hav) hL.1 (by show List.map _ _ = _; rw [List.map_append, List.map_reverse]) (lv_room (Nat.le_trans (catsum _ r) (by omega))) d ⟨Nat.le_refl 0, Nat.le_refl 0⟩) h
theorem rt_cv {ix na n' ci N id : Nat} {C : String} {T : u_T} {mt' : Mt} (d : decode mt.2.1 pc = .ok (.invokevirtual ix, 3)) (hcl : vwCl[ci]? = some (C, T, N)) (hl : Cond.methodLink mt.1.cls ix mt'.1 ∈ TB) (hs : Cond.instanceMethod mt'.1 ∈ TB) (hse : Cond.selects C mt'.1 mt'.1 ∈ TB) (hi : Cond.initialized mt'.1.cls ∈ TB) (hc : Cond.code mt'.1 mt'.2.1 mt'.2.2.1 mt'.2.2.2 ∈ TB) (hd : mt'.1.cls ≠ "java/lang/invoke/MethodHandle" ∧ mt'.1.cls ≠ "java/lang/invoke/VarHandle" ∧ (parseMethodDescriptor mt'.1.desc).map (fun d => d.parameters.length) = some na) (hn : n' < n) (hm : mt'.2.2.1 ≤ 21)
    {lv : Lv} {av r : List Vl} {M : Me} {Q' : Qt} (hav : av.length = na) (hid : cls sh id = some ci) (hr : r.length ≤ 4) (ht : TM l X sh n' mt' (vR id :: av) M Q') (h : ∀ v M', Q' v M' → Tf l X sh n mt Q (pc + 3) lv (ol v r) M') : Tf l X sh n mt Q pc lv (av.reverse ++ vR id :: r) M := by
  intro p e s m args below meth c hF H locs ls hW hL
  have hts := hF.2.2.2.2.2.1
  obtain ⟨fl, hfl⟩ := cls_spec hid
  refine call_back hF hW hL (va_runV (C := C) (b := X.2.1 id) (As := av.map (tr X.2.1)) (rest := r.map (tr X.2.1)) (n := na) ⟨hF.1, hF.2.1, hF.2.2.2.1, hF.2.2.2.2.1, hts⟩ ht ⟨callB_of na hts (wr_good hc) rfl rfl rfl (hts _ hi) (hts _ hl) hd ⟨hn, by show 8 + (mt'.2.2.1 + 11) + 40 * n' ≤ 40 * n; omega⟩, hts _ hs, hts _ hse⟩ ⟨Wd.blind, va_recv hW.2.1 hW.1 hcl ((wd_at hfl).trans (by rw [ce_obj])), fun U hU hv => ⟨rfl, hW.end hU hv.alike⟩⟩ rfl (by rw [List.length_map]; exact hav) hL.1 (by show List.map _ _ = _; rw [List.map_append, List.map_reverse]; rfl) (lv_room (Nat.le_trans (catsum _ r) (by omega))) d ⟨Nat.le_refl 0, Nat.le_refl 0⟩) h
end MEM2
