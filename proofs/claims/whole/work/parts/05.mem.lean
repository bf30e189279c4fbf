/-! THE WORLD's rows: fields, arrays, calls, returns, switches -/
def up (f : Nat → Int → Int) (k : Nat) (i v : Int) (k' : Nat) (i' : Int) : Int := if k' = k then (if i' = i then v else f k' i') else f k' i'
def upL (f : Int → Int) (i v : Int) (i' : Int) : Int := if i' = i then v else f i'
def cpy (f : Nat → Int → Int) (a : Nat) (sp : Int) (b : Nat) (dp n : Int) (k : Nat) (i : Int) : Int := if k = b then (if dp ≤ i ∧ i < dp + n then f a (sp + (i - dp)) else f k i) else f k i
def sget : List Sh → Nat → Option Sh
  | [], _ => none
  | a :: _, 0 => some a
  | _ :: r, n + 1 => sget r n
def fget : List (Option Nat) → Nat → Option (Option Nat)
  | [], _ => none
  | a :: _, 0 => some a
  | _ :: r, n + 1 => fget r n
theorem sget_eq : ∀ (l : List Sh) (k : Nat), sget l k = l[k]?
  | [], _ => rfl
  | _ :: _, 0 => rfl
  | _ :: r, n + 1 => by rw [sget, sget_eq r n, List.getElem?_cons_succ]
theorem fget_eq : ∀ (l : List (Option Nat)) (k : Nat), fget l k = l[k]?
  | [], _ => rfl
  | _ :: _, 0 => rfl
  | _ :: r, n + 1 => by rw [fget, fget_eq r n, List.getElem?_cons_succ]
/-- the field at a slot of a cell that is an object of class ci: another cell's place, or a number -/
def fld (sh : List Sh) (id ci k : Nat) : Option (Option Nat) := match sget sh id with
  | some (.inr (c, fl)) => if c = ci then fget fl k else none
  | _ => none
/-- an array of a kind (0 int, 1 boolean, 2 long): its length -/
def arr (sh : List Sh) (t id : Nat) : Option Int := match sget sh id with
  | some (.inl (a, n)) => if a = t ∧ n < 2147483648 then some (n : Int) else none
  | _ => none
def cls (sh : List Sh) (id : Nat) : Option Nat := match sget sh id with
  | some (.inr (c, _)) => some c
  | _ => none
theorem wd_at {X : Cx} {sh : List Sh} {M : Me} {id : Nat} {s : Sh} (h : sh[id]? = some s) : (wd X sh M)[id]? = some (X.2.1 id, ce X M id s) := by
  unfold wd
  rw [List.getElem?_mapIdx, h]
  rfl
theorem fld_spec {sh : List Sh} {id ci k : Nat} {o : Option Nat} (h : fld sh id ci k = some o) : ∃ fl, sh[id]? = some (.inr (ci, fl)) ∧ fl[k]? = some o := by
  unfold fld at h
  split at h
  · rename_i c fl hs
    split at h
    · rename_i e
      subst e
      exact ⟨fl, by rw [← sget_eq]; exact hs, by rw [← fget_eq]; exact h⟩
    · cases h
  · cases h
theorem arr_spec {sh : List Sh} {t id : Nat} {z : Int} (h : arr sh t id = some z) : ∃ n : Nat, z = n ∧ n < 2147483648 ∧ sh[id]? = some (.inl (t, n)) := by
  unfold arr at h
  split at h
  · rename_i a n hs
    split at h
    · rename_i e
      obtain ⟨rfl, e2⟩ := e
      cases h
      exact ⟨n, rfl, e2, by rw [← sget_eq]; exact hs⟩
    · cases h
  · cases h
theorem cls_spec {sh : List Sh} {id ci : Nat} (h : cls sh id = some ci) : ∃ fl, sh[id]? = some (.inr (ci, fl)) := by
  unfold cls at h
  split at h
  · rename_i c fl hs
    cases h
    exact ⟨fl, by rw [← sget_eq]; exact hs⟩
  · cases h
theorem up_same {f : Nat → Int → Int} {k : Nat} {i v : Int} : up f k i v k = fun j => if j = i then v else f k j := by
  funext j; simp [up]
theorem up_ne {f : Nat → Int → Int} {k k' : Nat} {i v : Int} (h : k' ≠ k) : up f k i v k' = f k' := by
  funext j; simp [up, h]
/-- a world whose cell at 'id' alone is written anew -/
theorem wd_set {X : Cx} {sh : List Sh} {M M' : Me} {id : Nat} {s : Sh} (h : sh[id]? = some s) (ho : ∀ (k : Nat) (s' : Sh), k ≠ id → sh[k]? = some s' → ce X M' k s' = ce X M k s') : (wd X sh M).set id (X.2.1 id, ce X M' id s) = wd X sh M' := by
  apply List.ext_getElem?
  intro k
  by_cases hk : k = id
  · subst hk
    rw [List.getElem?_set_self (by unfold wd; rw [List.length_mapIdx]; exact (List.getElem?_eq_some_iff.mp h).1), wd_at h]
  · rw [List.getElem?_set_ne (Ne.symm hk)]
    cases hs : sh[k]? with
    | none => unfold wd; rw [List.getElem?_mapIdx, List.getElem?_mapIdx, hs]; rfl
    | some s' => rw [wd_at hs, wd_at hs, ho k s' hk hs]
theorem ce_up {X : Cx} {f : Nat → Int → Int} {g : Int → Int} {k id : Nat} {i v : Int} {s' : Sh} (h : k ≠ id) : ce X (up f id i v, g) k s' = ce X (f, g) k s' := by
  unfold ce
  simp only [up_ne h]
theorem ce_arr0 {X : Cx} {M : Me} {id n : Nat} : ce X M id (.inl (0, n)) = .inl (X.2.2.1.1, n, .inl (fun j => i32 (M.1 id j))) := rfl
theorem ce_arr1 {X : Cx} {M : Me} {id n : Nat} : ce X M id (.inl (1, n)) = .inl (X.2.2.1.2.1, n, .inl (fun j => i32 (M.1 id j))) := rfl
theorem ce_arr2 {X : Cx} {M : Me} {id n : Nat} : ce X M id (.inl (2, n)) = .inl (X.2.2.1.2.2, n, .inr (.inl (fun j => i64 (M.2 j)))) := rfl
theorem ce_obj {X : Cx} {M : Me} {id ci : Nat} {fl : List (Option Nat)} : ce X M id (.inr (ci, fl)) = .inr (ci, fl.mapIdx (fv X.2.1 (M.1 id))) := rfl
section MEM
variable {l : Launch} {X : Cx} {sh : List Sh} {n : Nat} {mt : Mt} {Q : Qt} {pc : Nat} {k : Kt}
def o_gf (sh : List Sh) (ci sl : Nat) (z : Int) (k : Kt) : Kt := fun lv st M => match st with
  | .inr (.inr id) :: r => match fld sh id ci sl with
    | some (some o) => k lv (vR o :: r) M
    | some none => k lv (vI (M.1 id z) :: r) M
    | none => False
  | _ => False
theorem rt_gf {ix ci sl N : Nat} {z : Int} {C : String} {T : u_T} (d : decode mt.2.1 pc = .ok (.getfield ix, 3)) (hc : vwCl[ci]? = some (C, T, N)) (hin : ∀ w ∈ u_ws C T N, w ∈ TB) (hs : sl < N) (hz : (sl : Int) = z) (hw : Cond.fieldLink mt.1.cls ix (T sl).1 (T sl).2.1 (T sl).2.2.1 ∈ TB) (h : ∀ lv st M, k lv st M → Tf l X sh n mt Q (pc + 3) lv st M) : ∀ lv st M, o_gf sh ci sl z k lv st M → Tf l X sh n mt Q pc lv st M := by
  subst hz
  intro lv st M hk
  match st, hk with
  | .inr (.inr id) :: r, hk =>
    intro p e s m args below meth c hF H locs ls hW hL
    have hk : (match fld sh id ci sl with
      | some (some o) => k lv (vR o :: r) M
      | some none => k lv (vI (M.1 id sl) :: r) M
      | none => False) := hk
    split at hk
    · rename_i o hf
      obtain ⟨fl, h1, h2⟩ := fld_spec hf
      have w := h lv _ M hk p e s m args below meth c hF H locs ls hW hL
      rw [List.map_cons] at w
      exact va_get (D := X.1) (v := tr X.2.1 (vR o)) hF.1 hF.2.1 hF.2.2.2.2.2.1 hin hF.2.2.2.2.1 hW.2.1 hW.1 id ((wd_at h1).trans (by rw [ce_obj])) hc sl hs (hF.2.2.2.2.2.1 _ hw) (fun _ h9 => h9) (by rw [List.getElem?_mapIdx, h2]; rfl) d w
    · rename_i hf
      obtain ⟨fl, h1, h2⟩ := fld_spec hf
      have w := h lv _ M hk p e s m args below meth c hF H locs ls hW hL
      rw [List.map_cons] at w
      exact va_get (D := X.1) (v := tr X.2.1 (vI (M.1 id sl))) hF.1 hF.2.1 hF.2.2.2.2.2.1 hin hF.2.2.2.2.1 hW.2.1 hW.1 id ((wd_at h1).trans (by rw [ce_obj])) hc sl hs (hF.2.2.2.2.2.1 _ hw) (fun _ h9 => h9) (by rw [List.getElem?_mapIdx, h2]; rfl) d w
    · exact hk.elim
def o_pf (sh : List Sh) (ci sl : Nat) (z : Int) (k : Kt) : Kt := fun lv st M => match st with
  | .inl v :: .inr (.inr id) :: r => fld sh id ci sl = some none ∧ k lv r (up M.1 id z v, M.2)
  | _ => False
theorem rt_pf {ix ci sl N : Nat} {z : Int} {C : String} {T : u_T} (d : decode mt.2.1 pc = .ok (.putfield ix, 3)) (hc : vwCl[ci]? = some (C, T, N)) (hin : ∀ w ∈ u_ws C T N, w ∈ TB) (ty0 : Nat → FieldType) (hty : ∀ k, k < N → parseFieldDescriptor (T k).2.2.1 = some (ty0 k)) (hnm : ∀ a, a < N → ∀ b, b < N → a ≠ b → (T a).2.1 ≠ (T b).2.1) (hs : sl < N) (hz : (sl : Int) = z) (hd : (T sl).2.2 = ("I", false)) (hw : Cond.fieldLink mt.1.cls ix (T sl).1 (T sl).2.1 (T sl).2.2.1 ∈ TB) (h : ∀ lv st M, k lv st M → Tf l X sh n mt Q (pc + 3) lv st M) : ∀ lv st M, o_pf sh ci sl z k lv st M → Tf l X sh n mt Q pc lv st M := by
  subst hz
  intro lv st M hk
  match st, hk with
  | .inl v :: .inr (.inr id) :: r, ⟨hf, hk⟩ =>
    intro p e s m args below meth c hF H locs ls hW hL
    obtain ⟨fl, h1, h2⟩ := fld_spec hf
    have hlen : sl < fl.length := (List.getElem?_eq_some_iff.mp h2).1
    refine va_put (D := X.1) (v := tr X.2.1 (vI v)) (ty := .int) hF.1 hF.2.1 hF.2.2.2.2.2.1 hin ty0 hty hnm hF.2.2.2.2.1 hW.2.1 hW.1 hW.2.2.1 hW.2.2.2.1 id ((wd_at h1).trans (by rw [ce_obj])) hc sl hs (hF.2.2.2.2.2.1 _ hw) (fun _ h9 => h9) (by rw [hd]) (by rw [hd]; decide +kernel) rfl rfl (by rw [List.length_mapIdx]; exact hlen) d (fun H1 locs1 hP hD hS => ?_)
    have e2 : (fl.mapIdx (fv X.2.1 (M.1 id))).set sl (tr X.2.1 (vI v)) = fl.mapIdx (fv X.2.1 ((up M.1 id sl v) id)) := by
      apply List.ext_getElem?
      intro j
      by_cases hj : j = sl
      · subst hj
        rw [List.getElem?_set_self (by rw [List.length_mapIdx]; exact hlen), List.getElem?_mapIdx, h2, up_same]
        simp [fv, tr]
      · rw [List.getElem?_set_ne (Ne.symm hj), List.getElem?_mapIdx, List.getElem?_mapIdx, up_same]
        congr 1
        funext o
        cases o with
        | some o => rfl
        | none => simp [fv, show ¬ ((j : Int) = (sl : Int)) by omega]
    have e3 : (wd X sh M).set id (X.2.1 id, .inr (ci, (fl.mapIdx (fv X.2.1 (M.1 id))).set sl (tr X.2.1 (vI v)))) = wd X sh (up M.1 id sl v, M.2) := by
      rw [e2, ← wd_set h1 (M := M) (M' := (up M.1 id sl v, M.2)) (fun k s' hk _ => ce_up hk)]
      rfl
    rw [e3] at hP hD
    exact h lv _ _ hk p e s m args below meth c hF H1 locs1 ls ⟨hP, hW.2.1, hD, hS, hW.2.2.2.2⟩ hL
theorem i32_upd {f : Nat → Int → Int} {id : Nat} {i v : Int} (h0 : 0 ≤ i) : upd (fun j : Nat => i32 (f id j)) i.toNat (i32 v) = fun j : Nat => i32 (up f id i v id j) := by
  funext j
  rw [up_same]
  show (if j = i.toNat then i32 v else i32 (f id j)) = i32 (if (j : Int) = i then v else f id j)
  by_cases hj : j = i.toNat
  · rw [if_pos hj, if_pos (by omega)]
  · rw [if_neg hj, if_neg (by omega)]
def o_ial (sh : List Sh) (k : Kt) : Kt := fun lv st M => match st with
  | .inl i :: .inr (.inr id) :: r => match arr sh 0 id with
    | some n => (0 ≤ i ∧ i < n) ∧ k lv (vI (M.1 id i) :: r) M
    | none => False
  | _ => False
theorem rt_ial (d : decode mt.2.1 pc = .ok (.iaload, 1)) (h : ∀ lv st M, k lv st M → Tf l X sh n mt Q (pc + 1) lv st M) : ∀ lv st M, o_ial sh k lv st M → Tf l X sh n mt Q pc lv st M := by
  intro lv st M hk
  match st, hk with
  | .inl i :: .inr (.inr id) :: r, hk =>
    intro p e s m args below meth c hF H locs ls hW hL
    have hk : (match arr sh 0 id with
      | some n => (0 ≤ i ∧ i < n) ∧ k lv (vI (M.1 id i) :: r) M
      | none => False) := hk
    split at hk
    · rename_i nz hf
      obtain ⟨n0, rfl, b3, hf⟩ := arr_spec hf
      obtain ⟨⟨b1, b2⟩, hk⟩ := hk
      have w := h lv _ M hk p e s m args below meth c hF H locs ls hW hL
      obtain ⟨c1, c2⟩ := i32_in b1 b2 b3
      refine va_iald (D := X.1) hF.1 hF.2.1 hW.2.1 hW.1 id 0 ((wd_at hf).trans (by rw [ce_arr0])) rfl c1 d ?_
      rw [List.map_cons] at w
      rw [c2, show ((i.toNat : Nat) : Int) = i by omega]
      exact w
    · exact hk.elim
def o_ias (sh : List Sh) (k : Kt) : Kt := fun lv st M => match st with
  | .inl v :: .inl i :: .inr (.inr id) :: r => match arr sh 0 id with
    | some n => (0 ≤ i ∧ i < n) ∧ k lv r (up M.1 id i v, M.2)
    | none => False
  | _ => False
theorem rt_ias (d : decode mt.2.1 pc = .ok (.iastore, 1)) (h : ∀ lv st M, k lv st M → Tf l X sh n mt Q (pc + 1) lv st M) : ∀ lv st M, o_ias sh k lv st M → Tf l X sh n mt Q pc lv st M := by
  intro lv st M hk
  match st, hk with
  | .inl v :: .inl i :: .inr (.inr id) :: r, hk =>
    intro p e s m args below meth c hF H locs ls hW hL
    have hk : (match arr sh 0 id with
      | some n => (0 ≤ i ∧ i < n) ∧ k lv r (up M.1 id i v, M.2)
      | none => False) := hk
    split at hk
    · rename_i nz hf
      obtain ⟨n0, rfl, b3, hf⟩ := arr_spec hf
      obtain ⟨⟨b1, b2⟩, hk⟩ := hk
      obtain ⟨c1, c2⟩ := i32_in b1 b2 b3
      refine va_iast (D := X.1) hF.1 hF.2.1 hW.2.1 hW.1 hW.2.2.1 hW.2.2.2.1 id 0 ((wd_at hf).trans (by rw [ce_arr0])) rfl c1 d (fun H1 locs1 hP hD hS => ?_)
      have e3 : (wd X sh M).set id (X.2.1 id, .inl (X.2.2.1.1, n0, .inl (upd (fun j : Nat => i32 (M.1 id j)) (i32 i).toNatClampNeg (i32 v)))) = wd X sh (up M.1 id i v, M.2) := by
        rw [c2, i32_upd b1, ← wd_set hf (M := M) (M' := (up M.1 id i v, M.2)) (fun k s' hk _ => ce_up hk)]
        rfl
      rw [e3] at hP hD
      exact h lv _ _ hk p e s m args below meth c hF H1 locs1 ls ⟨hP, hW.2.1, hD, hS, hW.2.2.2.2⟩ hL
    · exact hk.elim
end MEM
