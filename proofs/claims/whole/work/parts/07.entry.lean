/-! a method's entry; calls by arity; switches -/
def lent : Nat → List Vl → Lv
  | 0, _ => []
  | n + 1, [] => none :: lent n []
  | n + 1, .inl x :: r => some (vI x) :: lent n r
  | n + 1, .inr (.inr x) :: r => some (vR x) :: lent n r
  | 1, .inr (.inl _) :: _ => [none]
  | n + 2, .inr (.inl x) :: r => some (vL x) :: none :: lent n r
def lwd : List Vl → Nat
  | [] => 0
  | .inl _ :: r => lwd r + 1
  | .inr (.inr _) :: r => lwd r + 1
  | .inr (.inl _) :: r => lwd r + 2
theorem lwd_eq (sg : Nat → Nat) : ∀ (av : List Vl), (lg_sl (av.map (tr sg))).length = lwd av
  | [] => rfl
  | .inl x :: r => by
    have h := lwd_eq sg r
    show (([Slot.val (tr sg (.inl x))] : List Slot) ++ lg_sl (r.map (tr sg))).length = lwd r + 1
    rw [List.length_append, h, Nat.add_comm]; rfl
  | .inr (.inr x) :: r => by
    have h := lwd_eq sg r
    show (([Slot.val (tr sg (.inr (.inr x)))] : List Slot) ++ lg_sl (r.map (tr sg))).length = lwd r + 1
    rw [List.length_append, h, Nat.add_comm]; rfl
  | .inr (.inl x) :: r => by
    have h := lwd_eq sg r
    show (([Slot.val (tr sg (.inr (.inl x))), Slot.second] : List Slot) ++ lg_sl (r.map (tr sg))).length = lwd r + 2
    rw [List.length_append, h, Nat.add_comm]; rfl
theorem lent_mem (sg : Nat → Nat) : ∀ (n : Nat) (av : List Vl) (i0 i : Nat) (v : Vl), lget (lent n av) i = some v → (i0 + i, tr sg v) ∈ lv_args i0 (av.map (tr sg))
  | 0, _, _, _, _, h => by simp [lent, lget] at h
  | n + 1, [], i0, 0, v, h => by cases h
  | n + 1, [], i0, i + 1, v, h => by
    have := lent_mem sg n [] i0 i v h
    simp [lv_args] at this
  | n + 1, .inl x :: r, i0, 0, v, h => by cases h; exact List.mem_cons_self
  | n + 1, .inl x :: r, i0, i + 1, v, h => by
    have := lent_mem sg n r (i0 + 1) i v h
    rw [show i0 + (i + 1) = i0 + 1 + i by omega]
    exact List.mem_cons_of_mem _ this
  | n + 1, .inr (.inr x) :: r, i0, 0, v, h => by cases h; exact List.mem_cons_self
  | n + 1, .inr (.inr x) :: r, i0, i + 1, v, h => by
    have := lent_mem sg n r (i0 + 1) i v h
    rw [show i0 + (i + 1) = i0 + 1 + i by omega]
    exact List.mem_cons_of_mem _ this
  | 1, .inr (.inl x) :: r, i0, 0, v, h => by cases h
  | 1, .inr (.inl x) :: r, i0, i + 1, v, h => by simp [lent, lget] at h
  | n + 2, .inr (.inl x) :: r, i0, 0, v, h => by cases h; exact List.mem_cons_self
  | n + 2, .inr (.inl x) :: r, i0, 1, v, h => by cases h
  | n + 2, .inr (.inl x) :: r, i0, i + 2, v, h => by
    have := lent_mem sg n r (i0 + 2) i v h
    rw [show i0 + (i + 2) = i0 + 2 + i by omega]
    exact List.mem_cons_of_mem _ this
theorem TM.intro {l : Launch} {X : Cx} {sh : List Sh} {n : Nat} {mt : Mt} {Q : Qt} {av : List Vl} {M : Me} (hy : plainName mt.1.cls = true) (hw : lwd av ≤ mt.2.2.1) (h : Tf l X sh n mt Q 0 (lent mt.2.2.1 av) [] M) : TM l X sh n mt av M Q := by
  refine Met.ofW (cc := mt.2.1) (maxL := mt.2.2.1) (ret := mt.2.2.2) hy rfl ?_
  intro p e s m args below meth c s₁ B hml hv
  obtain ⟨rfl, hP, hK, hD, hS⟩ := hv
  have hF : Fx p s m _ meth c mt := ⟨B.exec, B.bytes, B.returns, hml, findClass_of_methodNamed B.named, fun w hw => atoms_spec (ws := wr mt) B.pre w (List.mem_cons_of_mem _ hw), B.notSynchronized⟩
  rw [lg_entry_eq]
  have hl := lv_entry (av.map (tr X.2.1)) (n := mt.2.2.1) (by rw [lwd_eq]; exact hw)
  exact h p e s m _ below meth c hF s.heap [] _ ⟨hP, hK, hD, va_S.rf, hS⟩ ⟨hl.1, hl.2.1, fun i v hi => hl.2.2 (i, tr X.2.1 v) (by have := lent_mem X.2.1 _ _ 0 i v hi; rwa [Nat.zero_add] at this)⟩
theorem TM.mono {l : Launch} {X : Cx} {sh : List Sh} {n : Nat} {mt : Mt} {Q Q' : Qt} {av : List Vl} {M : Me} (h : TM l X sh n mt av M Q) (hq : ∀ v M', Q v M' → Q' v M') : TM l X sh n mt av M Q' := by
  intro p e ha hc hk s m args below hf hS hP hK
  obtain ⟨n, o, h1, h2, h3, ⟨⟨⟨r, M', e1, e2, e3⟩, hF⟩, L⟩⟩ := h p e ha hc hk s m args below hf hS hP hK
  exact ⟨n, o, h1, h2, h3, ⟨⟨r, M', e1, hq _ _ e2, e3⟩, hF⟩, L⟩
theorem wmx_1 : Cond.static Lib.Math.max.name ∈ TB := TB_in (by decide +kernel) rfl
theorem wmx_2 : Cond.initialized "java/lang/Math" ∈ TB := TB_in (by decide +kernel) rfl
theorem wmx_3 : Cond.code Lib.Math.max.name Lib.Math.max.code 2 (some .int) ∈ TB := TB_in (by decide +kernel) rfl
theorem wmn_1 : Cond.static Lib.Math.min.name ∈ TB := TB_in (by decide +kernel) rfl
theorem wmn_3 : Cond.code Lib.Math.min.name Lib.Math.min.code 2 (some .int) ∈ TB := TB_in (by decide +kernel) rfl
section CALLS
variable {l : Launch} {X : Cx} {sh : List Sh} {n : Nat} {mt : Mt} {Q : Qt} {pc : Nat} {k : Kt}
abbrev Ct : Type := List Vl → Me → Qt → Prop
/-- what the tables say of a static method that is called -/
def sOk (mt : Mt) (ix na : Nat) (mt' : Mt) : Prop := Cond.methodLink mt.1.cls ix mt'.1 ∈ TB ∧ Cond.static mt'.1 ∈ TB ∧ Cond.initialized mt'.1.cls ∈ TB ∧ Cond.code mt'.1 mt'.2.1 mt'.2.2.1 mt'.2.2.2 ∈ TB ∧ (mt'.1.cls ≠ "java/lang/invoke/MethodHandle" ∧ mt'.1.cls ≠ "java/lang/invoke/VarHandle" ∧ (parseMethodDescriptor mt'.1.desc).map (fun d => d.parameters.length) = some na) ∧ mt'.2.2.1 ≤ 21
def vOk (mt : Mt) (ix na ci : Nat) (mt' : Mt) : Prop := (∃ T N, vwCl[ci]? = some (mt'.1.cls, T, N)) ∧ Cond.methodLink mt.1.cls ix mt'.1 ∈ TB ∧ Cond.instanceMethod mt'.1 ∈ TB ∧ Cond.selects mt'.1.cls mt'.1 mt'.1 ∈ TB ∧ Cond.initialized mt'.1.cls ∈ TB ∧ Cond.code mt'.1 mt'.2.1 mt'.2.2.1 mt'.2.2.2 ∈ TB ∧ (mt'.1.cls ≠ "java/lang/invoke/MethodHandle" ∧ mt'.1.cls ≠ "java/lang/invoke/VarHandle" ∧ (parseMethodDescriptor mt'.1.desc).map (fun d => d.parameters.length) = some na) ∧ mt'.2.2.1 ≤ 21
def vck (sh : List Sh) (id ci : Nat) (r : List Vl) : Bool := decide (cls sh id = some ci) && Nat.ble r.length 4
theorem vck_spec {id ci : Nat} {r : List Vl} (h : vck sh id ci r = true) : cls sh id = some ci ∧ r.length ≤ 4 := by
  unfold vck at h
  rw [Bool.and_eq_true, decide_eq_true_eq] at h
  exact ⟨h.1, Nat.le_of_ble_eq_true h.2⟩
def o_v0 (sh : List Sh) (ci : Nat) (T : Ct) (k : Kt) : Kt := fun lv st M => match st with
  | .inr (.inr id) :: r => vck sh id ci r = true ∧ T [vR id] M (fun v M' => k lv (ol v r) M')
  | _ => False
theorem rt_v0 {ix n' ci : Nat} {mt' : Mt} (d : decode mt.2.1 pc = .ok (.invokevirtual ix, 3)) (hs : vOk mt ix 0 ci mt') (hn : n' < n) (h : ∀ lv st M, k lv st M → Tf l X sh n mt Q (pc + 3) lv st M) : ∀ lv st M, o_v0 sh ci (TM l X sh n' mt') k lv st M → Tf l X sh n mt Q pc lv st M := by
  intro lv st M hk
  match st, hk with
  | .inr (.inr id) :: r, ⟨hr, hk⟩ =>
    obtain ⟨⟨T, N, hcl⟩, h1, h2, h3, h4, h5, h6, h7⟩ := hs
    obtain ⟨q1, q2⟩ := vck_spec hr
    exact rt_cv (av := []) d hcl h1 h2 h3 h4 h5 h6 hn h7 rfl q1 q2 hk (fun v M' q => h _ _ _ q)
def o_s1 (T : Ct) (k : Kt) : Kt := fun lv st M => match st with
  | a1 :: r => Nat.ble r.length 4 = true ∧ T [a1] M (fun v M' => k lv (ol v r) M')
  | _ => False
theorem rt_s1 {ix n' : Nat} {mt' : Mt} (d : decode mt.2.1 pc = .ok (.invokestatic ix, 3)) (hs : sOk mt ix 1 mt') (hn : n' < n) (h : ∀ lv st M, k lv st M → Tf l X sh n mt Q (pc + 3) lv st M) : ∀ lv st M, o_s1 (TM l X sh n' mt') k lv st M → Tf l X sh n mt Q pc lv st M := by
  intro lv st M hk
  match st, hk with
  | a1 :: r, ⟨hr, hk⟩ => exact rt_cs (av := [a1]) d hs.1 hs.2.1 hs.2.2.1 hs.2.2.2.1 hs.2.2.2.2.1 hn hs.2.2.2.2.2 rfl (Nat.le_of_ble_eq_true hr) hk (fun v M' q => h _ _ _ q)
def o_v1 (sh : List Sh) (ci : Nat) (T : Ct) (k : Kt) : Kt := fun lv st M => match st with
  | a1 :: .inr (.inr id) :: r => vck sh id ci r = true ∧ T [vR id, a1] M (fun v M' => k lv (ol v r) M')
  | _ => False
theorem rt_v1 {ix n' ci : Nat} {mt' : Mt} (d : decode mt.2.1 pc = .ok (.invokevirtual ix, 3)) (hs : vOk mt ix 1 ci mt') (hn : n' < n) (h : ∀ lv st M, k lv st M → Tf l X sh n mt Q (pc + 3) lv st M) : ∀ lv st M, o_v1 sh ci (TM l X sh n' mt') k lv st M → Tf l X sh n mt Q pc lv st M := by
  intro lv st M hk
  match st, hk with
  | a1 :: .inr (.inr id) :: r, ⟨hr, hk⟩ =>
    obtain ⟨⟨T, N, hcl⟩, h1, h2, h3, h4, h5, h6, h7⟩ := hs
    obtain ⟨q1, q2⟩ := vck_spec hr
    exact rt_cv (av := [a1]) d hcl h1 h2 h3 h4 h5 h6 hn h7 rfl q1 q2 hk (fun v M' q => h _ _ _ q)
def o_s2 (T : Ct) (k : Kt) : Kt := fun lv st M => match st with
  | a2 :: a1 :: r => Nat.ble r.length 4 = true ∧ T [a1, a2] M (fun v M' => k lv (ol v r) M')
  | _ => False
theorem rt_s2 {ix n' : Nat} {mt' : Mt} (d : decode mt.2.1 pc = .ok (.invokestatic ix, 3)) (hs : sOk mt ix 2 mt') (hn : n' < n) (h : ∀ lv st M, k lv st M → Tf l X sh n mt Q (pc + 3) lv st M) : ∀ lv st M, o_s2 (TM l X sh n' mt') k lv st M → Tf l X sh n mt Q pc lv st M := by
  intro lv st M hk
  match st, hk with
  | a2 :: a1 :: r, ⟨hr, hk⟩ => exact rt_cs (av := [a1, a2]) d hs.1 hs.2.1 hs.2.2.1 hs.2.2.2.1 hs.2.2.2.2.1 hn hs.2.2.2.2.2 rfl (Nat.le_of_ble_eq_true hr) hk (fun v M' q => h _ _ _ q)
def o_v2 (sh : List Sh) (ci : Nat) (T : Ct) (k : Kt) : Kt := fun lv st M => match st with
  | a2 :: a1 :: .inr (.inr id) :: r => vck sh id ci r = true ∧ T [vR id, a1, a2] M (fun v M' => k lv (ol v r) M')
  | _ => False
theorem rt_v2 {ix n' ci : Nat} {mt' : Mt} (d : decode mt.2.1 pc = .ok (.invokevirtual ix, 3)) (hs : vOk mt ix 2 ci mt') (hn : n' < n) (h : ∀ lv st M, k lv st M → Tf l X sh n mt Q (pc + 3) lv st M) : ∀ lv st M, o_v2 sh ci (TM l X sh n' mt') k lv st M → Tf l X sh n mt Q pc lv st M := by
  intro lv st M hk
  match st, hk with
  | a2 :: a1 :: .inr (.inr id) :: r, ⟨hr, hk⟩ =>
    obtain ⟨⟨T, N, hcl⟩, h1, h2, h3, h4, h5, h6, h7⟩ := hs
    obtain ⟨q1, q2⟩ := vck_spec hr
    exact rt_cv (av := [a1, a2]) d hcl h1 h2 h3 h4 h5 h6 hn h7 rfl q1 q2 hk (fun v M' q => h _ _ _ q)
def o_s3 (T : Ct) (k : Kt) : Kt := fun lv st M => match st with
  | a3 :: a2 :: a1 :: r => Nat.ble r.length 4 = true ∧ T [a1, a2, a3] M (fun v M' => k lv (ol v r) M')
  | _ => False
theorem rt_s3 {ix n' : Nat} {mt' : Mt} (d : decode mt.2.1 pc = .ok (.invokestatic ix, 3)) (hs : sOk mt ix 3 mt') (hn : n' < n) (h : ∀ lv st M, k lv st M → Tf l X sh n mt Q (pc + 3) lv st M) : ∀ lv st M, o_s3 (TM l X sh n' mt') k lv st M → Tf l X sh n mt Q pc lv st M := by
  intro lv st M hk
  match st, hk with
  | a3 :: a2 :: a1 :: r, ⟨hr, hk⟩ => exact rt_cs (av := [a1, a2, a3]) d hs.1 hs.2.1 hs.2.2.1 hs.2.2.2.1 hs.2.2.2.2.1 hn hs.2.2.2.2.2 rfl (Nat.le_of_ble_eq_true hr) hk (fun v M' q => h _ _ _ q)
def o_v3 (sh : List Sh) (ci : Nat) (T : Ct) (k : Kt) : Kt := fun lv st M => match st with
  | a3 :: a2 :: a1 :: .inr (.inr id) :: r => vck sh id ci r = true ∧ T [vR id, a1, a2, a3] M (fun v M' => k lv (ol v r) M')
  | _ => False
theorem rt_v3 {ix n' ci : Nat} {mt' : Mt} (d : decode mt.2.1 pc = .ok (.invokevirtual ix, 3)) (hs : vOk mt ix 3 ci mt') (hn : n' < n) (h : ∀ lv st M, k lv st M → Tf l X sh n mt Q (pc + 3) lv st M) : ∀ lv st M, o_v3 sh ci (TM l X sh n' mt') k lv st M → Tf l X sh n mt Q pc lv st M := by
  intro lv st M hk
  match st, hk with
  | a3 :: a2 :: a1 :: .inr (.inr id) :: r, ⟨hr, hk⟩ =>
    obtain ⟨⟨T, N, hcl⟩, h1, h2, h3, h4, h5, h6, h7⟩ := hs
    obtain ⟨q1, q2⟩ := vck_spec hr
    exact rt_cv (av := [a1, a2, a3]) d hcl h1 h2 h3 h4 h5 h6 hn h7 rfl q1 q2 hk (fun v M' q => h _ _ _ q)
def o_s4 (T : Ct) (k : Kt) : Kt := fun lv st M => match st with
  | a4 :: a3 :: a2 :: a1 :: r => Nat.ble r.length 4 = true ∧ T [a1, a2, a3, a4] M (fun v M' => k lv (ol v r) M')
  | _ => False
theorem rt_s4 {ix n' : Nat} {mt' : Mt} (d : decode mt.2.1 pc = .ok (.invokestatic ix, 3)) (hs : sOk mt ix 4 mt') (hn : n' < n) (h : ∀ lv st M, k lv st M → Tf l X sh n mt Q (pc + 3) lv st M) : ∀ lv st M, o_s4 (TM l X sh n' mt') k lv st M → Tf l X sh n mt Q pc lv st M := by
  intro lv st M hk
  match st, hk with
  | a4 :: a3 :: a2 :: a1 :: r, ⟨hr, hk⟩ => exact rt_cs (av := [a1, a2, a3, a4]) d hs.1 hs.2.1 hs.2.2.1 hs.2.2.2.1 hs.2.2.2.2.1 hn hs.2.2.2.2.2 rfl (Nat.le_of_ble_eq_true hr) hk (fun v M' q => h _ _ _ q)
def o_v4 (sh : List Sh) (ci : Nat) (T : Ct) (k : Kt) : Kt := fun lv st M => match st with
  | a4 :: a3 :: a2 :: a1 :: .inr (.inr id) :: r => vck sh id ci r = true ∧ T [vR id, a1, a2, a3, a4] M (fun v M' => k lv (ol v r) M')
  | _ => False
theorem rt_v4 {ix n' ci : Nat} {mt' : Mt} (d : decode mt.2.1 pc = .ok (.invokevirtual ix, 3)) (hs : vOk mt ix 4 ci mt') (hn : n' < n) (h : ∀ lv st M, k lv st M → Tf l X sh n mt Q (pc + 3) lv st M) : ∀ lv st M, o_v4 sh ci (TM l X sh n' mt') k lv st M → Tf l X sh n mt Q pc lv st M := by
  intro lv st M hk
  match st, hk with
  | a4 :: a3 :: a2 :: a1 :: .inr (.inr id) :: r, ⟨hr, hk⟩ =>
    obtain ⟨⟨T, N, hcl⟩, h1, h2, h3, h4, h5, h6, h7⟩ := hs
    obtain ⟨q1, q2⟩ := vck_spec hr
    exact rt_cv (av := [a1, a2, a3, a4]) d hcl h1 h2 h3 h4 h5 h6 hn h7 rfl q1 q2 hk (fun v M' q => h _ _ _ q)
def o_s5 (T : Ct) (k : Kt) : Kt := fun lv st M => match st with
  | a5 :: a4 :: a3 :: a2 :: a1 :: r => Nat.ble r.length 4 = true ∧ T [a1, a2, a3, a4, a5] M (fun v M' => k lv (ol v r) M')
  | _ => False
theorem rt_s5 {ix n' : Nat} {mt' : Mt} (d : decode mt.2.1 pc = .ok (.invokestatic ix, 3)) (hs : sOk mt ix 5 mt') (hn : n' < n) (h : ∀ lv st M, k lv st M → Tf l X sh n mt Q (pc + 3) lv st M) : ∀ lv st M, o_s5 (TM l X sh n' mt') k lv st M → Tf l X sh n mt Q pc lv st M := by
  intro lv st M hk
  match st, hk with
  | a5 :: a4 :: a3 :: a2 :: a1 :: r, ⟨hr, hk⟩ => exact rt_cs (av := [a1, a2, a3, a4, a5]) d hs.1 hs.2.1 hs.2.2.1 hs.2.2.2.1 hs.2.2.2.2.1 hn hs.2.2.2.2.2 rfl (Nat.le_of_ble_eq_true hr) hk (fun v M' q => h _ _ _ q)
def o_v5 (sh : List Sh) (ci : Nat) (T : Ct) (k : Kt) : Kt := fun lv st M => match st with
  | a5 :: a4 :: a3 :: a2 :: a1 :: .inr (.inr id) :: r => vck sh id ci r = true ∧ T [vR id, a1, a2, a3, a4, a5] M (fun v M' => k lv (ol v r) M')
  | _ => False
theorem rt_v5 {ix n' ci : Nat} {mt' : Mt} (d : decode mt.2.1 pc = .ok (.invokevirtual ix, 3)) (hs : vOk mt ix 5 ci mt') (hn : n' < n) (h : ∀ lv st M, k lv st M → Tf l X sh n mt Q (pc + 3) lv st M) : ∀ lv st M, o_v5 sh ci (TM l X sh n' mt') k lv st M → Tf l X sh n mt Q pc lv st M := by
  intro lv st M hk
  match st, hk with
  | a5 :: a4 :: a3 :: a2 :: a1 :: .inr (.inr id) :: r, ⟨hr, hk⟩ =>
    obtain ⟨⟨T, N, hcl⟩, h1, h2, h3, h4, h5, h6, h7⟩ := hs
    obtain ⟨q1, q2⟩ := vck_spec hr
    exact rt_cv (av := [a1, a2, a3, a4, a5]) d hcl h1 h2 h3 h4 h5 h6 hn h7 rfl q1 q2 hk (fun v M' q => h _ _ _ q)
def o_max (k : Kt) : Kt := fun lv st M => match st with
  | .inl y :: .inl x :: r => (-2147483648 ≤ x ∧ x ≤ 2147483647) ∧ (-2147483648 ≤ y ∧ y ≤ 2147483647) ∧ Nat.ble r.length 4 = true ∧ k lv (vI (if x < y then y else x) :: r) M
  | _ => False
def o_min (k : Kt) : Kt := fun lv st M => match st with
  | .inl y :: .inl x :: r => (-2147483648 ≤ x ∧ x ≤ 2147483647) ∧ (-2147483648 ≤ y ∧ y ≤ 2147483647) ∧ Nat.ble r.length 4 = true ∧ k lv (vI (if y < x then y else x) :: r) M
  | _ => False
theorem rt_max {ix : Nat} (d : decode mt.2.1 pc = .ok (.invokestatic ix, 3)) (hl : Cond.methodLink mt.1.cls ix Lib.Math.max.name ∈ TB) (hn : 0 < n) (h : ∀ lv st M, k lv st M → Tf l X sh n mt Q (pc + 3) lv st M) : ∀ lv st M, o_max k lv st M → Tf l X sh n mt Q pc lv st M := by
  intro lv st M hk
  match st, hk with
  | .inl y :: .inl x :: r, ⟨hx, hy, hr, hk⟩ =>
    intro p e s m args below meth c hF H locs ls hW hL
    have hts := hF.2.2.2.2.2.1
    have w := h lv _ M hk p e s m args below meth c hF H locs ls hW hL
    rw [List.map_cons, show tr X.2.1 (vI (if x < y then y else x)) = Value.int (if i32 x < i32 y then i32 y else i32 x) from by
      have e := i32_lt hx hy
      by_cases q : x < y
      · rw [if_pos q, if_pos (e.mpr q)]; rfl
      · rw [if_neg q, if_neg (fun z => q (e.mp z))]; rfl] at w
    exact va_mmax (R := rml n) hF.1 hF.2.1 (by rw [hF.2.2.2.1]; exact hL.1.symm) hF.2.2.2.2.1 (hts _ hl) (hts _ wmx_1) (hts _ wmx_2) (hts _ wmx_3) hn (by
      have := catsum X.2.1 r
      have := Nat.le_of_ble_eq_true hr
      show _ ≤ 40 * n
      omega) (Nat.le_refl 0) (Nat.le_refl 0) d w
theorem rt_min {ix : Nat} (d : decode mt.2.1 pc = .ok (.invokestatic ix, 3)) (hl : Cond.methodLink mt.1.cls ix Lib.Math.min.name ∈ TB) (hn : 0 < n) (h : ∀ lv st M, k lv st M → Tf l X sh n mt Q (pc + 3) lv st M) : ∀ lv st M, o_min k lv st M → Tf l X sh n mt Q pc lv st M := by
  intro lv st M hk
  match st, hk with
  | .inl y :: .inl x :: r, ⟨hx, hy, hr, hk⟩ =>
    intro p e s m args below meth c hF H locs ls hW hL
    have hts := hF.2.2.2.2.2.1
    have w := h lv _ M hk p e s m args below meth c hF H locs ls hW hL
    rw [List.map_cons, show tr X.2.1 (vI (if y < x then y else x)) = Value.int (if i32 y < i32 x then i32 y else i32 x) from by
      have e := i32_lt hy hx
      by_cases q : y < x
      · rw [if_pos q, if_pos (e.mpr q)]; rfl
      · rw [if_neg q, if_neg (fun z => q (e.mp z))]; rfl] at w
    exact va_mmin (R := rml n) hF.1 hF.2.1 (by rw [hF.2.2.2.1]; exact hL.1.symm) hF.2.2.2.2.1 (hts _ hl) (hts _ wmn_1) (hts _ wmx_2) (hts _ wmn_3) hn (by
      have := catsum X.2.1 r
      have := Nat.le_of_ble_eq_true hr
      show _ ≤ 40 * n
      omega) (Nat.le_refl 0) (Nat.le_refl 0) d w
end CALLS
-- switches
def swt (F : Nat → Kt) (x : Int) (lv : Lv) (r : List Vl) (M : Me) (d : Nat × List Bool) : Int → List (Nat × List Bool) → Prop
  | _, [] => F d.1 (lmask d.2 lv) r M
  | a, (t, m) :: q => (x = a → F t (lmask m lv) r M) ∧ (x ≠ a → swt F x lv r M d (a + 1) q)
def swl (F : Nat → Kt) (x : Int) (lv : Lv) (r : List Vl) (M : Me) (d : Nat × List Bool) : List (Int × Nat × List Bool) → Prop
  | [] => F d.1 (lmask d.2 lv) r M
  | (a, t, m) :: q => (x = a → F t (lmask m lv) r M) ∧ (x ≠ a → swl F x lv r M d q)
theorem swt_out {F : Nat → Kt} {x : Int} {lv : Lv} {r : List Vl} {M : Me} {d : Nat × List Bool} : ∀ (q : List (Nat × List Bool)) (a : Int), swt F x lv r M d a q → (x < a ∨ a + q.length ≤ x) → F d.1 (lmask d.2 lv) r M
  | [], _, h, _ => h
  | _ :: q, a, h, hx => swt_out q (a + 1) (h.2 (by simp only [List.length_cons] at hx; omega)) (by simp only [List.length_cons] at hx; omega)
theorem swt_in {F : Nat → Kt} {x : Int} {lv : Lv} {r : List Vl} {M : Me} {d : Nat × List Bool} : ∀ (q : List (Nat × List Bool)) (a : Int) (i : Nat) (t : Nat) (m : List Bool), swt F x lv r M d a q → q[i]? = some (t, m) → x = a + i → F t (lmask m lv) r M
  | [], _, _, _, _, _, h, _ => by simp at h
  | _ :: q, a, 0, t, m, h, hi, hx => by
    rw [List.getElem?_cons_zero] at hi
    cases hi
    exact h.1 (by omega)
  | _ :: q, a, i + 1, t, m, h, hi, hx => by
    rw [List.getElem?_cons_succ] at hi
    exact swt_in q (a + 1) i t m (h.2 (by omega)) hi (by omega)
theorem t_out {l : Launch} {X : Cx} {sh : List Sh} {n : Nat} {mt : Mt} {Q : Qt} {pc : Nat} {mm : List Bool} {lv : Lv} {st : List Vl} {M : Me} (h : Tf l X sh n mt Q pc (lmask mm lv) st M) : Tf l X sh n mt Q pc lv st M := rt_mask mm lv st M h
section SW
variable {l : Launch} {X : Cx} {sh : List Sh} {n : Nat} {mt : Mt} {Q : Qt} {pc : Nat}
def o_tsw (F : Nat → Kt) (lo : Int) (q : List (Nat × List Bool)) (d : Nat × List Bool) : Kt := fun lv st M => match st with
  | .inl x :: r => (-2147483648 ≤ x ∧ x ≤ 2147483647) ∧ swt F x lv r M d lo q
  | _ => False
theorem rt_tsw {dflt lo hi : Int} {offs : Array Int} {len : Nat} {q : List (Nat × List Bool)} {d : Nat × List Bool} (de : decode mt.2.1 pc = .ok (.tableswitch dflt lo hi offs, len)) (h1 : offs.toList = q.map (fun t => (t.1 : Int) - (pc : Int))) (h2 : hi = lo + q.length - 1) (h3 : (pc : Int) + dflt = (d.1 : Int)) : ∀ lv st M, o_tsw (Tf l X sh n mt Q) lo q d lv st M → Tf l X sh n mt Q pc lv st M := by
  intro lv st M hk
  match st, hk with
  | .inl x :: r, ⟨hx, hk⟩ =>
    by_cases hin : x < lo ∨ hi < x
    · have w := t_out (swt_out q lo hk (by omega))
      intro p e s m args below meth c hF H locs ls hW hL
      exact lv_tableOut hF.1 hF.2.1 de (by rw [i32_toInt hx.1 hx.2]; exact hin) h3 (w p e s m args below meth c hF H locs ls hW hL)
    · have hlt : (x - lo).toNat < q.length := by omega
      obtain ⟨tm, htm⟩ : ∃ tm, q[(x - lo).toNat]? = some tm := ⟨_, List.getElem?_eq_getElem hlt⟩
      have w := t_out (swt_in q lo (x - lo).toNat tm.1 tm.2 hk htm (by omega))
      intro p e s m args below meth c hF H locs ls hW hL
      refine lv_tableIn (off := (tm.1 : Int) - pc) hF.1 hF.2.1 de (by rw [i32_toInt hx.1 hx.2]; omega) (by rw [i32_toInt hx.1 hx.2]; omega) ?_ (by omega) (w p e s m args below meth c hF H locs ls hW hL)
      rw [i32_toInt hx.1 hx.2, ← Array.getElem?_toList, h1, List.getElem?_map, htm]
      rfl
def o_lsw (F : Nat → Kt) (q : List (Int × Nat × List Bool)) (d : Nat × List Bool) : Kt := fun lv st M => match st with
  | .inl x :: r => (-2147483648 ≤ x ∧ x ≤ 2147483647) ∧ swl F x lv r M d q
  | _ => False
theorem swl_off {F : Nat → Kt} {x : Int} {lv : Lv} {r : List Vl} {M : Me} {d : Nat × List Bool} {pc : Nat} {dflt : Int} (h3 : (pc : Int) + dflt = (d.1 : Int)) : ∀ (q : List (Int × Nat × List Bool)), swl F x lv r M d q → ∃ t m, (pc : Int) + Op.lookupswitch.offset (q.map (fun t => (t.1, (t.2.1 : Int) - (pc : Int)))) dflt x = (t : Nat) ∧ F t (lmask m lv) r M
  | [], h => ⟨d.1, d.2, h3, h⟩
  | (a, t, m) :: q, h => by
    rw [List.map_cons, Op.lookupswitch.offset_cons]
    by_cases hx : x = a
    · refine ⟨t, m, ?_, h.1 hx⟩
      first | rw [if_pos hx] | rw [if_pos hx.symm]
      show (pc : Int) + ((t : Int) - (pc : Int)) = (t : Int)
      omega
    · obtain ⟨t', m', e1, e2⟩ := swl_off h3 q (h.2 hx)
      refine ⟨t', m', ?_, e2⟩
      first | rw [if_neg hx] | rw [if_neg (fun z => hx z.symm)]
      exact e1
theorem rt_lsw {dflt : Int} {ps : Array (Int × Int)} {len : Nat} {q : List (Int × Nat × List Bool)} {d : Nat × List Bool} (de : decode mt.2.1 pc = .ok (.lookupswitch dflt ps, len)) (hp : (ps.toList.zip (ps.toList.drop 1)).all (fun (a, next) => a.1 < next.1) = true) (h1 : ps.toList = q.map (fun t => (t.1, (t.2.1 : Int) - (pc : Int)))) (h3 : (pc : Int) + dflt = (d.1 : Int)) : ∀ lv st M, o_lsw (Tf l X sh n mt Q) q d lv st M → Tf l X sh n mt Q pc lv st M := by
  intro lv st M hk
  match st, hk with
  | .inl x :: r, ⟨hx, hk⟩ =>
    obtain ⟨t, m0, e1, w⟩ := swl_off (F := Tf l X sh n mt Q) h3 q hk
    have w := t_out w
    intro p e s m args below meth c hF H locs ls hW hL
    exact lv_lookup hF.1 hF.2.1 de hp rfl (by rw [i32_toInt hx.1 hx.2, h1]; exact e1) (w p e s m args below meth c hF H locs ls hW hL)
end SW
