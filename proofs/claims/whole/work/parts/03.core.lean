/-! THE CORE: an abstract machine over integers, laid once over the kit's rows. Values: int, long, place of a cell in the world's list. -/
def TB : List Cond := lw_tbl.filter goodWord
theorem TB_in {w : Cond} (h : w ∈ lw_tbl) (g : goodWord w = true) : w ∈ TB := List.mem_filter.mpr ⟨h, g⟩
theorem TB_ws {C : String} {T : u_T} {N : Nat} (h : ∀ w ∈ u_ws C T N, w ∈ lw_tbl) (g : (u_ws C T N).all goodWord = true) : ∀ w ∈ u_ws C T N, w ∈ TB := fun w hw => TB_in (h w hw) (List.all_eq_true.mp g w hw)
abbrev Vl : Type := Int ⊕ (Int ⊕ Nat)
abbrev Lv : Type := List (Option Vl)
abbrev Me : Type := (Nat → Int → Int) × (Int → Int)
abbrev Sh : Type := (Nat × Nat) ⊕ (Nat × List (Option Nat))
abbrev Mt : Type := MethodName × ByteArray × Nat × Option FieldType
abbrev Cx : Type := va_G × (Nat → Nat) × (ClassId × ClassId × ClassId) × (Nat → Prop)
abbrev Qt : Type := Option Vl → Me → Prop
abbrev Kt : Type := Lv → List Vl → Me → Prop
abbrev vI (x : Int) : Vl := Sum.inl x
abbrev vL (x : Int) : Vl := Sum.inr (Sum.inl x)
abbrev vR (k : Nat) : Vl := Sum.inr (Sum.inr k)
def i32 (x : Int) : Int32 := Int32.ofInt x
def i64 (x : Int) : Int64 := Int64.ofInt x
def tr (sg : Nat → Nat) (v : Vl) : Value := match v with
  | .inl x => .int (i32 x)
  | .inr (.inl x) => .long (i64 x)
  | .inr (.inr k) => .ref (sg k)
def fv (sg : Nat → Nat) (g : Int → Int) (j : Nat) (o : Option Nat) : Value := match o with
  | some id => .ref (sg id)
  | none => .int (i32 (g j))
def ce (X : Cx) (M : Me) (k : Nat) (s : Sh) : va_E := match s with
  | .inl (0, n) => .inl (X.2.2.1.1, n, .inl (fun j => i32 (M.1 k j)))
  | .inl (1, n) => .inl (X.2.2.1.2.1, n, .inl (fun j => i32 (M.1 k j)))
  | .inl (_ + 2, n) => .inl (X.2.2.1.2.2, n, .inr (.inl (fun j => i64 (M.2 j))))
  | .inr (ci, fl) => .inr (ci, fl.mapIdx (fv X.2.1 (M.1 k)))
def wd (X : Cx) (sh : List Sh) (M : Me) : va_W := sh.mapIdx (fun k s => (X.2.1 k, ce X M k s))
def tyl (X : Cx) : List (ClassId × FieldType) := [(X.2.2.1.1, .int), (X.2.2.1.2.1, .boolean), (X.2.2.1.2.2, .long)]
def figs (j : Nat) : Value := .int (match j with | 0 => 1 | 1 => 10 | 2 => 100 | _ => 1000)
def Sx (X : Cx) (U : State) : Prop := va_Z "BoxedHeirs" "FIGURE_PLACES" "[I" (.ref (X.2.1 1000)) X.2.2.2 U U.heap ∧ va_T .int (X.2.1 1000) 4 figs X.2.2.2 U U.heap
def Wd (X : Cx) (sh : List Sh) (M : Me) (U : State) : Prop := va_P X.1 vwCl (wd X sh M) U.heap ∧ va_K X.1 vwCl (tyl X) U ∧ va_D X.2.2.2 (wd X sh M) ∧ Sx X U
def Qm (X : Cx) (sh : List Sh) (Q : Qt) : Array Value → State → Outcome → State → Prop := fun _ st oc t => (∃ (r : Option Vl) (M' : Me), oc = .returned (r.map (tr X.2.1)) ∧ Q r M' ∧ Wd X sh M' t) ∧ va_F X.2.2.2 st t
def rml (n : Nat) : Room := { frames := n, cells := 0, slots := 0, locals := 40 * n }
def wr (mt : Mt) : List Cond := Cond.code mt.1 mt.2.1 mt.2.2.1 mt.2.2.2 :: TB
/-- a method's contract: from the world M with these arguments it returns, and Q of its answer and the world behind it -/
def TM (l : Launch) (X : Cx) (sh : List Sh) (n : Nat) (mt : Mt) (av : List Vl) (M : Me) (Q : Qt) : Prop := Met l mt.1 (wr mt) (rml n) (va_Pc (av.map (tr X.2.1)) (Wd X sh M)) (Qm X sh Q) 0 0 X.2.2.2
def Fx (p : Program) (s : State) (m : MethodId) (args : Array Value) (meth : Method) (c : Code) (mt : Mt) : Prop := p.tables.exec = Jvm.exec ∧ c.code = mt.2.1 ∧ meth.sig.returnType = mt.2.2.2 ∧ c.maxLocals = mt.2.2.1 ∧ s.vm.findClass mt.1.cls = some m.cls ∧ (∀ w ∈ TB, w.before args s = true) ∧ meth.locks = false
def Wh (X : Cx) (sh : List Sh) (M : Me) (s : State) (H : Heap) (locs : List Loc) : Prop := va_P X.1 vwCl (wd X sh M) H ∧ va_K X.1 vwCl (tyl X) s ∧ va_D X.2.2.2 (wd X sh M) ∧ va_S X.2.2.2 s.heap H locs ∧ Sx X s
def lget : Lv → Nat → Option Vl
  | [], _ => none
  | a :: _, 0 => a
  | _ :: r, n + 1 => lget r n
def lput : Lv → Nat → Option Vl → Lv
  | [], _, _ => []
  | _ :: r, 0, v => v :: r
  | a :: r, n + 1, v => a :: lput r n v
def lmask : List Bool → Lv → Lv
  | true :: m, a :: l => a :: lmask m l
  | false :: m, _ :: l => none :: lmask m l
  | _, _ => []
def lkill (lv : Lv) : Nat → Lv
  | 0 => lv
  | i + 1 => match lget lv i with
    | some (.inr (.inl _)) => lput lv i none
    | _ => lv
def Lh (sg : Nat → Nat) (ls : Array Slot) (n : Nat) (lv : Lv) : Prop := ls.size = n ∧ lv_wf ls ∧ ∀ (i : Nat) (v : Vl), lget lv i = some v → ls[i]? = some (.val (tr sg v))
/-- the machine at a place of a method's code, with these locals, this stack, this world: it comes to the method's end with Q -/
def Tf (l : Launch) (X : Cx) (sh : List Sh) (n : Nat) (mt : Mt) (Q : Qt) (pc : Nat) (lv : Lv) (st : List Vl) (M : Me) : Prop := ∀ (p : Program) (e : Env) (s : State) (m : MethodId) (args : Array Value) (below : List Frame) (meth : Method) (c : Code), Fx p s m args meth c mt → ∀ (H : Heap) (locs : List Loc) (ls : Array Slot), Wh X sh M s H locs → Lh X.2.1 ls mt.2.2.1 lv → W p l e (rml n) s m args below meth c H locs 0 0 (MQ below (Qm X sh Q) args s 0 0 X.2.2.2) (F0 m pc ls (st.map (tr X.2.1)))
theorem lput_get : ∀ (lv : Lv) (i : Nat) (v : Option Vl) (j : Nat) (w : Vl), lget (lput lv i v) j = some w → (j = i ∧ v = some w) ∨ (j ≠ i ∧ lget lv j = some w)
  | [], _, _, _, _, h => by simp [lput, lget] at h
  | _ :: _, 0, v, 0, w, h => Or.inl ⟨rfl, h⟩
  | _ :: _, 0, v, j + 1, w, h => Or.inr ⟨by omega, h⟩
  | _ :: _, i + 1, v, 0, w, h => Or.inr ⟨by omega, h⟩
  | _ :: r, i + 1, v, j + 1, w, h => by
    rcases lput_get r i v j w h with ⟨a, b⟩ | ⟨a, b⟩
    · exact Or.inl ⟨by omega, b⟩
    · exact Or.inr ⟨by omega, b⟩
theorem lkill_get {lv : Lv} {i j : Nat} {w : Vl} (h : lget (lkill lv i) j = some w) : lget lv j = some w ∧ (j + 1 = i → ∀ x, w ≠ .inr (.inl x)) := by
  cases i with
  | zero => exact ⟨h, fun h => by omega⟩
  | succ i =>
    have h2 : lget (match lget lv i with
      | some (.inr (.inl _)) => lput lv i none
      | _ => lv) j = some w := h
    clear h
    split at h2
    · rcases lput_get _ _ _ _ _ h2 with ⟨a, b⟩ | ⟨a, b⟩
      · cases b
      · exact ⟨b, fun e => absurd (by omega) a⟩
    · rename_i hn
      refine ⟨h2, fun e x hx => ?_⟩
      have : j = i := by omega
      subst this
      subst hx
      exact hn x h2
theorem lmask_get : ∀ (m : List Bool) (lv : Lv) (j : Nat) (w : Vl), lget (lmask m lv) j = some w → lget lv j = some w
  | true :: m, _ :: lv, 0, w, h => h
  | true :: m, _ :: lv, j + 1, w, h => lmask_get m lv j w h
  | false :: m, _ :: lv, 0, w, h => by cases h
  | false :: m, _ :: lv, j + 1, w, h => lmask_get m lv j w h
  | [], _, _, _, h => by simp [lmask, lget] at h
  | true :: _, [], _, _, h => by simp [lmask, lget] at h
  | false :: _, [], _, _, h => by simp [lmask, lget] at h
theorem tr_cat {sg : Nat → Nat} {v : Vl} (h : ∀ x, v ≠ .inr (.inl x)) : (tr sg v).category = 1 := by
  match v with
  | .inl x => rfl
  | .inr (.inl x) => exact absurd rfl (h x)
  | .inr (.inr k) => rfl
/-- the locals as the kit lists them -/
def lvas (sg : Nat → Nat) (n : Nat) (lv : Lv) : List (Nat × Value) := (List.range n).filterMap (fun i => (lget lv i).map (fun v => (i, tr sg v)))
theorem lvas_mem {sg : Nat → Nat} {n : Nat} {lv : Lv} {q : Nat × Value} : q ∈ lvas sg n lv ↔ q.1 < n ∧ ∃ v, lget lv q.1 = some v ∧ q.2 = tr sg v := by
  unfold lvas
  rw [List.mem_filterMap]
  constructor
  · rintro ⟨i, hi, h⟩
    cases hg : lget lv i with
    | none => rw [hg] at h; cases h
    | some v =>
      rw [hg] at h
      cases h
      exact ⟨List.mem_range.mp hi, v, hg, rfl⟩
  · rintro ⟨h1, v, h2, h3⟩
    exact ⟨q.1, List.mem_range.mpr h1, by rw [h2]; show some (q.1, tr sg v) = some q; rw [← h3]⟩
theorem Lh.has {sg : Nat → Nat} {ls : Array Slot} {n : Nat} {lv : Lv} (h : Lh sg ls n lv) : lv_has ls n (lvas sg n lv) := ⟨h.1, h.2.1, fun q hq => by
  obtain ⟨-, v, h2, h3⟩ := lvas_mem.mp hq
  rw [h3]
  exact h.2.2 _ _ h2⟩
theorem Lh.lt {sg : Nat → Nat} {ls : Array Slot} {n : Nat} {lv : Lv} (h : Lh sg ls n lv) {i : Nat} {v : Vl} (hi : lget lv i = some v) : i < n := by rw [← h.1]; exact lv_lt (h.2.2 i v hi)
/-- behind a store of one word -/
theorem Lh.st1 {sg : Nat → Nat} {ls ls' : Array Slot} {n i : Nat} {lv : Lv} {v : Vl} (h : Lh sg ls n lv) (h' : lv_has ls' n ((i, tr sg v) :: (lvas sg n lv).filter (fun q => !(q.1 == i) && !(q.1 + 1 == i && q.2.category == 2)))) : Lh sg ls' n (lput (lkill lv i) i (some v)) := by
  refine ⟨h'.1, h'.2.1, fun j w hj => ?_⟩
  rcases lput_get _ _ _ _ _ hj with ⟨rfl, e⟩ | ⟨hne, e⟩
  · cases e
    exact h'.2.2 _ List.mem_cons_self
  · obtain ⟨e1, e2⟩ := lkill_get e
    refine h'.2.2 (j, tr sg w) (List.mem_cons_of_mem _ (List.mem_filter.mpr ⟨lvas_mem.mpr ⟨h.lt e1, w, e1, rfl⟩, ?_⟩))
    simp only [Bool.and_eq_true, Bool.not_eq_true', beq_eq_false_iff_ne, ne_eq, Bool.and_eq_false_iff]
    refine ⟨hne, ?_⟩
    by_cases hji : j + 1 = i
    · exact Or.inr (by rw [tr_cat (e2 hji)]; decide)
    · exact Or.inl hji
theorem Lh.st2 {sg : Nat → Nat} {ls ls' : Array Slot} {n i : Nat} {lv : Lv} {v : Vl} (h : Lh sg ls n lv) (h' : lv_has ls' n ((i, tr sg v) :: (lvas sg n lv).filter (fun q => !(q.1 == i) && (!(q.1 == i + 1) && !(q.1 + 1 == i && q.2.category == 2))))) : Lh sg ls' n (lput (lput (lkill lv i) (i + 1) none) i (some v)) := by
  refine ⟨h'.1, h'.2.1, fun j w hj => ?_⟩
  rcases lput_get _ _ _ _ _ hj with ⟨rfl, e⟩ | ⟨hne, e⟩
  · cases e
    exact h'.2.2 _ List.mem_cons_self
  · rcases lput_get _ _ _ _ _ e with ⟨-, e⟩ | ⟨hne2, e⟩
    · cases e
    · obtain ⟨e1, e2⟩ := lkill_get e
      refine h'.2.2 (j, tr sg w) (List.mem_cons_of_mem _ (List.mem_filter.mpr ⟨lvas_mem.mpr ⟨h.lt e1, w, e1, rfl⟩, ?_⟩))
      simp only [Bool.and_eq_true, Bool.not_eq_true', beq_eq_false_iff_ne, ne_eq, Bool.and_eq_false_iff]
      refine ⟨hne, hne2, ?_⟩
      by_cases hji : j + 1 = i
      · exact Or.inr (by rw [tr_cat (e2 hji)]; decide)
      · exact Or.inl hji
-- numbers
theorem i32_add (x y : Int) : i32 (x + y) = i32 x + i32 y := by unfold i32; exact Int32.ofInt_add ..
theorem i32_sub (x y : Int) : i32 (x - y) = i32 x - i32 y := by unfold i32; exact Int32.ofInt_sub ..
theorem i32_mul (x y : Int) : i32 (x * y) = i32 x * i32 y := by unfold i32; exact Int32.ofInt_mul ..
theorem i64_add (x y : Int) : i64 (x + y) = i64 x + i64 y := by unfold i64; exact Int64.ofInt_add ..
theorem i64_sub (x y : Int) : i64 (x - y) = i64 x - i64 y := by unfold i64; exact Int64.ofInt_sub ..
theorem i64_mul (x y : Int) : i64 (x * y) = i64 x * i64 y := by unfold i64; exact Int64.ofInt_mul ..
theorem i32_toInt {x : Int} (h1 : -2147483648 ≤ x) (h2 : x ≤ 2147483647) : (i32 x).toInt = x := by
  unfold i32
  exact Int32.toInt_ofInt_of_le (by simpa using h1) (by simp; omega)
theorem i64_toInt {x : Int} (h1 : -9223372036854775808 ≤ x) (h2 : x ≤ 9223372036854775807) : (i64 x).toInt = x := by
  unfold i64
  exact Int64.toInt_ofInt_of_le (by simpa using h1) (by simp; omega)
theorem i32_of (x : Int32) : i32 x.toInt = x := Int32.ofInt_toInt x
theorem i64_of (x : Int64) : i64 x.toInt = x := Int64.ofInt_toInt x
