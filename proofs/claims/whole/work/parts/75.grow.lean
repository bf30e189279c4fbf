/-! constructors: a world that grows -/
def tyA (ar : ClassId × ClassId × ClassId) : List (ClassId × FieldType) := [(ar.1, .int), (ar.2.1, .boolean), (ar.2.2, .long)]
def Sz (a0 : Nat) (A : Nat → Prop) (U : State) : Prop := va_Z "BoxedHeirs" "FIGURE_PLACES" "[I" (.ref a0) A U U.heap ∧ va_T .int a0 4 figs A U U.heap
def nest : List (String × Nat × MethodName) := [(RX9, 11, yX5_init), (RX9, 18, yX6_init), (RX9, 25, yX7_init), (RX9, 32, yX3_init), (RX9, 39, yX0_init), (RX9, 46, yX8_init), (RX9, 53, yX2_init), (RX9, 60, yX1_init), (RX9, 67, yX4_init), (RX5, 11, yX6_init)]
def Nx (U : State) : Prop := ∀ q ∈ nest, va_Nw (.methodLinkNest q.1 q.2.1 q.2.2 "BoxedHeirs") U
theorem Sz.moved {a0 : Nat} {A B : Nat → Prop} {s t : State} {H : Heap} (h : Sz a0 A s) (hk : ∀ q : Nat, q < s.heap.size → ¬ A q → H[q]? = s.heap[q]?) (hAB : ∀ q, B q → A q) (ht : t.heap = H) (hv : s.vm.Alike t.vm) : Sz a0 B t := by
  refine ⟨?_, ?_⟩
  · rw [ht]; exact va_Z.moved hv ((h.1.kept hk).narrow hAB)
  · rw [ht]; exact va_T.moved hv ((h.2.kept hk).narrow hAB)
def gpre (G : va_G) (ar : ClassId × ClassId × ClassId) (a0 h0 ci : Nat) (fs : List Value) (sz : Nat) (U : State) : Prop := U.heap.size = sz ∧ va_P G vwCl [(h0, .inr (ci, fs))] U.heap ∧ va_K G vwCl (tyA ar) U ∧ va_D (fun _ => True) [(h0, .inr (ci, fs))] ∧ Sz a0 (va_A [(h0, .inr (ci, fs))] sz) U ∧ Nx U
def gend (G : va_G) (ar : ClassId × ClassId × ClassId) (A : Nat → Prop) (ws : va_W) (t : State) : Prop := va_P G vwCl ws t.heap ∧ va_K G vwCl (tyA ar) t ∧ va_D A ws
def gr (n mc ms : Nat) : Room := { frames := n, cells := mc, slots := ms, locals := 40 * n }
/-- a constructor's contract: from its object's cell with the fields as they are born it returns, with the world 'post' says -/
def GM (l : Launch) (G : va_G) (ar : ClassId × ClassId × ClassId) (a0 n mc ms : Nat) (mt : Mt) (ci : Nat) (fs : List Value) (post : Nat → (Nat → Prop) → va_W → Prop) : Prop := ∀ h0 sz : Nat, Met l mt.1 (wr mt) (gr n mc ms) (va_Pc [.ref h0] (gpre G ar a0 h0 ci fs sz)) (va_Qv (post h0 (va_A [(h0, .inr (ci, fs))] sz)) (gend G ar (va_A [(h0, .inr (ci, fs))] sz)) (va_A [(h0, .inr (ci, fs))] sz)) mc ms (va_A [(h0, .inr (ci, fs))] sz)
def Tg (l : Launch) (G : va_G) (ar : ClassId × ClassId × ClassId) (a0 n mc ms : Nat) (mt : Mt) (h0 : Nat) (A : Nat → Prop) (post : va_W → Prop) (pc : Nat) (st : List Value) (ws : va_W) (k j : Nat) : Prop := ∀ (p : Program) (e : Env) (s : State) (m : MethodId) (args : Array Value) (below : List Frame) (meth : Method) (c : Code), Fx p s m args meth c mt → meth.name = "<init>" → (∀ q : Nat, s.heap.size ≤ q → A q) → va_K G vwCl (tyA ar) s → Sz a0 A s → Nx s → ∀ (H : Heap) (locs : List Loc) (ls : Array Slot), va_P G vwCl ws H → va_D A ws → va_S A s.heap H locs → lv_has ls mt.2.2.1 [(0, .ref h0)] → W p l e (gr n mc ms) s m args below meth c H locs k j (MQ below (va_Qv post (gend G ar A) A) args s mc ms A) (F0 m pc ls st)
section GROW
variable {l : Launch} {G : va_G} {ar : ClassId × ClassId × ClassId} {a0 n mc ms : Nat} {mt : Mt} {h0 : Nat} {A : Nat → Prop} {post : va_W → Prop} {pc : Nat} {st : List Value} {ws : va_W} {k j : Nat}
theorem GM.intro {ci : Nat} {fs : List Value} {po : Nat → (Nat → Prop) → va_W → Prop} (hy : plainName mt.1.cls = true) (h1 : mt.1.name = "<init>") (hw : 1 ≤ mt.2.2.1) (h : ∀ (h0 : Nat) (A : Nat → Prop), Tg l G ar a0 n mc ms mt h0 A (po h0 A) 0 [] [(h0, .inr (ci, fs))] 0 0) : GM l G ar a0 n mc ms mt ci fs po := by
  intro h0 sz
  refine Met.ofW (cc := mt.2.1) (maxL := mt.2.2.1) (ret := mt.2.2.2) hy rfl ?_
  intro p e s m args below meth c s₁ B hml hv
  obtain ⟨rfl, hsz, hP, hK, hD, hZ, hN⟩ := hv
  subst hsz
  have hF : Fx p s m _ meth c mt := ⟨B.exec, B.bytes, B.returns, hml, findClass_of_methodNamed B.named, fun w hw => atoms_spec (ws := wr mt) B.pre w (List.mem_cons_of_mem _ hw), B.notSynchronized⟩
  have hi : meth.name = "<init>" := ((name_of_methodNamed B.named B.method).1).trans h1
  rw [lg_entry_eq]
  have hl := lv_entry [.ref h0] (n := mt.2.2.1) (by show 1 ≤ mt.2.2.1; exact hw)
  exact h h0 _ p e s m _ below meth c hF hi (fun q h => Or.inr h) hK hZ hN s.heap [] _ hP hD.self va_S.rf hl
theorem g_al (d : decode mt.2.1 pc = .ok (.aload_n 0, 1)) (h : Tg l G ar a0 n mc ms mt h0 A post (pc + 1) (.ref h0 :: st) ws k j) : Tg l G ar a0 n mc ms mt h0 A post pc st ws k j := fun p e s m args below meth c hF hi hA hK hZ hN H locs ls hP hD hS hl => lv_aload_n hF.1 hF.2.1 d rfl (lv_at hl 0 rfl) (h p e s m args below meth c hF hi hA hK hZ hN H locs ls hP hD hS hl)
theorem g_dup {q : Nat} (d : decode mt.2.1 pc = .ok (.dup, 1)) (h : Tg l G ar a0 n mc ms mt h0 A post (pc + 1) (.ref q :: .ref q :: st) ws k j) : Tg l G ar a0 n mc ms mt h0 A post pc (.ref q :: st) ws k j := fun p e s m args below meth c hF hi hA hK hZ hN H locs ls hP hD hS hl => lv_dup hF.1 hF.2.1 d rfl (h p e s m args below meth c hF hi hA hK hZ hN H locs ls hP hD hS hl)
theorem g_ic {a : Int} {v : Int32} (d : decode mt.2.1 pc = .ok (.iconst a, 1)) (hz : Int32.ofInt a = v) (h : Tg l G ar a0 n mc ms mt h0 A post (pc + 1) (.int v :: st) ws k j) : Tg l G ar a0 n mc ms mt h0 A post pc st ws k j := fun p e s m args below meth c hF hi hA hK hZ hN H locs ls hP hD hS hl => lv_iconst hF.1 hF.2.1 d hz (h p e s m args below meth c hF hi hA hK hZ hN H locs ls hP hD hS hl)
theorem g_bi {a : Int} {v : Int32} (d : decode mt.2.1 pc = .ok (.bipush a, 2)) (hz : (Int8.ofInt a).toInt32 = v) (h : Tg l G ar a0 n mc ms mt h0 A post (pc + 2) (.int v :: st) ws k j) : Tg l G ar a0 n mc ms mt h0 A post pc st ws k j := fun p e s m args below meth c hF hi hA hK hZ hN H locs ls hP hD hS hl => lv_bipush hF.1 hF.2.1 d hz (h p e s m args below meth c hF hi hA hK hZ hN H locs ls hP hD hS hl)
theorem g_si {a : Int} {v : Int32} (d : decode mt.2.1 pc = .ok (.sipush a, 3)) (hz : (Int16.ofInt a).toInt32 = v) (h : Tg l G ar a0 n mc ms mt h0 A post (pc + 3) (.int v :: st) ws k j) : Tg l G ar a0 n mc ms mt h0 A post pc st ws k j := fun p e s m args below meth c hF hi hA hK hZ hN H locs ls hP hD hS hl => lv_sipush hF.1 hF.2.1 d hz (h p e s m args below meth c hF hi hA hK hZ hN H locs ls hP hD hS hl)
theorem g_oi {ix : Nat} (d : decode mt.2.1 pc = .ok (.invokespecial ix, 3)) (h1 : Cond.methodLink mt.1.cls ix objectInit ∈ TB) (h2 : Cond.instanceMethod objectInit ∈ TB) (h3 : Cond.code objectInit ⟨#[0xb1]⟩ 1 none ∈ TB) (hn : 1 ≤ n) (h : Tg l G ar a0 n mc ms mt h0 A post (pc + 3) [] ws k j) : Tg l G ar a0 n mc ms mt h0 A post pc [.ref h0] ws k j := by
  intro p e s m args below meth c hF hi hA hK hZ hN H locs ls hP hD hS hl
  have hts := hF.2.2.2.2.2.1
  exact W.objInit hF.1 hF.2.1 hF.2.2.2.2.1 (hts _ h1) (hts _ h2) (hts _ h3) rfl (hl.1.trans hF.2.2.2.1.symm) rfl d hn (by show 2 * 0 + 0 + 12 ≤ 40 * n; omega) (h p e s m args below meth c hF hi hA hK hZ hN H locs ls hP hD hS hl)
theorem g_new {ix ci N : Nat} {C : String} {T : u_T} {fs : List Value} (d : decode mt.2.1 pc = .ok (.new ix, 3)) (hc : vwCl[ci]? = some (C, T, N)) (hin : ∀ w ∈ u_ws C T N, w ∈ TB) (ty : Nat → FieldType) (hty : ∀ k, k < N → parseFieldDescriptor (T k).2.2.1 = some (ty k)) (h1 : Cond.classLink mt.1.cls ix C ∈ TB) (h2 : Cond.instantiable C N ∈ TB) (h3 : Cond.initialized C ∈ TB) (hfs : ∀ j, j < N → defaultValue (ty j) = vp_V fs j) (hk : k + 1 ≤ mc) (hj : j + N ≤ ms) (h : ∀ q : Nat, Tg l G ar a0 n mc ms mt h0 A post (pc + 3) (.ref q :: st) (ws ++ [(q, .inr (ci, fs))]) (k + 1) (j + N)) : Tg l G ar a0 n mc ms mt h0 A post pc st ws k j := by
  intro p e s m args below meth c hF hi hA hK hZ hN H locs ls hP hD hS hl
  have hts := hF.2.2.2.2.2.1
  exact va_new hF.1 hF.2.1 hts hin ty hty hF.2.2.2.2.1 (hts _ h1) (hts _ h2) (hts _ h3) hK hP hD hS hA hc hfs hk hj d (fun q H1 hP hD hS => h q p e s m args below meth c hF hi hA hK hZ hN H1 locs ls hP hD hS hl)
theorem g_nI {x : Int32} {N : Nat} (d : decode mt.2.1 pc = .ok (.newarray .int, 2)) (h1 : Cond.arrayClass .int ∈ TB) (hx : ¬ x < 0) (hN : x.toNatClampNeg = N) (hb : N ≤ 100000) (hk : k + 1 ≤ mc) (hj : j + N ≤ ms) (h : ∀ q : Nat, Tg l G ar a0 n mc ms mt h0 A post (pc + 2) (.ref q :: st) (ws ++ [(q, .inl (ar.1, N, .inl (fun _ => i32 0)))]) (k + 1) (j + N)) : Tg l G ar a0 n mc ms mt h0 A post pc (.int x :: st) ws k j := by
  intro p e s m args below meth c hF hi hA hK hZ hN2 H locs ls hP hD hS hl
  have hts := hF.2.2.2.2.2.1
  refine va_newa hF.1 hF.2.1 (atype := .int) (hts _ h1) (ty := .int) rfl hK hP hD hS hA (a0 := (N, .inl (fun _ => i32 0))) (fun cA => by rw [show i32 0 = (0 : Int32) from by decide +kernel]; rfl) hx hN (by show N * 4 ≤ 536870912; omega) hk hj d (fun q cA H1 hK1 hP1 hD1 hS1 => ?_)
  have e1 := (hK.2 0 (ar.1, .int) rfl).2
  have e2 := (hK1.2 3 (cA, .int) rfl).2
  have e3 : cA = ar.1 := Option.some.inj (Eq.trans (Eq.symm e2) e1)
  subst e3
  exact h q p e s m args below meth c hF hi hA hK hZ hN2 H1 locs ls hP1 hD1 hS1 hl
theorem g_nZ {x : Int32} {N : Nat} (d : decode mt.2.1 pc = .ok (.newarray .boolean, 2)) (h1 : Cond.arrayClass .boolean ∈ TB) (hx : ¬ x < 0) (hN : x.toNatClampNeg = N) (hb : N ≤ 100000) (hk : k + 1 ≤ mc) (hj : j + N ≤ ms) (h : ∀ q : Nat, Tg l G ar a0 n mc ms mt h0 A post (pc + 2) (.ref q :: st) (ws ++ [(q, .inl (ar.2.1, N, .inl (fun _ => i32 0)))]) (k + 1) (j + N)) : Tg l G ar a0 n mc ms mt h0 A post pc (.int x :: st) ws k j := by
  intro p e s m args below meth c hF hi hA hK hZ hN2 H locs ls hP hD hS hl
  have hts := hF.2.2.2.2.2.1
  refine va_newa hF.1 hF.2.1 (atype := .boolean) (hts _ h1) (ty := .boolean) rfl hK hP hD hS hA (a0 := (N, .inl (fun _ => i32 0))) (fun cA => by rw [show i32 0 = (0 : Int32) from by decide +kernel]; rfl) hx hN (by show N * 1 ≤ 536870912; omega) hk hj d (fun q cA H1 hK1 hP1 hD1 hS1 => ?_)
  have e1 := (hK.2 1 (ar.2.1, .boolean) rfl).2
  have e2 := (hK1.2 3 (cA, .boolean) rfl).2
  have e3 : cA = ar.2.1 := Option.some.inj (Eq.trans (Eq.symm e2) e1)
  subst e3
  exact h q p e s m args below meth c hF hi hA hK hZ hN2 H1 locs ls hP1 hD1 hS1 hl
theorem g_nL {x : Int32} {N : Nat} (d : decode mt.2.1 pc = .ok (.newarray .long, 2)) (h1 : Cond.arrayClass .long ∈ TB) (hx : ¬ x < 0) (hN : x.toNatClampNeg = N) (hb : N ≤ 100000) (hk : k + 1 ≤ mc) (hj : j + N ≤ ms) (h : ∀ q : Nat, Tg l G ar a0 n mc ms mt h0 A post (pc + 2) (.ref q :: st) (ws ++ [(q, .inl (ar.2.2, N, .inr (.inl (fun _ => i64 0))))]) (k + 1) (j + N)) : Tg l G ar a0 n mc ms mt h0 A post pc (.int x :: st) ws k j := by
  intro p e s m args below meth c hF hi hA hK hZ hN2 H locs ls hP hD hS hl
  have hts := hF.2.2.2.2.2.1
  refine va_newa hF.1 hF.2.1 (atype := .long) (hts _ h1) (ty := .long) rfl hK hP hD hS hA (a0 := (N, .inr (.inl (fun _ => i64 0)))) (fun cA => by rw [show i64 0 = (0 : Int64) from by decide +kernel]; rfl) hx hN (by show N * 8 ≤ 536870912; omega) hk hj d (fun q cA H1 hK1 hP1 hD1 hS1 => ?_)
  have e1 := (hK.2 2 (ar.2.2, .long) rfl).2
  have e2 := (hK1.2 3 (cA, .long) rfl).2
  have e3 : cA = ar.2.2 := Option.some.inj (Eq.trans (Eq.symm e2) e1)
  subst e3
  exact h q p e s m args below meth c hF hi hA hK hZ hN2 H1 locs ls hP1 hD1 hS1 hl
theorem g_pF {ix ci sl N : Nat} {C : String} {T : u_T} {fs : List Value} {v : Value} {ty : FieldType} {tl : va_W} (d : decode mt.2.1 pc = .ok (.putfield ix, 3)) (hc : vwCl[ci]? = some (C, T, N)) (hin : ∀ w ∈ u_ws C T N, w ∈ TB) (ty0 : Nat → FieldType) (hty : ∀ k, k < N → parseFieldDescriptor (T k).2.2.1 = some (ty0 k)) (hnm : ∀ a, a < N → ∀ b, b < N → a ≠ b → (T a).2.1 ≠ (T b).2.1) (hs : sl < N) (hw : Cond.fieldLink mt.1.cls ix (T sl).1 (T sl).2.1 (T sl).2.2.1 ∈ TB) (hfin : (T sl).2.2.2 = true) (hdc : (T sl).1 = mt.1.cls) (hd : parseFieldDescriptor (T sl).2.2.1 = some ty) (hn : narrow ty v = v) (hfit : fits ty v = true) (hlen : sl < fs.length) (h : Tg l G ar a0 n mc ms mt h0 A post (pc + 3) st ((h0, .inr (ci, fs.set sl v)) :: tl) k j) : Tg l G ar a0 n mc ms mt h0 A post pc (v :: .ref h0 :: st) ((h0, .inr (ci, fs)) :: tl) k j := by
  intro p e s m args below meth c hF hi hA hK hZ hN H locs ls hP hD hS hl
  have hts := hF.2.2.2.2.2.1
  exact va_putF (D := G) hF.1 hF.2.1 hts hin ty0 hty hnm hF.2.2.2.2.1 hK hP hD hS 0 rfl hc sl hs (hts _ hw) (fun _ h9 => h9) hfin hi hdc hd hn hfit hlen d (fun H1 locs1 hP hD hS => h p e s m args below meth c hF hi hA hK hZ hN H1 locs1 ls hP hD hS hl)
theorem g_p {ix ci sl N : Nat} {C : String} {T : u_T} {fs : List Value} {v : Value} {ty : FieldType} {tl : va_W} (d : decode mt.2.1 pc = .ok (.putfield ix, 3)) (hc : vwCl[ci]? = some (C, T, N)) (hin : ∀ w ∈ u_ws C T N, w ∈ TB) (ty0 : Nat → FieldType) (hty : ∀ k, k < N → parseFieldDescriptor (T k).2.2.1 = some (ty0 k)) (hnm : ∀ a, a < N → ∀ b, b < N → a ≠ b → (T a).2.1 ≠ (T b).2.1) (hs : sl < N) (hw : Cond.fieldLink mt.1.cls ix (T sl).1 (T sl).2.1 (T sl).2.2.1 ∈ TB) (hfin : (T sl).2.2.2 = false) (hd : parseFieldDescriptor (T sl).2.2.1 = some ty) (hn : narrow ty v = v) (hfit : fits ty v = true) (hlen : sl < fs.length) (h : Tg l G ar a0 n mc ms mt h0 A post (pc + 3) st ((h0, .inr (ci, fs.set sl v)) :: tl) k j) : Tg l G ar a0 n mc ms mt h0 A post pc (v :: .ref h0 :: st) ((h0, .inr (ci, fs)) :: tl) k j := by
  intro p e s m args below meth c hF hi hA hK hZ hN H locs ls hP hD hS hl
  have hts := hF.2.2.2.2.2.1
  exact va_put (D := G) hF.1 hF.2.1 hts hin ty0 hty hnm hF.2.2.2.2.1 hK hP hD hS 0 rfl hc sl hs (hts _ hw) (fun _ h9 => h9) hfin hd hn hfit hlen d (fun H1 locs1 hP hD hS => h p e s m args below meth c hF hi hA hK hZ hN H1 locs1 ls hP hD hS hl)
theorem g_gf {ix ci sl N q0 a : Nat} {C : String} {T : u_T} {fs : List Value} {v : Value} (d : decode mt.2.1 pc = .ok (.getfield ix, 3)) (hc : vwCl[ci]? = some (C, T, N)) (hin : ∀ w ∈ u_ws C T N, w ∈ TB) (hs : sl < N) (hw : Cond.fieldLink mt.1.cls ix (T sl).1 (T sl).2.1 (T sl).2.2.1 ∈ TB) (he : ws[q0]? = some (a, .inr (ci, fs))) (hv : fs[sl]? = some v) (h : Tg l G ar a0 n mc ms mt h0 A post (pc + 3) (v :: st) ws k j) : Tg l G ar a0 n mc ms mt h0 A post pc (.ref a :: st) ws k j := by
  intro p e s m args below meth c hF hi hA hK hZ hN H locs ls hP hD hS hl
  have hts := hF.2.2.2.2.2.1
  exact va_get (D := G) hF.1 hF.2.1 hts hin hF.2.2.2.2.1 hK hP q0 he hc sl hs (hts _ hw) (fun _ h9 => h9) hv d (h p e s m args below meth c hF hi hA hK hZ hN H locs ls hP hD hS hl)
theorem g_ret (d : decode mt.2.1 pc = .ok (.return_, 1)) (hr : mt.2.2.2 = none) (hk : k = mc) (hj : j = ms) (hp : post ws) : Tg l G ar a0 n mc ms mt h0 A post pc [] ws k j := by
  intro p e s m args below meth c hF hi hA hK hZ hN H locs ls hP hD hS hl
  subst hk
  subst hj
  exact W.vret hF.1 hF.2.1 (hF.2.2.1.trans hr) (fun t ht hW => ⟨⟨ws, rfl, hp, by rw [ht]; exact hP, va_K.moved hW.alike hK, hD⟩, hS.F ht⟩) hS.2.2 d hF.2.2.2.2.2.2
theorem rng_map (w0 t : va_W) : (List.range w0.length).map (fun i => (w0 ++ t)[i]?) = w0.map some := by
  apply List.ext_getElem?
  intro i
  rw [List.getElem?_map, List.getElem?_map]
  by_cases hi : i < w0.length
  · rw [List.getElem?_range hi, List.getElem?_eq_getElem hi]
    show some ((w0 ++ t)[i]?) = some (some w0[i])
    rw [List.getElem?_append_left hi, List.getElem?_eq_getElem hi]
  · rw [List.getElem?_eq_none (by rw [List.length_range]; omega), List.getElem?_eq_none (show w0.length ≤ i by omega)]
    rfl
theorem va_nd_of : ∀ {l : List Nat}, l.Nodup → va_nd l = true
  | [], _ => rfl
  | a :: l, h => by
    rw [List.nodup_cons] at h
    show (decide (a ∉ l) && va_nd l) = true
    rw [decide_eq_true h.1, va_nd_of h.2]
    rfl
theorem gpre.blind {ci : Nat} {fs : List Value} {q sz : Nat} {av : List Value} : FrameBlind (va_Pc av (gpre G ar a0 q ci fs sz)) := fun a U g mk x => ⟨x.1, x.2.1, x.2.2.1, va_K.moved (u := U) (U := U.calling g mk a) (Vm.Alike.refl U.vm) x.2.2.2.1, x.2.2.2.2.1, ⟨va_Z.moved (u := U) (U := U.calling g mk a) (Vm.Alike.refl U.vm) x.2.2.2.2.2.1.1, va_T.moved (u := U) (U := U.calling g mk a) (Vm.Alike.refl U.vm) x.2.2.2.2.2.1.2⟩, fun w hw => va_Nw.same rfl (show U.vm = (U.calling g mk a).vm from rfl) (x.2.2.2.2.2.2 w hw)⟩
theorem g_call {ix ci n' mc' ms' mx q : Nat} {y : MethodName} {cc : ByteArray} {fs : List Value} {po : Nat → (Nat → Prop) → va_W → Prop} {w0 : va_W} (d : decode mt.2.1 pc = .ok (.invokespecial ix, 3)) (hcd : Cond.code y cc mx none ∈ TB) (hini : Cond.initialized y.cls ∈ TB) (hm : Cond.instanceMethod y ∈ TB) (hnm : y.name = "<init>") (hd : y.cls ≠ "java/lang/invoke/MethodHandle" ∧ y.cls ≠ "java/lang/invoke/VarHandle" ∧ (parseMethodDescriptor y.desc).map (fun d => d.parameters.length) = some 0) (hne : (mt.1.cls, ix, y) ∈ nest) (hml : mx ≤ 21) (hn : n' < n) (hk : k + mc' ≤ mc) (hj : j + ms' ≤ ms) (hst : (st.map fun v => v.category).sum ≤ 8) (hG : GM l G ar a0 n' mc' ms' (y, cc, mx, none) ci fs po) (h : ∀ (B : Nat → Prop) (w1 : va_W), po q B w1 → Tg l G ar a0 n mc ms mt h0 A post (pc + 3) st (w0 ++ w1) (k + mc') (j + ms')) : Tg l G ar a0 n mc ms mt h0 A post pc (.ref q :: st) (w0 ++ [(q, .inr (ci, fs))]) k j := by
  intro p e s m args below meth c hF hi hA hK hZ hN H locs ls hP hD hS hl
  have hts := hF.2.2.2.2.2.1
  have hlast : (w0 ++ [((q, .inr (ci, fs)) : Nat × va_E)])[w0.length]? = some (q, .inr (ci, fs)) := by
    rw [List.getElem?_append_right (Nat.le_refl _), Nat.sub_self]
    rfl
  have hC : [w0.length].map (fun i => (w0 ++ [((q, .inr (ci, fs)) : Nat × va_E)])[i]?) = [((q, .inr (ci, fs)) : Nat × va_E)].map some := by
    exact congrArg (fun x => [x]) hlast
  have hPc : va_P G vwCl [(q, .inr (ci, fs))] H := by
    intro i x hx
    have hz : i < 1 := (List.getElem?_eq_some_iff.mp hx).1
    rw [show i = 0 by omega] at hx
    cases hx
    exact hP _ _ hlast
  have hDc : va_D (fun _ => True) [((q, .inr (ci, fs)) : Nat × va_E)] := ⟨fun i1 j1 x y h1 h2 _ => by
    have z1 : i1 < 1 := (List.getElem?_eq_some_iff.mp h1).1
    have z2 : j1 < 1 := (List.getElem?_eq_some_iff.mp h2).1
    omega, fun _ _ _ => trivial⟩
  have hFc : ∀ q', va_A [((q, .inr (ci, fs)) : Nat × va_E)] H.size q' → A q' := va_free hD hS hA [w0.length] hC
  refine va_callv (va_runIN (host := "BoxedHeirs") (As := []) (rest := st) (b := q) (n := 0) ⟨hF.1, hF.2.1, hF.2.2.2.1, hF.2.2.2.2.1, hts⟩ (hG q H.size) ⟨va_cnB 0 hts (wr_good (mt' := (y, cc, mx, none)) hcd) rfl rfl rfl (hN _ hne) (hts _ hini) hd ⟨hn, by show 8 + (mx + 11) + 40 * n' ≤ 40 * n; omega⟩, hnm, hts _ hm⟩ ⟨gpre.blind, fun U hU hW => ⟨rfl, by rw [hU], by rw [hU]; exact hPc, va_K.moved hW.alike hK, hDc, hZ.moved hS.2.1 hFc hU hW.alike, fun w hw => va_Nw.warmM hW (hN w hw)⟩⟩ rfl rfl hl.1 rfl (lv_room hst) d ⟨hk, hj⟩) hS (fun q' _ h => hFc q' h) hFc (fun u t H1 locs1 ht hvm hw hB hz1 hk1 hS1 => ?_)
  obtain ⟨hP1, hK1, hD1⟩ := hB
  rw [ht] at hP1
  obtain ⟨hP2, hD2⟩ := va_join (wr := w0) (w1 := u) hP hD [w0.length] (List.range w0.length) hC (rng_map w0 _) (va_nd_of List.nodup_range) (fun i h1 h2 => by rw [List.mem_singleton] at h2; rw [List.mem_range] at h1; omega) hk1 hFc hP1 hD1
  exact h _ u hw p e s m args below meth c hF hi hA hK hZ hN H1 locs1 ls hP2 hD2 hS1 hl
/-- a call of a method of the whole world, behind which the world is whole again -/
theorem g_tm {ix n' id ci N : Nat} {sg : Nat → Nat} {C : String} {T : u_T} {mt' : Mt} {M : Me} {Q' : Qt} (hsg : sg 1000 = a0) (d : decode mt.2.1 pc = .ok (.invokevirtual ix, 3)) (hcl : vwCl[ci]? = some (C, T, N)) (hl0 : Cond.methodLink mt.1.cls ix mt'.1 ∈ TB) (hs : Cond.instanceMethod mt'.1 ∈ TB) (hse : Cond.selects C mt'.1 mt'.1 ∈ TB) (hini : Cond.initialized mt'.1.cls ∈ TB) (hcd : Cond.code mt'.1 mt'.2.1 mt'.2.2.1 mt'.2.2.2 ∈ TB) (hd : mt'.1.cls ≠ "java/lang/invoke/MethodHandle" ∧ mt'.1.cls ≠ "java/lang/invoke/VarHandle" ∧ (parseMethodDescriptor mt'.1.desc).map (fun d => d.parameters.length) = some 0) (hn : n' < n) (hml : mt'.2.2.1 ≤ 21) (hid : cls shC id = some ci) (hk : k ≤ mc) (hj : j ≤ ms) (hst : (st.map fun v => v.category).sum ≤ 8) (ht : TM l (G, sg, ar, A) shC n' mt' [vR id] M (fun v M' => v = none ∧ Q' v M')) (h : ∀ M' : Me, Q' none M' → Tg l G ar a0 n mc ms mt h0 A post (pc + 3) st (wd (G, sg, ar, A) shC M') k j) : Tg l G ar a0 n mc ms mt h0 A post pc (.ref (sg id) :: st) (wd (G, sg, ar, A) shC M) k j := by
  intro p e s m args below meth c hF hi hA hK hZ hN H locs ls hP hD hS hl
  have hts := hF.2.2.2.2.2.1
  obtain ⟨fl, hfl⟩ := cls_spec hid
  have hr := va_runV (e := e) (meth := meth) (R := gr n mc ms) (below := below) (locs := locs) (cells := k) (slots := j) (g := F0 m pc ls (.ref (sg id) :: st)) (C := C) (b := sg id) (As := []) (rest := st) (n := 0) ⟨hF.1, hF.2.1, hF.2.2.2.1, hF.2.2.2.2.1, hts⟩ ht ⟨callB_of 0 hts (wr_good hcd) rfl rfl rfl (hts _ hini) (hts _ hl0) hd ⟨hn, by show 8 + (mt'.2.2.1 + 11) + 40 * n' ≤ 40 * n; omega⟩, hts _ hs, hts _ hse⟩ ⟨Wd.blind, va_recv hK hP hcl ((wd_at (X := (G, sg, ar, A)) hfl).trans (by rw [ce_obj])), fun U hU hv => ⟨rfl, by rw [hU]; exact hP, va_K.moved hv.alike hK, hD, by
    have z := hZ.moved (B := A) hS.2.1 (fun _ h => h) hU hv.alike
    show va_Z "BoxedHeirs" "FIGURE_PLACES" "[I" (.ref (sg 1000)) A U U.heap ∧ va_T .int (sg 1000) 4 figs A U U.heap
    rw [hsg]
    exact z⟩⟩ rfl rfl hl.1 rfl (lv_room hst) d ⟨hk, hj⟩
  intro T0 hT Y
  obtain ⟨v, st₀, t, T', L, z0, Y', hL2, e1, e2, ⟨⟨v', M', hv, ⟨hv0, hq⟩, hWd⟩, hz, hkk⟩, stp⟩ := hr T0 hT Y
  cases hv
  subst hv0
  rw [z0] at hz hkk
  have w := h M' hq p e s m args below meth c hF hi hA hK hZ hN T'.heap (locs ++ L) ls (by rw [e1]; exact hWd.1) hWd.2.2.1 ⟨Nat.le_trans hS.1 (by rw [e1]; exact hz), fun q h1 h2 => by rw [e1, hkk q (Nat.lt_of_lt_of_le h1 hS.1) h2]; exact hS.2.1 q h1 h2, fun q hq => by
      rcases List.mem_append.mp hq with h | h
      · exact hS.2.2 q h
      · exact hL2 q h⟩ hl
  obtain ⟨t2, a1, b1⟩ := w T' rfl Y'
  exact ⟨t2, stp t2 a1, b1⟩
end GROW
