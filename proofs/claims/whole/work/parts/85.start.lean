/-! the law from its entry -/
theorem kn_all {s : State} {args : Array Value} (hts : ∀ w ∈ lw_tbl, w.before args s = true) : ∃ G : va_G, ∀ (k : Nat) (q : vw_C), vwCl[k]? = some q → u_Kn s q.1 q.2.1 q.2.2 (G.1 k) (G.2 k) := by
  obtain ⟨c0, i0, k0⟩ := u_known (C := RX0) (T := TX0) (N := 3) (n := 3) hts iX0 (hts (.instantiable RX0 3) (by decide +kernel))
  obtain ⟨c1, i1, k1⟩ := u_known (C := RX1) (T := TX1) (N := 1) (n := 1) hts iX1 (hts (.instantiable RX1 1) (by decide +kernel))
  obtain ⟨c2, i2, k2⟩ := u_known (C := RX2) (T := TX2) (N := 3) (n := 3) hts iX2 (hts (.instantiable RX2 3) (by decide +kernel))
  obtain ⟨c3, i3, k3⟩ := u_known (C := RX3) (T := TX3) (N := 3) (n := 3) hts iX3 (hts (.instantiable RX3 3) (by decide +kernel))
  obtain ⟨c4, i4, k4⟩ := u_known (C := RX4) (T := TX4) (N := 2) (n := 2) hts iX4 (hts (.instantiable RX4 2) (by decide +kernel))
  obtain ⟨c5, i5, k5⟩ := u_known (C := RX5) (T := TX5) (N := 8) (n := 8) hts iX5 (hts (.instantiable RX5 8) (by decide +kernel))
  obtain ⟨c6, i6, k6⟩ := u_known (C := RX6) (T := TX6) (N := 9) (n := 9) hts iX6 (hts (.instantiable RX6 9) (by decide +kernel))
  obtain ⟨c7, i7, k7⟩ := u_known (C := RX7) (T := TX7) (N := 1) (n := 1) hts iX7 (hts (.instantiable RX7 1) (by decide +kernel))
  obtain ⟨c8, i8, k8⟩ := u_known (C := RX8) (T := TX8) (N := 3) (n := 3) hts iX8 (hts (.instantiable RX8 3) (by decide +kernel))
  obtain ⟨c9, i9, k9⟩ := u_known (C := RX9) (T := TX9) (N := 11) (n := 11) hts iX9 (hts (.instantiable RX9 11) (by decide +kernel))
  obtain ⟨c10, i10, k10⟩ := u_known (C := RX10) (T := TX10) (N := 42) (n := 42) hts iX10 (hts (.instantiable RX10 42) (by decide +kernel))
  refine ⟨(fun k => [c0, c1, c2, c3, c4, c5, c6, c7, c8, c9, c10].getD k c0, fun k => [i0, i1, i2, i3, i4, i5, i6, i7, i8, i9, i10].getD k i0), fun k q hq => ?_⟩
  match k, hq with
  | 0, hq => cases hq; exact k0
  | 1, hq => cases hq; exact k1
  | 2, hq => cases hq; exact k2
  | 3, hq => cases hq; exact k3
  | 4, hq => cases hq; exact k4
  | 5, hq => cases hq; exact k5
  | 6, hq => cases hq; exact k6
  | 7, hq => cases hq; exact k7
  | 8, hq => cases hq; exact k8
  | 9, hq => cases hq; exact k9
  | 10, hq => cases hq; exact k10
  | k + 11, hq => simp [vwCl] at hq
theorem arr_all {s : State} {args : Array Value} (hts : ∀ w ∈ lw_tbl, w.before args s = true) : ∃ ar : ClassId × ClassId × ClassId, ∀ (k : Nat) (q : ClassId × FieldType), (tyA ar)[k]? = some q → ArrOfT s q.1 q.2 ∧ va_RA s q.1 q.2 := by
  obtain ⟨cI, kI, mI, f1, f2, f3⟩ := Cond.arrayClass_spec (hts (.arrayClass .int) (by decide +kernel))
  obtain ⟨cZ, kZ, mZ, g1, g2, g3⟩ := Cond.arrayClass_spec (hts (.arrayClass .boolean) (by decide +kernel))
  obtain ⟨cL, kL, mL, h1, h2, h3⟩ := Cond.arrayClass_spec (hts (.arrayClass .long) (by decide +kernel))
  refine ⟨(cI, cZ, cL), fun k q hq => ?_⟩
  match k, hq with
  | 0, hq => cases hq; exact ⟨fun n z => ⟨fun k h => (by cases h), kI, f2, mI, f3⟩, f1⟩
  | 1, hq => cases hq; exact ⟨fun n z => ⟨fun k h => (by cases h), kZ, g2, mZ, g3⟩, g1⟩
  | 2, hq => cases hq; exact ⟨fun n z => ⟨fun k h => (by cases h), kL, h2, mL, h3⟩, h1⟩
  | k + 3, hq => simp [tyA] at hq
theorem nest_in : ∀ q ∈ nest, Cond.methodLinkNest q.1 q.2.1 q.2.2 "BoxedHeirs" ∈ lw_tbl := by decide +kernel
theorem wd_get {X : Cx} {sh : List Sh} {M : Me} {k : Nat} {x : Nat × va_E} (h : (wd X sh M)[k]? = some x) : k < sh.length ∧ x.1 = X.2.1 k := by
  have hk : k < sh.length := by
    have := (List.getElem?_eq_some_iff.mp h).1
    unfold wd at this
    rw [List.length_mapIdx] at this
    exact this
  rw [wd_at (List.getElem?_eq_getElem hk)] at h
  cases h
  exact ⟨hk, rfl⟩
theorem wd_len {X : Cx} {sh : List Sh} {M : Me} : (wd X sh M).length = sh.length := by
  unfold wd
  exact List.length_mapIdx
/-- two worlds beside each other, each with its own cells -/
theorem two_worlds {A0 : Nat → Prop} {X Y : Cx} {M1 M2 : Me} {sh1 sh2 : List Sh} (hD : va_D A0 (wd X sh1 M1 ++ wd Y sh2 M2)) : va_D (fun q => ∃ k, k < sh1.length ∧ q = X.2.1 k) (wd X sh1 M1) ∧ va_D (fun q => ∃ k, k < sh2.length ∧ q = Y.2.1 k) (wd Y sh2 M2) ∧ (∀ q, (∃ k, k < sh1.length ∧ q = X.2.1 k) → (∃ k, k < sh2.length ∧ q = Y.2.1 k) → False) ∧ (∀ q, (∃ k, k < sh1.length ∧ q = X.2.1 k) → A0 q) ∧ (∀ q, (∃ k, k < sh2.length ∧ q = Y.2.1 k) → A0 q) := by
  have gl : ∀ (k : Nat) (x : Nat × va_E), (wd X sh1 M1)[k]? = some x → (wd X sh1 M1 ++ wd Y sh2 M2)[k]? = some x := fun k x h => by
    rw [List.getElem?_append_left (List.getElem?_eq_some_iff.mp h).1]
    exact h
  have gr2 : ∀ (k : Nat) (x : Nat × va_E), (wd Y sh2 M2)[k]? = some x → (wd X sh1 M1 ++ wd Y sh2 M2)[sh1.length + k]? = some x := fun k x h => by
    rw [List.getElem?_append_right (by rw [wd_len]; omega), wd_len, Nat.add_sub_cancel_left]
    exact h
  have a1 : ∀ k, k < sh1.length → ∃ z, (wd X sh1 M1)[k]? = some (X.2.1 k, z) := fun k hk => ⟨_, wd_at (List.getElem?_eq_getElem hk)⟩
  have a2 : ∀ k, k < sh2.length → ∃ z, (wd Y sh2 M2)[k]? = some (Y.2.1 k, z) := fun k hk => ⟨_, wd_at (List.getElem?_eq_getElem hk)⟩
  refine ⟨⟨fun i j p q h1 h2 h3 => hD.1 i j p q (gl i p h1) (gl j q h2) h3, fun k q h => ⟨k, wd_get h⟩⟩, ⟨fun i j p q h1 h2 h3 => ?_, fun k q h => ⟨k, wd_get h⟩⟩, ?_, ?_, ?_⟩
  · have := hD.1 _ _ p q (gr2 i p h1) (gr2 j q h2) h3
    omega
  · rintro q ⟨k, hk, e1⟩ ⟨j, hj, e2⟩
    obtain ⟨z1, y1⟩ := a1 k hk
    obtain ⟨z2, y2⟩ := a2 j hj
    have := hD.1 _ _ _ _ (gl k _ y1) (gr2 j _ y2) (by show X.2.1 k = Y.2.1 j; rw [← e1, e2])
    omega
  · rintro q ⟨k, hk, e1⟩
    obtain ⟨z1, y1⟩ := a1 k hk
    rw [e1]
    exact hD.2 k _ (gl k _ y1)
  · rintro q ⟨k, hk, e1⟩
    obtain ⟨z2, y2⟩ := a2 k hk
    rw [e1]
    exact hD.2 _ _ (gr2 k _ y2)
theorem wd_A {G : va_G} {sg : Nat → Nat} {ar : ClassId × ClassId × ClassId} {A B : Nat → Prop} {sh : List Sh} {M : Me} : wd (G, sg, ar, A) sh M = wd (G, sg, ar, B) sh M := by
  unfold wd
  congr 1
/-- both are made: the loop -/
theorem law_18 {p : Program} {e : Env} {s : State} {m : MethodId} {below : List Frame} {meth : Method} {c : Code} {l : Launch} {b L : Nat} {xs : Nat → Int32} {G : va_G} {ar : ClassId × ClassId × ClassId} {a0 : Nat} {sgC sgM : Nat → Nat} {cc : Int → Int} {B1 B2 : Nat → Prop} {H : Heap} {locs : List Loc} {ls : Array Slot} (hL : L ≤ 192) (C0 : lw_At p s m meth c b L xs) (hK : va_K G vwCl (tyA ar) s) (hZ : Sz a0 (fun q : Nat => s.heap.size ≤ q) s) (g1 : sgC 1000 = a0) (m1 : sgM 1000 = a0) (hcc : ∀ i, 0 ≤ i → i < 32 → cc i = if 21 ≤ i ∧ i < 27 then -1 else 0) (hP : va_P G vwCl (wd (G, sgC, ar, B1) shC (rp m0C.1 18 cc, m0C.2) ++ wd (G, sgM, ar, B2) shM (m0M.1, m0M.2)) H) (hD : va_D (fun q : Nat => s.heap.size ≤ q) (wd (G, sgC, ar, B1) shC (rp m0C.1 18 cc, m0C.2) ++ wd (G, sgM, ar, B2) shM (m0M.1, m0M.2))) (hS : va_S (fun q : Nat => s.heap.size ≤ q) s.heap H locs) (hl : lv_has ls 4 [(0, .ref b), (1, .ref (sgC 0)), (2, .ref (sgM 0)), (3, .int (i32 ((0 : Nat) : Int)))]) : W p l e room_1 s m #[Value.ref b] below meth c H locs 600000 7302250 (lw_Z below #[Value.ref b] s) (F0 m 18 ls []) := by
  rw [wd_A (sg := sgC) (A := B1) (B := fun q => ∃ k, k < shC.length ∧ q = sgC k), wd_A (sg := sgM) (A := B2) (B := fun q => ∃ k, k < shM.length ∧ q = sgM k)] at hP hD
  obtain ⟨t1, t2, t3, t4, t5⟩ := two_worlds hD
  have hPX : va_P G vwCl (wd (G, sgC, ar, fun q => ∃ k, k < shC.length ∧ q = sgC k) shC (rp m0C.1 18 cc, m0C.2)) H := fun k x h => hP k x (by rw [List.getElem?_append_left (List.getElem?_eq_some_iff.mp h).1]; exact h)
  have hPY : va_P G vwCl (wd (G, sgM, ar, fun q => ∃ k, k < shM.length ∧ q = sgM k) shM (m0M.1, m0M.2)) H := fun k x h => hP ((wd (G, sgC, ar, fun q => ∃ k, k < shC.length ∧ q = sgC k) shC (rp m0C.1 18 cc, m0C.2)).length + k) x (by rw [List.getElem?_append_right (Nat.le_add_right _ _), Nat.add_sub_cancel_left]; exact h)
  have hSX : Sx (G, sgC, ar, fun q => ∃ k, k < shC.length ∧ q = sgC k) s := by
    have z := hZ.moved (B := fun q => ∃ k, k < shC.length ∧ q = sgC k) (H := s.heap) (t := s) (fun _ _ _ => rfl) t4 rfl (Vm.Alike.refl s.vm)
    rw [← g1] at z
    exact z
  have hSY : Sx (G, sgM, ar, fun q => ∃ k, k < shM.length ∧ q = sgM k) s := by
    have z := hZ.moved (B := fun q => ∃ k, k < shM.length ∧ q = sgM k) (H := s.heap) (t := s) (fun _ _ _ => rfl) t5 rfl (Vm.Alike.refl s.vm)
    rw [← m1] at z
    exact z
  have hTL := law_loop (l := l) (X := (G, sgC, ar, fun q => ∃ k, k < shC.length ∧ q = sgC k)) (Y := (G, sgM, ar, fun q => ∃ k, k < shM.length ∧ q = sgM k)) (b := b) (xs := xs) hL 193 0 (rp m0C.1 18 cc) m0M.1 m0C.2 m0M.2 (by omega) (by omega) (Inv_0 hcc)
  exact hTL p e s m below meth c C0 ⟨rfl, rfl, hK, hSX, hSY, t3, t4, t5⟩ H locs ls ⟨hPX, hPY, t1, t2, hS⟩ hl
