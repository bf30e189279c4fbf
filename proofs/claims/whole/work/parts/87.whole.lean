/-! THE LAW, from its entry -/
theorem law_15 {p : Program} {e : Env} {s : State} {m : MethodId} {below : List Frame} {meth : Method} {c : Code} {l : Launch} {b L : Nat} {xs : Nat → Int32} {G : va_G} {ar : ClassId × ClassId × ClassId} {a0 h0 hM : Nat} {sgC sgM : Nat → Nat} {cc : Int → Int} {B1 B2 : Nat → Prop} {H : Heap} {locs : List Loc} {ls : Array Slot} {k j : Nat} (hL : L ≤ 192) (C0 : lw_At p s m meth c b L xs) (hK : va_K G vwCl (tyA ar) s) (hZ : Sz a0 (fun q : Nat => s.heap.size ≤ q) s) (g0 : sgC 0 = h0) (g1 : sgC 1000 = a0) (m0 : sgM 0 = hM) (m1 : sgM 1000 = a0) (hcc : ∀ i, 0 ≤ i → i < 32 → cc i = if 21 ≤ i ∧ i < 27 then -1 else 0) (hP : va_P G vwCl (wd (G, sgC, ar, B1) shC (rp m0C.1 18 cc, m0C.2) ++ wd (G, sgM, ar, B2) shM (m0M.1, m0M.2)) H) (hD : va_D (fun q : Nat => s.heap.size ≤ q) (wd (G, sgC, ar, B1) shC (rp m0C.1 18 cc, m0C.2) ++ wd (G, sgM, ar, B2) shM (m0M.1, m0M.2))) (hS : va_S (fun q : Nat => s.heap.size ≤ q) s.heap H locs) (hl : lv_has ls 4 [(1, .ref h0), (0, .ref b)]) (hk : k ≤ 600000) (hj : j ≤ 7302250) : W p l e room_1 s m #[Value.ref b] below meth c H locs k j (lw_Z below #[Value.ref b] s) (F0 m 15 ls [.ref hM]) := by
  obtain ⟨hx, hb, hr, hml, hown, hts, hX, hbl, hlocks, hgv⟩ := id C0
  refine lv_astore_n (lv' := [(2, .ref hM), (1, .ref h0), (0, .ref b)]) hx hb (show decode code 15 = .ok (.astore_n 2, 1) by decide +kernel) rfl hl (by decide) rfl (fun ls hl => ?_)
  refine lv_iconst (v := 0) hx hb (show decode code 16 = .ok (.iconst 0, 1) by decide +kernel) (by decide) ?_
  refine lv_istore_n (lv' := [(3, .int 0), (2, .ref hM), (1, .ref h0), (0, .ref b)]) hx hb (show decode code 17 = .ok (.istore_n 3, 1) by decide +kernel) rfl hl (by decide) rfl (fun ls hl => ?_)
  refine W.widen hk hj ?_
  have hl : lv_has ls 4 [(0, .ref b), (1, .ref (sgC 0)), (2, .ref (sgM 0)), (3, .int (i32 ((0 : Nat) : Int)))] := by
    rw [g0, m0, show i32 ((0 : Nat) : Int) = 0 from i32_0]
    exact lv_sub hl [3, 2, 1, 0] rfl
  exact law_18 hL C0 hK hZ g1 m1 hcc hP hD hS hl
theorem law_7 {p : Program} {e : Env} {s : State} {m : MethodId} {below : List Frame} {meth : Method} {c : Code} {l : Launch} {b L : Nat} {xs : Nat → Int32} {G : va_G} {ar : ClassId × ClassId × ClassId} {a0 h0 : Nat} {sgC : Nat → Nat} {cc : Int → Int} {B1 : Nat → Prop} {H : Heap} {locs : List Loc} {ls : Array Slot} {k j : Nat} (hL : L ≤ 192) (C0 : lw_At p s m meth c b L xs) (hK : va_K G vwCl (tyA ar) s) (hZ : Sz a0 (fun q : Nat => s.heap.size ≤ q) s) (hN : Nx s) (g0 : sgC 0 = h0) (g1 : sgC 1000 = a0) (hcc : ∀ i, 0 ≤ i → i < 32 → cc i = if 21 ≤ i ∧ i < 27 then -1 else 0) (hP : va_P G vwCl (wd (G, sgC, ar, B1) shC (rp m0C.1 18 cc, m0C.2)) H) (hD : va_D (fun q : Nat => s.heap.size ≤ q) (wd (G, sgC, ar, B1) shC (rp m0C.1 18 cc, m0C.2))) (hS : va_S (fun q : Nat => s.heap.size ≤ q) s.heap H locs) (hl : lv_has ls 4 [(0, .ref b)]) (hk : k ≤ 1000) (hj : j ≤ 100000) : W p l e room_1 s m #[Value.ref b] below meth c H locs k j (lw_Z below #[Value.ref b] s) (F0 m 7 ls [.ref h0]) := by
  obtain ⟨hx, hb, hr, hml, hown, hts, hX, hbl, hlocks, hgv⟩ := id C0
  refine lv_astore_n (lv' := [(1, .ref h0), (0, .ref b)]) hx hb (show decode code 7 = .ok (.astore_n 1, 1) by decide +kernel) rfl hl (by decide) rfl (fun ls hl => ?_)
  refine law_X10 C0 hK hZ hN hP hD hS hl.1 (by omega) (by omega) (fun hM B2 w2 H locs hw hP hD hS => ?_)
  obtain ⟨sgM, m0, m1, hw2⟩ := hw
  rw [hw2, show m0M = (m0M.1, m0M.2) from rfl] at hP hD
  exact law_15 hL C0 hK hZ g0 g1 m0 m1 hcc hP hD hS hl (by omega) (by omega)
theorem whole_start {p : Program} {e : Env} {s : State} {m : MethodId} {below : List Frame} {meth : Method} {c : Code} (l : Launch) {b L : Nat} {xs : Nat → Int32} (hL : L ≤ 192) (C0 : lw_At p s m meth c b L xs) : W p l e room_1 s m #[Value.ref b] below meth c s.heap [] 0 0 (lw_Z below #[Value.ref b] s) (entryFrame m ([Value.ref b] : List Value).toArray 4) := by
  obtain ⟨hx, hb, hr, hml, hown, hts, hX, hbl, hlocks, hgv⟩ := id C0
  obtain ⟨G, hKc⟩ := kn_all hts
  obtain ⟨ar, hAr⟩ := arr_all hts
  obtain ⟨a0, hZ⟩ := law_st C0
  have hK : va_K G vwCl (tyA ar) s := ⟨hKc, hAr⟩
  have hN : Nx s := fun q hq => va_Nw.of rfl (hts _ (nest_in q hq))
  have hS : va_S (fun q : Nat => s.heap.size ≤ q) s.heap s.heap [] := va_S.rf
  have hP : va_P G vwCl [] s.heap := fun k q h => by simp at h
  have hD : va_D (fun q : Nat => s.heap.size ≤ q) [] := ⟨fun i j p q h => by simp at h, fun k q h => by simp at h⟩
  have hl := lv_entry ([.ref b]) (n := 4) (Nat.le_of_ble_eq_true rfl)
  rw [lg_entry_eq]
  generalize (lg_sl ([.ref b]) ++ List.replicate (4 - (lg_sl ([.ref b])).length) Slot.unset).toArray = ls at hl ⊢
  have hl : lv_has ls 4 [(0, .ref b)] := hl
  refine law_X9 (ws := []) C0 hK hZ hN hP hD hS hl.1 (by omega) (by omega) (fun h0 B1 w1 H locs hw hP hD hS => ?_)
  obtain ⟨sgC, cc, g0, g1, hcc, hw1⟩ := hw
  rw [hw1, List.nil_append] at hP hD
  exact law_7 hL C0 hK hZ hN g0 g1 hcc hP hD hS hl (by omega) (by omega)
