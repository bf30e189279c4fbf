set_option maxHeartbeats 4000000 in
set_option maxRecDepth 100000 in
/-- THE LAW, from its entry -/
theorem whole_start {p : Program} {e : Env} {s : State} {m : MethodId} {below : List Frame} {meth : Method} {c : Code} (l : Launch) {b L : Nat} {xs : Nat → Int32} (hL : L ≤ 192) (C0 : lw_At p s m meth c b L xs) : W p l e room_1 s m #[Value.ref b] below meth c s.heap [] 0 0 (lw_Z below #[Value.ref b] s) (entryFrame m ([Value.ref b] : List Value).toArray 4) := by
  obtain ⟨hx, hb, hr, hml, hown, hts, hX, hbl, hlocks, hgv⟩ := id C0
  obtain ⟨G, hKc⟩ := kn_all hts
  obtain ⟨ar, hAr⟩ := arr_all hts
  have hK : va_K G vwCl (tyA ar) s := ⟨hKc, hAr⟩
  have hs := flat_of_before _ hgv
  obtain ⟨a0, hev, hT⟩ := va_Tof (args := #[Value.ref b]) (s := s) (tm := .static "BoxedHeirs" "FIGURE_PLACES" "[I") (ty := .int) (N := 4) (f := figs) (A := fun q : Nat => s.heap.size ≤ q) (by decide) (hs (.arrayOf (.static "BoxedHeirs" "FIGURE_PLACES" "[I") .int) (by decide +kernel)) (va_eqt (hs (.eq (.length (.static "BoxedHeirs" "FIGURE_PLACES" "[I")) (.int 4)) (by decide +kernel))) (fun j hj => by
    rcases (show j = 0 ∨ j = 1 ∨ j = 2 ∨ j = 3 by omega) with rfl | rfl | rfl | rfl
    · exact va_eqt (hs (.eq (.elem (.static "BoxedHeirs" "FIGURE_PLACES" "[I") (.int 0)) (.int 1)) (by decide +kernel))
    · exact va_eqt (hs (.eq (.elem (.static "BoxedHeirs" "FIGURE_PLACES" "[I") (.int 1)) (.int 10)) (by decide +kernel))
    · exact va_eqt (hs (.eq (.elem (.static "BoxedHeirs" "FIGURE_PLACES" "[I") (.int 2)) (.int 100)) (by decide +kernel))
    · exact va_eqt (hs (.eq (.elem (.static "BoxedHeirs" "FIGURE_PLACES" "[I") (.int 3)) (.int 1000)) (by decide +kernel))) (fun a h => Nat.not_le.mpr h)
  have hZ : Sz a0 (fun q : Nat => s.heap.size ≤ q) s := ⟨va_Zref (hts (.laysStatic "BoxedHeirs" "FIGURE_PLACES" "[I") (by decide +kernel)) (hts (.initialized "BoxedHeirs") (by decide +kernel)) hev (fun a h => Nat.not_le.mpr h), hT⟩
  have hN : Nx s := fun q hq => va_Nw.of rfl (hts _ (nest_in q hq))
  have hS : va_S (fun q : Nat => s.heap.size ≤ q) s.heap s.heap [] := va_S.rf
  have hP : va_P G vwCl [] s.heap := fun k q h => by simp at h
  have hD : va_D (fun q : Nat => s.heap.size ≤ q) [] := ⟨fun i j p q h => by simp at h, fun k q h => by simp at h⟩
  have hl := lv_entry ([.ref b]) (n := 4) (Nat.le_of_ble_eq_true rfl)
  rw [lg_entry_eq]
  generalize (lg_sl ([.ref b]) ++ List.replicate (4 - (lg_sl ([.ref b])).length) Slot.unset).toArray = ls at hl ⊢
  have hl : lv_has ls 4 [(0, .ref b)] := hl
  refine law_ctor (ci := 9) (N := 11) (ix0 := 7) (ix1 := 9) (pc := 0) (mc' := 34) (ms' := 1576) (n' := 3) (fs := [.null, .null, .null, .null, .null, .null, .null, .null, .null, .null, .int 0]) (y := yX9_init) (cc := cX9_init) (C := RX9) (T := TX9) (ws := []) C0 hK hZ hN hP hD hS hl.1 rfl jX9 tyX9 tyX9_ok (TB_in (by decide +kernel) rfl) (TB_in (by decide +kernel) rfl) (TB_in (by decide +kernel) rfl) (fun j hj => by rcases (show j = 0 ∨ j = 1 ∨ j = 2 ∨ j = 3 ∨ j = 4 ∨ j = 5 ∨ j = 6 ∨ j = 7 ∨ j = 8 ∨ j = 9 ∨ j = 10 by omega) with rfl | rfl | rfl | rfl | rfl | rfl | rfl | rfl | rfl | rfl | rfl <;> rfl) (by omega) (by omega) (by decide +kernel) (by decide +kernel) (by decide +kernel) (TB_in (by decide +kernel) rfl) (TB_in (by decide +kernel) rfl) (TB_in (by decide +kernel) rfl) (TB_in (by decide +kernel) rfl) rfl (by decide +kernel) (by decide) c_X9_init (fun h0 B1 w1 H locs hw hP hD hS => ?_)
  obtain ⟨sgC, cc, g0, g1, hcc, rfl⟩ := hw
  rw [List.nil_append] at hP hD
  refine lv_astore_n (lv' := [(1, .ref h0), (0, .ref b)]) hx hb (show decode code 7 = .ok (.astore_n 1, 1) by decide +kernel) rfl hl (by decide) rfl (fun ls hl => ?_)
  refine law_ctor (ci := 10) (N := 42) (ix0 := 10) (ix1 := 12) (pc := 8) (mc' := 25) (ms' := 3124) (n' := 1) (fs := [.int 0, .int 0, .null, .null, .null, .null, .null, .int 0, .int 0, .null, .null, .int 0, .null, .int 0, .int 0, .int 0, .int 0, .int 0, .int 0, .int 0, .null, .null, .null, .null, .null, .int 0, .int 0, .null, .int 0, .null, .null, .null, .null, .null, .int 0, .null, .null, .int 0, .null, .null, .null, .null]) (y := yX10_init) (cc := cX10_init) (C := RX10) (T := TX10) C0 hK hZ hN hP hD hS hl.1 rfl jX10 tyX10 tyX10_ok (TB_in (by decide +kernel) rfl) (TB_in (by decide +kernel) rfl) (TB_in (by decide +kernel) rfl) (fun j hj => by rcases (show j = 0 ∨ j = 1 ∨ j = 2 ∨ j = 3 ∨ j = 4 ∨ j = 5 ∨ j = 6 ∨ j = 7 ∨ j = 8 ∨ j = 9 ∨ j = 10 ∨ j = 11 ∨ j = 12 ∨ j = 13 ∨ j = 14 ∨ j = 15 ∨ j = 16 ∨ j = 17 ∨ j = 18 ∨ j = 19 ∨ j = 20 ∨ j = 21 ∨ j = 22 ∨ j = 23 ∨ j = 24 ∨ j = 25 ∨ j = 26 ∨ j = 27 ∨ j = 28 ∨ j = 29 ∨ j = 30 ∨ j = 31 ∨ j = 32 ∨ j = 33 ∨ j = 34 ∨ j = 35 ∨ j = 36 ∨ j = 37 ∨ j = 38 ∨ j = 39 ∨ j = 40 ∨ j = 41 by omega) with rfl | rfl | rfl | rfl | rfl | rfl | rfl | rfl | rfl | rfl | rfl | rfl | rfl | rfl | rfl | rfl | rfl | rfl | rfl | rfl | rfl | rfl | rfl | rfl | rfl | rfl | rfl | rfl | rfl | rfl | rfl | rfl | rfl | rfl | rfl | rfl | rfl | rfl | rfl | rfl | rfl | rfl <;> rfl) (by omega) (by omega) (by decide +kernel) (by decide +kernel) (by decide +kernel) (TB_in (by decide +kernel) rfl) (TB_in (by decide +kernel) rfl) (TB_in (by decide +kernel) rfl) (TB_in (by decide +kernel) rfl) rfl (by decide +kernel) (by decide) c_X10_init (fun hM B2 w2 H locs hw hP hD hS => ?_)
  obtain ⟨sgM, m0, m1, rfl⟩ := hw
  refine lv_astore_n (lv' := [(2, .ref hM), (1, .ref h0), (0, .ref b)]) hx hb (show decode code 15 = .ok (.astore_n 2, 1) by decide +kernel) rfl hl (by decide) rfl (fun ls hl => ?_)
  refine lv_iconst (v := 0) hx hb (show decode code 16 = .ok (.iconst 0, 1) by decide +kernel) (by decide) ?_
  refine lv_istore_n (lv' := [(3, .int 0), (2, .ref hM), (1, .ref h0), (0, .ref b)]) hx hb (show decode code 17 = .ok (.istore_n 3, 1) by decide +kernel) rfl hl (by decide) rfl (fun ls hl => ?_)
  refine W.widen (k := 600000) (n := 7302250) (by omega) (by omega) ?_
  have hl : lv_has ls 4 [(0, .ref b), (1, .ref (sgC 0)), (2, .ref (sgM 0)), (3, .int (i32 ((0 : Nat) : Int)))] := by
    rw [g0, m0, show i32 ((0 : Nat) : Int) = 0 from i32_0]
    exact lv_sub hl [3, 2, 1, 0] rfl
  exact law_18 hL C0 hK hZ g1 m1 hcc hP hD hS hl
