/-! the law, case by case -/
theorem law_rise {l : Launch} {X Y : Cx} {b L : Nat} {xs : Nat → Int32} {i : Nat} {C f : Nat → Int → Int} {w u : Int → Int} (hL : L ≤ 192) (hi : i + 2 < L) (hI : Inv C f) (hn : ∀ (C' f' : Nat → Int → Int) (w' u' : Int → Int), Inv C' f' → TL l X Y b L xs i 1068 [] C' f' w' u') : TL l X Y b L xs i 411 [] C f w u := by
  obtain ⟨r, R, S, hr, hc, hm, hRS⟩ := (P_rise (l := l) (X := X) (Y := Y) (x := (xs (i + 1)).toInt) (i32_rng _) hI).pq
  refine L_x (pc := 411) (by decide +kernel) ?_
  refine L_arg (pc := 412) (k := 1) (z := 1) hL (by omega) (by decide +kernel) (by decide +kernel) (by decide +kernel) (by decide +kernel) (by decide +kernel) (by decide +kernel) ?_
  refine L_cx (pc := 417) (ix := 52) (av := [vI (xs (i + 1)).toInt]) (rest := []) (by decide +kernel) lv_mX9_rise (n' := 2) (by decide) rfl (Nat.le_of_ble_eq_true rfl) (hc w _ (fun M' h => ⟨rfl, h⟩)) (fun C' w' hR => ?_)
  refine L_m (pc := 420) (by decide +kernel) ?_
  refine L_arg (pc := 421) (k := 1) (z := 1) hL (by omega) (by decide +kernel) (by decide +kernel) (by decide +kernel) (by decide +kernel) (by decide +kernel) (by decide +kernel) ?_
  refine L_cm (pc := 426) (ix := 55) (av := [vI (xs (i + 1)).toInt]) (rest := [.int (i32 r)]) (by decide +kernel) lv_mX10_rise (n' := 2) (by decide) rfl (Nat.le_of_ble_eq_true rfl) (hm u _ (fun M' h => ⟨rfl, h⟩)) (fun f' u' hS => ?_)
  exact L_eq (pc := 429) (off := 639) (by decide +kernel) (by decide) (hn C' f' w' u' (hRS C' f' hR hS))
theorem law_push {l : Launch} {X Y : Cx} {b L : Nat} {xs : Nat → Int32} {i : Nat} {C f : Nat → Int → Int} {w u : Int → Int} (hL : L ≤ 192) (hi : i + 2 < L) (hI : Inv C f) (hn : ∀ (C' f' : Nat → Int → Int) (w' u' : Int → Int), Inv C' f' → TL l X Y b L xs i 1068 [] C' f' w' u') : TL l X Y b L xs i 434 [] C f w u := by
  obtain ⟨r, R, S, hr, hc, hm, hRS⟩ := (P_push (l := l) (X := X) (Y := Y) (x := (xs (i + 1)).toInt) (i32_rng _) hI).pq
  refine L_x (pc := 434) (by decide +kernel) ?_
  refine L_arg (pc := 435) (k := 1) (z := 1) hL (by omega) (by decide +kernel) (by decide +kernel) (by decide +kernel) (by decide +kernel) (by decide +kernel) (by decide +kernel) ?_
  refine L_cx (pc := 440) (ix := 56) (av := [vI (xs (i + 1)).toInt]) (rest := []) (by decide +kernel) lv_mX9_push (n' := 2) (by decide) rfl (Nat.le_of_ble_eq_true rfl) (hc w _ (fun M' h => ⟨rfl, h⟩)) (fun C' w' hR => ?_)
  refine L_m (pc := 443) (by decide +kernel) ?_
  refine L_arg (pc := 444) (k := 1) (z := 1) hL (by omega) (by decide +kernel) (by decide +kernel) (by decide +kernel) (by decide +kernel) (by decide +kernel) (by decide +kernel) ?_
  refine L_cm (pc := 449) (ix := 59) (av := [vI (xs (i + 1)).toInt]) (rest := [.int (i32 r)]) (by decide +kernel) lv_mX10_push (n' := 3) (by decide) rfl (Nat.le_of_ble_eq_true rfl) (hm u _ (fun M' h => ⟨rfl, h⟩)) (fun f' u' hS => ?_)
  exact L_eq (pc := 452) (off := 616) (by decide +kernel) (by decide) (hn C' f' w' u' (hRS C' f' hR hS))
theorem law_oil {l : Launch} {X Y : Cx} {b L : Nat} {xs : Nat → Int32} {i : Nat} {C f : Nat → Int → Int} {w u : Int → Int} (hL : L ≤ 192) (hi : i + 2 < L) (hI : Inv C f) (hn : ∀ (C' f' : Nat → Int → Int) (w' u' : Int → Int), Inv C' f' → TL l X Y b L xs i 1068 [] C' f' w' u') : TL l X Y b L xs i 457 [] C f w u := by
  obtain ⟨r, R, S, hr, hc, hm, hRS⟩ := (P_oil (l := l) (X := X) (Y := Y) (x := (xs (i + 1)).toInt) (i32_rng _) hI).pq
  refine L_x (pc := 457) (by decide +kernel) ?_
  refine L_arg (pc := 458) (k := 1) (z := 1) hL (by omega) (by decide +kernel) (by decide +kernel) (by decide +kernel) (by decide +kernel) (by decide +kernel) (by decide +kernel) ?_
  refine L_cx (pc := 463) (ix := 60) (av := [vI (xs (i + 1)).toInt]) (rest := []) (by decide +kernel) lv_mX9_oil (n' := 2) (by decide) rfl (Nat.le_of_ble_eq_true rfl) (hc w _ (fun M' h => ⟨rfl, h⟩)) (fun C' w' hR => ?_)
  refine L_m (pc := 466) (by decide +kernel) ?_
  refine L_arg (pc := 467) (k := 1) (z := 1) hL (by omega) (by decide +kernel) (by decide +kernel) (by decide +kernel) (by decide +kernel) (by decide +kernel) (by decide +kernel) ?_
  refine L_cm (pc := 472) (ix := 63) (av := [vI (xs (i + 1)).toInt]) (rest := [.int (i32 r)]) (by decide +kernel) lv_mX10_oil (n' := 2) (by decide) rfl (Nat.le_of_ble_eq_true rfl) (hm u _ (fun M' h => ⟨rfl, h⟩)) (fun f' u' hS => ?_)
  exact L_eq (pc := 475) (off := 593) (by decide +kernel) (by decide) (hn C' f' w' u' (hRS C' f' hR hS))
theorem law_damp {l : Launch} {X Y : Cx} {b L : Nat} {xs : Nat → Int32} {i : Nat} {C f : Nat → Int → Int} {w u : Int → Int} (hL : L ≤ 192) (hi : i + 2 < L) (hI : Inv C f) (hn : ∀ (C' f' : Nat → Int → Int) (w' u' : Int → Int), Inv C' f' → TL l X Y b L xs i 1068 [] C' f' w' u') : TL l X Y b L xs i 480 [] C f w u := by
  obtain ⟨r, R, S, hr, hc, hm, hRS⟩ := (P_damp (l := l) (X := X) (Y := Y) (x := (xs (i + 1)).toInt) (y := (if (xs (i + 2)).toInt = 0 then 0 else 1)) (i32_rng _) (by split <;> simp) hI).pq
  refine L_x (pc := 480) (by decide +kernel) ?_
  refine L_arg (pc := 481) (k := 1) (z := 1) hL (by omega) (by decide +kernel) (by decide +kernel) (by decide +kernel) (by decide +kernel) (by decide +kernel) (by decide +kernel) ?_
  refine L_arg (pc := 486) (k := 2) (z := 2) hL (by omega) (by decide +kernel) (by decide +kernel) (by decide +kernel) (by decide +kernel) (by decide +kernel) (by decide +kernel) ?_
  refine L_bool (pc := 491) (by decide +kernel) (by decide +kernel) (by decide +kernel) (by decide +kernel) ?_
  refine L_cx (pc := 499) (ix := 64) (av := [vI (xs (i + 1)).toInt, vI (if (xs (i + 2)).toInt = 0 then 0 else 1)]) (rest := []) (by decide +kernel) lv_mX9_damp (n' := 2) (by decide) rfl (Nat.le_of_ble_eq_true rfl) (hc w _ (fun M' h => ⟨rfl, h⟩)) (fun C' w' hR => ?_)
  refine L_m (pc := 502) (by decide +kernel) ?_
  refine L_arg (pc := 503) (k := 1) (z := 1) hL (by omega) (by decide +kernel) (by decide +kernel) (by decide +kernel) (by decide +kernel) (by decide +kernel) (by decide +kernel) ?_
  refine L_arg (pc := 508) (k := 2) (z := 2) hL (by omega) (by decide +kernel) (by decide +kernel) (by decide +kernel) (by decide +kernel) (by decide +kernel) (by decide +kernel) ?_
  refine L_bool (pc := 513) (by decide +kernel) (by decide +kernel) (by decide +kernel) (by decide +kernel) ?_
  refine L_cm (pc := 521) (ix := 68) (av := [vI (xs (i + 1)).toInt, vI (if (xs (i + 2)).toInt = 0 then 0 else 1)]) (rest := [.int (i32 r)]) (by decide +kernel) lv_mX10_damp (n' := 2) (by decide) rfl (Nat.le_of_ble_eq_true rfl) (hm u _ (fun M' h => ⟨rfl, h⟩)) (fun f' u' hS => ?_)
  exact L_eq (pc := 524) (off := 544) (by decide +kernel) (by decide) (hn C' f' w' u' (hRS C' f' hR hS))
theorem law_drift {l : Launch} {X Y : Cx} {b L : Nat} {xs : Nat → Int32} {i : Nat} {C f : Nat → Int → Int} {w u : Int → Int} (hL : L ≤ 192) (hi : i + 2 < L) (hI : Inv C f) (hn : ∀ (C' f' : Nat → Int → Int) (w' u' : Int → Int), Inv C' f' → TL l X Y b L xs i 1068 [] C' f' w' u') : TL l X Y b L xs i 529 [] C f w u := by
  obtain ⟨r, R, S, hr, hc, hm, hRS⟩ := (P_drift (l := l) (X := X) (Y := Y) (x := (xs (i + 1)).toInt) (i32_rng _) hI).pq
  refine L_x (pc := 529) (by decide +kernel) ?_
  refine L_arg (pc := 530) (k := 1) (z := 1) hL (by omega) (by decide +kernel) (by decide +kernel) (by decide +kernel) (by decide +kernel) (by decide +kernel) (by decide +kernel) ?_
  refine L_cx (pc := 535) (ix := 69) (av := [vI (xs (i + 1)).toInt]) (rest := []) (by decide +kernel) lv_mX9_drift (n' := 5) (by decide) rfl (Nat.le_of_ble_eq_true rfl) (hc w _ (fun M' h => ⟨rfl, h⟩)) (fun C' w' hR => ?_)
  refine L_m (pc := 538) (by decide +kernel) ?_
  refine L_arg (pc := 539) (k := 1) (z := 1) hL (by omega) (by decide +kernel) (by decide +kernel) (by decide +kernel) (by decide +kernel) (by decide +kernel) (by decide +kernel) ?_
  refine L_cm (pc := 544) (ix := 72) (av := [vI (xs (i + 1)).toInt]) (rest := [.int (i32 r)]) (by decide +kernel) lv_mX10_drift (n' := 8) (by decide) rfl (Nat.le_of_ble_eq_true rfl) (hm u _ (fun M' h => ⟨rfl, h⟩)) (fun f' u' hS => ?_)
  exact L_eq (pc := 547) (off := 521) (by decide +kernel) (by decide) (hn C' f' w' u' (hRS C' f' hR hS))
theorem law_undo {l : Launch} {X Y : Cx} {b L : Nat} {xs : Nat → Int32} {i : Nat} {C f : Nat → Int → Int} {w u : Int → Int} (hL : L ≤ 192) (hi : i + 2 < L) (hI : Inv C f) (hn : ∀ (C' f' : Nat → Int → Int) (w' u' : Int → Int), Inv C' f' → TL l X Y b L xs i 1068 [] C' f' w' u') : TL l X Y b L xs i 552 [] C f w u := by
  obtain ⟨r, R, S, hr, hc, hm, hRS⟩ := (P_undo (l := l) (X := X) (Y := Y)   hI).pq
  refine L_x (pc := 552) (by decide +kernel) ?_
  refine L_cx (pc := 553) (ix := 73) (av := []) (rest := []) (by decide +kernel) lv_mX9_undo (n' := 2) (by decide) rfl (Nat.le_of_ble_eq_true rfl) (hc w _ (fun M' h => ⟨rfl, h⟩)) (fun C' w' hR => ?_)
  refine L_m (pc := 556) (by decide +kernel) ?_
  refine L_cm (pc := 557) (ix := 76) (av := []) (rest := [.int (i32 r)]) (by decide +kernel) lv_mX10_undo (n' := 0) (by decide) rfl (Nat.le_of_ble_eq_true rfl) (hm u _ (fun M' h => ⟨rfl, h⟩)) (fun f' u' hS => ?_)
  exact L_eq (pc := 560) (off := 508) (by decide +kernel) (by decide) (hn C' f' w' u' (hRS C' f' hR hS))
theorem law_comes {l : Launch} {X Y : Cx} {b L : Nat} {xs : Nat → Int32} {i : Nat} {C f : Nat → Int → Int} {w u : Int → Int} (hL : L ≤ 192) (hi : i + 2 < L) (hI : Inv C f) (hn : ∀ (C' f' : Nat → Int → Int) (w' u' : Int → Int), Inv C' f' → TL l X Y b L xs i 1068 [] C' f' w' u') : TL l X Y b L xs i 565 [] C f w u := by
  obtain ⟨r, R, S, hr, hc, hm, hRS⟩ := (P_comes (l := l) (X := X) (Y := Y) (x := (xs (i + 1)).toInt) (i32_rng _) hI).pq
  refine L_x (pc := 565) (by decide +kernel) ?_
  refine L_arg (pc := 566) (k := 1) (z := 1) hL (by omega) (by decide +kernel) (by decide +kernel) (by decide +kernel) (by decide +kernel) (by decide +kernel) (by decide +kernel) ?_
  refine L_cx (pc := 571) (ix := 77) (av := [vI (xs (i + 1)).toInt]) (rest := []) (by decide +kernel) lv_mX9_comes (n' := 4) (by decide) rfl (Nat.le_of_ble_eq_true rfl) (hc w _ (fun M' h => ⟨rfl, h⟩)) (fun C' w' hR => ?_)
  refine L_m (pc := 574) (by decide +kernel) ?_
  refine L_arg (pc := 575) (k := 1) (z := 1) hL (by omega) (by decide +kernel) (by decide +kernel) (by decide +kernel) (by decide +kernel) (by decide +kernel) (by decide +kernel) ?_
  refine L_cm (pc := 580) (ix := 80) (av := [vI (xs (i + 1)).toInt]) (rest := [.int (i32 r)]) (by decide +kernel) lv_mX10_comes (n' := 8) (by decide) rfl (Nat.le_of_ble_eq_true rfl) (hm u _ (fun M' h => ⟨rfl, h⟩)) (fun f' u' hS => ?_)
  exact L_eq (pc := 583) (off := 485) (by decide +kernel) (by decide) (hn C' f' w' u' (hRS C' f' hR hS))
theorem law_order {l : Launch} {X Y : Cx} {b L : Nat} {xs : Nat → Int32} {i : Nat} {C f : Nat → Int → Int} {w u : Int → Int} (hL : L ≤ 192) (hi : i + 2 < L) (hI : Inv C f) (hn : ∀ (C' f' : Nat → Int → Int) (w' u' : Int → Int), Inv C' f' → TL l X Y b L xs i 1068 [] C' f' w' u') : TL l X Y b L xs i 588 [] C f w u := by
  obtain ⟨r, R, S, hr, hc, hm, hRS⟩ := (P_order (l := l) (X := X) (Y := Y) (x := (xs (i + 1)).toInt) (i32_rng _) hI).pq
  refine L_x (pc := 588) (by decide +kernel) ?_
  refine L_arg (pc := 589) (k := 1) (z := 1) hL (by omega) (by decide +kernel) (by decide +kernel) (by decide +kernel) (by decide +kernel) (by decide +kernel) (by decide +kernel) ?_
  refine L_cx (pc := 594) (ix := 81) (av := [vI (xs (i + 1)).toInt]) (rest := []) (by decide +kernel) lv_mX9_order (n' := 4) (by decide) rfl (Nat.le_of_ble_eq_true rfl) (hc w _ (fun M' h => ⟨rfl, h⟩)) (fun C' w' hR => ?_)
  refine L_m (pc := 597) (by decide +kernel) ?_
  refine L_arg (pc := 598) (k := 1) (z := 1) hL (by omega) (by decide +kernel) (by decide +kernel) (by decide +kernel) (by decide +kernel) (by decide +kernel) (by decide +kernel) ?_
  refine L_cm (pc := 603) (ix := 84) (av := [vI (xs (i + 1)).toInt]) (rest := [.int (i32 r)]) (by decide +kernel) lv_mX10_order (n' := 8) (by decide) rfl (Nat.le_of_ble_eq_true rfl) (hm u _ (fun M' h => ⟨rfl, h⟩)) (fun f' u' hS => ?_)
  exact L_eq (pc := 606) (off := 462) (by decide +kernel) (by decide) (hn C' f' w' u' (hRS C' f' hR hS))
theorem law_both {l : Launch} {X Y : Cx} {b L : Nat} {xs : Nat → Int32} {i : Nat} {C f : Nat → Int → Int} {w u : Int → Int} (hL : L ≤ 192) (hi : i + 2 < L) (hI : Inv C f) (hn : ∀ (C' f' : Nat → Int → Int) (w' u' : Int → Int), Inv C' f' → TL l X Y b L xs i 1068 [] C' f' w' u') : TL l X Y b L xs i 611 [] C f w u := by
  obtain ⟨r, R, S, hr, hc, hm, hRS⟩ := (P_both (l := l) (X := X) (Y := Y) (x := (xs (i + 1)).toInt) (y := (xs (i + 2)).toInt) (i32_rng _) (i32_rng _) hI).pq
  refine L_x (pc := 611) (by decide +kernel) ?_
  refine L_arg (pc := 612) (k := 1) (z := 1) hL (by omega) (by decide +kernel) (by decide +kernel) (by decide +kernel) (by decide +kernel) (by decide +kernel) (by decide +kernel) ?_
  refine L_arg (pc := 617) (k := 2) (z := 2) hL (by omega) (by decide +kernel) (by decide +kernel) (by decide +kernel) (by decide +kernel) (by decide +kernel) (by decide +kernel) ?_
  refine L_cx (pc := 622) (ix := 85) (av := [vI (xs (i + 1)).toInt, vI (xs (i + 2)).toInt]) (rest := []) (by decide +kernel) lv_mX9_both (n' := 2) (by decide) rfl (Nat.le_of_ble_eq_true rfl) (hc w _ (fun M' h => ⟨rfl, h⟩)) (fun C' w' hR => ?_)
  refine L_m (pc := 625) (by decide +kernel) ?_
  refine L_arg (pc := 626) (k := 1) (z := 1) hL (by omega) (by decide +kernel) (by decide +kernel) (by decide +kernel) (by decide +kernel) (by decide +kernel) (by decide +kernel) ?_
  refine L_arg (pc := 631) (k := 2) (z := 2) hL (by omega) (by decide +kernel) (by decide +kernel) (by decide +kernel) (by decide +kernel) (by decide +kernel) (by decide +kernel) ?_
  refine L_cm (pc := 636) (ix := 88) (av := [vI (xs (i + 1)).toInt, vI (xs (i + 2)).toInt]) (rest := [.int (i32 r)]) (by decide +kernel) lv_mX10_both (n' := 3) (by decide) rfl (Nat.le_of_ble_eq_true rfl) (hm u _ (fun M' h => ⟨rfl, h⟩)) (fun f' u' hS => ?_)
  exact L_eq (pc := 639) (off := 429) (by decide +kernel) (by decide) (hn C' f' w' u' (hRS C' f' hR hS))
