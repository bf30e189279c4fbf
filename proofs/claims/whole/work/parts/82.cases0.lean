/-! the law, case by case -/
theorem law_feed {l : Launch} {X Y : Cx} {b L : Nat} {xs : Nat → Int32} {i : Nat} {C f : Nat → Int → Int} {w u : Int → Int} (hL : L ≤ 192) (hi : i + 2 < L) (hI : Inv C f) (hn : ∀ (C' f' : Nat → Int → Int) (w' u' : Int → Int), Inv C' f' → TL l X Y b L xs i 1068 [] C' f' w' u') : TL l X Y b L xs i 184 [] C f w u := by
  obtain ⟨r, R, S, hr, hc, hm, hRS⟩ := (P_feed (l := l) (X := X) (Y := Y) (x := (xs (i + 1)).toInt) (i32_rng _) hI).pq
  refine L_x (pc := 184) (by decide +kernel) ?_
  refine L_arg (pc := 185) (k := 1) (z := 1) hL (by omega) (by decide +kernel) (by decide +kernel) (by decide +kernel) (by decide +kernel) (by decide +kernel) (by decide +kernel) ?_
  refine L_cx (pc := 190) (ix := 13) (av := [vI (xs (i + 1)).toInt]) (rest := []) (by decide +kernel) lv_mX9_feed (n' := 1) (by decide) rfl (Nat.le_of_ble_eq_true rfl) (hc w _ (fun M' h => ⟨rfl, h⟩)) (fun C' w' hR => ?_)
  refine L_m (pc := 193) (by decide +kernel) ?_
  refine L_arg (pc := 194) (k := 1) (z := 1) hL (by omega) (by decide +kernel) (by decide +kernel) (by decide +kernel) (by decide +kernel) (by decide +kernel) (by decide +kernel) ?_
  refine L_cm (pc := 199) (ix := 17) (av := [vI (xs (i + 1)).toInt]) (rest := [.int (i32 r)]) (by decide +kernel) lv_mX10_feed (n' := 1) (by decide) rfl (Nat.le_of_ble_eq_true rfl) (hm u _ (fun M' h => ⟨rfl, h⟩)) (fun f' u' hS => ?_)
  exact L_eq (pc := 202) (off := 866) (by decide +kernel) (by decide) (hn C' f' w' u' (hRS C' f' hR hS))
theorem law_duchy {l : Launch} {X Y : Cx} {b L : Nat} {xs : Nat → Int32} {i : Nat} {C f : Nat → Int → Int} {w u : Int → Int} (hL : L ≤ 192) (hi : i + 2 < L) (hI : Inv C f) (hn : ∀ (C' f' : Nat → Int → Int) (w' u' : Int → Int), Inv C' f' → TL l X Y b L xs i 1068 [] C' f' w' u') : TL l X Y b L xs i 207 [] C f w u := by
  obtain ⟨r, R, S, hr, hc, hm, hRS⟩ := (P_duchy (l := l) (X := X) (Y := Y)   hI)
  refine L_x (pc := 207) (by decide +kernel) ?_
  refine L_cx (pc := 208) (ix := 18) (av := []) (rest := []) (by decide +kernel) lv_mX9_duchy (n' := 5) (by decide) rfl (Nat.le_of_ble_eq_true rfl) (hc w _ (fun M' h => ⟨rfl, h⟩)) (fun C' w' hR => ?_)
  refine L_m (pc := 211) (by decide +kernel) ?_
  refine L_cm (pc := 212) (ix := 22) (av := []) (rest := [.int (i32 r)]) (by decide +kernel) lv_mX10_duchy (n' := 5) (by decide) rfl (Nat.le_of_ble_eq_true rfl) (hm u _ (fun M' h => ⟨rfl, h⟩)) (fun f' u' hS => ?_)
  exact L_eq (pc := 215) (off := 853) (by decide +kernel) (by decide) (hn C' f' w' u' (hRS C' f' hR hS))
theorem law_fault {l : Launch} {X Y : Cx} {b L : Nat} {xs : Nat → Int32} {i : Nat} {C f : Nat → Int → Int} {w u : Int → Int} (hL : L ≤ 192) (hi : i + 2 < L) (hI : Inv C f) (hn : ∀ (C' f' : Nat → Int → Int) (w' u' : Int → Int), Inv C' f' → TL l X Y b L xs i 1068 [] C' f' w' u') : TL l X Y b L xs i 220 [] C f w u := by
  obtain ⟨r, R, S, hr, hc, hm, hRS⟩ := (P_fault (l := l) (X := X) (Y := Y)   hI).pq
  refine L_x (pc := 220) (by decide +kernel) ?_
  refine L_cx (pc := 221) (ix := 23) (av := []) (rest := []) (by decide +kernel) lv_mX9_fault (n' := 0) (by decide) rfl (Nat.le_of_ble_eq_true rfl) (hc w _ (fun M' h => ⟨rfl, h⟩)) (fun C' w' hR => ?_)
  refine L_m (pc := 224) (by decide +kernel) ?_
  refine L_cm (pc := 225) (ix := 26) (av := []) (rest := [.int (i32 r)]) (by decide +kernel) lv_mX10_fault (n' := 0) (by decide) rfl (Nat.le_of_ble_eq_true rfl) (hm u _ (fun M' h => ⟨rfl, h⟩)) (fun f' u' hS => ?_)
  exact L_eq (pc := 228) (off := 840) (by decide +kernel) (by decide) (hn C' f' w' u' (hRS C' f' hR hS))
theorem law_told {l : Launch} {X Y : Cx} {b L : Nat} {xs : Nat → Int32} {i : Nat} {C f : Nat → Int → Int} {w u : Int → Int} (hL : L ≤ 192) (hi : i + 2 < L) (hI : Inv C f) (hn : ∀ (C' f' : Nat → Int → Int) (w' u' : Int → Int), Inv C' f' → TL l X Y b L xs i 1068 [] C' f' w' u') : TL l X Y b L xs i 233 [] C f w u := by
  obtain ⟨r, R, S, hr, hc, hm, hRS⟩ := (P_told (l := l) (X := X) (Y := Y) (y := (xs (i + 1)).toInt) (i32_rng _) hI).pq
  refine L_x (pc := 233) (by decide +kernel) ?_
  refine L_arg (pc := 234) (k := 1) (z := 1) hL (by omega) (by decide +kernel) (by decide +kernel) (by decide +kernel) (by decide +kernel) (by decide +kernel) (by decide +kernel) ?_
  refine L_cx (pc := 239) (ix := 27) (av := [vI (xs (i + 1)).toInt]) (rest := []) (by decide +kernel) lv_mX9_told (n' := 4) (by decide) rfl (Nat.le_of_ble_eq_true rfl) (hc w _ (fun M' h => ⟨rfl, h⟩)) (fun C' w' hR => ?_)
  refine L_m (pc := 242) (by decide +kernel) ?_
  refine L_arg (pc := 243) (k := 1) (z := 1) hL (by omega) (by decide +kernel) (by decide +kernel) (by decide +kernel) (by decide +kernel) (by decide +kernel) (by decide +kernel) ?_
  refine L_cm (pc := 248) (ix := 30) (av := [vI (xs (i + 1)).toInt]) (rest := [.int (i32 r)]) (by decide +kernel) lv_mX10_told (n' := 6) (by decide) rfl (Nat.le_of_ble_eq_true rfl) (hm u _ (fun M' h => ⟨rfl, h⟩)) (fun f' u' hS => ?_)
  exact L_eq (pc := 251) (off := 817) (by decide +kernel) (by decide) (hn C' f' w' u' (hRS C' f' hR hS))
theorem law_box {l : Launch} {X Y : Cx} {b L : Nat} {xs : Nat → Int32} {i : Nat} {C f : Nat → Int → Int} {w u : Int → Int} (hL : L ≤ 192) (hi : i + 2 < L) (hI : Inv C f) (hn : ∀ (C' f' : Nat → Int → Int) (w' u' : Int → Int), Inv C' f' → TL l X Y b L xs i 1068 [] C' f' w' u') : TL l X Y b L xs i 256 [] C f w u := by
  obtain ⟨r, R, S, hr, hc, hm, hRS⟩ := (P_box (l := l) (X := X) (Y := Y) (b := (xs (i + 1)).toInt) (y := (xs (i + 2)).toInt) (i32_rng _) (i32_rng _) hI).pq
  refine L_x (pc := 256) (by decide +kernel) ?_
  refine L_arg (pc := 257) (k := 1) (z := 1) hL (by omega) (by decide +kernel) (by decide +kernel) (by decide +kernel) (by decide +kernel) (by decide +kernel) (by decide +kernel) ?_
  refine L_arg (pc := 262) (k := 2) (z := 2) hL (by omega) (by decide +kernel) (by decide +kernel) (by decide +kernel) (by decide +kernel) (by decide +kernel) (by decide +kernel) ?_
  refine L_cx (pc := 267) (ix := 31) (av := [vI (xs (i + 1)).toInt, vI (xs (i + 2)).toInt]) (rest := []) (by decide +kernel) lv_mX9_box (n' := 3) (by decide) rfl (Nat.le_of_ble_eq_true rfl) (hc w _ (fun M' h => ⟨rfl, h⟩)) (fun C' w' hR => ?_)
  refine L_m (pc := 270) (by decide +kernel) ?_
  refine L_arg (pc := 271) (k := 1) (z := 1) hL (by omega) (by decide +kernel) (by decide +kernel) (by decide +kernel) (by decide +kernel) (by decide +kernel) (by decide +kernel) ?_
  refine L_arg (pc := 276) (k := 2) (z := 2) hL (by omega) (by decide +kernel) (by decide +kernel) (by decide +kernel) (by decide +kernel) (by decide +kernel) (by decide +kernel) ?_
  refine L_cm (pc := 281) (ix := 35) (av := [vI (xs (i + 1)).toInt, vI (xs (i + 2)).toInt]) (rest := [.int (i32 r)]) (by decide +kernel) lv_mX10_box (n' := 4) (by decide) rfl (Nat.le_of_ble_eq_true rfl) (hm u _ (fun M' h => ⟨rfl, h⟩)) (fun f' u' hS => ?_)
  exact L_eq (pc := 284) (off := 784) (by decide +kernel) (by decide) (hn C' f' w' u' (hRS C' f' hR hS))
theorem law_regent {l : Launch} {X Y : Cx} {b L : Nat} {xs : Nat → Int32} {i : Nat} {C f : Nat → Int → Int} {w u : Int → Int} (hL : L ≤ 192) (hi : i + 2 < L) (hI : Inv C f) (hn : ∀ (C' f' : Nat → Int → Int) (w' u' : Int → Int), Inv C' f' → TL l X Y b L xs i 1068 [] C' f' w' u') : TL l X Y b L xs i 289 [] C f w u := by
  obtain ⟨r, R, S, hr, hc, hm, hRS⟩ := (P_regent (l := l) (X := X) (Y := Y) (x := (xs (i + 1)).toInt) (y := (xs (i + 2)).toInt) (i32_rng _) (i32_rng _) hI).pq
  refine L_x (pc := 289) (by decide +kernel) ?_
  refine L_arg (pc := 290) (k := 1) (z := 1) hL (by omega) (by decide +kernel) (by decide +kernel) (by decide +kernel) (by decide +kernel) (by decide +kernel) (by decide +kernel) ?_
  refine L_arg (pc := 295) (k := 2) (z := 2) hL (by omega) (by decide +kernel) (by decide +kernel) (by decide +kernel) (by decide +kernel) (by decide +kernel) (by decide +kernel) ?_
  refine L_cx (pc := 300) (ix := 36) (av := [vI (xs (i + 1)).toInt, vI (xs (i + 2)).toInt]) (rest := []) (by decide +kernel) lv_mX9_regent (n' := 1) (by decide) rfl (Nat.le_of_ble_eq_true rfl) (hc w _ (fun M' h => ⟨rfl, h⟩)) (fun C' w' hR => ?_)
  refine L_m (pc := 303) (by decide +kernel) ?_
  refine L_arg (pc := 304) (k := 1) (z := 1) hL (by omega) (by decide +kernel) (by decide +kernel) (by decide +kernel) (by decide +kernel) (by decide +kernel) (by decide +kernel) ?_
  refine L_arg (pc := 309) (k := 2) (z := 2) hL (by omega) (by decide +kernel) (by decide +kernel) (by decide +kernel) (by decide +kernel) (by decide +kernel) (by decide +kernel) ?_
  refine L_cm (pc := 314) (ix := 39) (av := [vI (xs (i + 1)).toInt, vI (xs (i + 2)).toInt]) (rest := [.int (i32 r)]) (by decide +kernel) lv_mX10_regent (n' := 2) (by decide) rfl (Nat.le_of_ble_eq_true rfl) (hm u _ (fun M' h => ⟨rfl, h⟩)) (fun f' u' hS => ?_)
  exact L_eq (pc := 317) (off := 751) (by decide +kernel) (by decide) (hn C' f' w' u' (hRS C' f' hR hS))
theorem law_bar {l : Launch} {X Y : Cx} {b L : Nat} {xs : Nat → Int32} {i : Nat} {C f : Nat → Int → Int} {w u : Int → Int} (hL : L ≤ 192) (hi : i + 2 < L) (hI : Inv C f) (hn : ∀ (C' f' : Nat → Int → Int) (w' u' : Int → Int), Inv C' f' → TL l X Y b L xs i 1068 [] C' f' w' u') : TL l X Y b L xs i 322 [] C f w u := by
  obtain ⟨r, R, S, hr, hc, hm, hRS⟩ := (P_bar (l := l) (X := X) (Y := Y) (x := (xs (i + 1)).toInt) (i32_rng _) hI).pq
  refine L_x (pc := 322) (by decide +kernel) ?_
  refine L_arg (pc := 323) (k := 1) (z := 1) hL (by omega) (by decide +kernel) (by decide +kernel) (by decide +kernel) (by decide +kernel) (by decide +kernel) (by decide +kernel) ?_
  refine L_cx (pc := 328) (ix := 40) (av := [vI (xs (i + 1)).toInt]) (rest := []) (by decide +kernel) lv_mX9_bar (n' := 5) (by decide) rfl (Nat.le_of_ble_eq_true rfl) (hc w _ (fun M' h => ⟨rfl, h⟩)) (fun C' w' hR => ?_)
  refine L_m (pc := 331) (by decide +kernel) ?_
  refine L_arg (pc := 332) (k := 1) (z := 1) hL (by omega) (by decide +kernel) (by decide +kernel) (by decide +kernel) (by decide +kernel) (by decide +kernel) (by decide +kernel) ?_
  refine L_cm (pc := 337) (ix := 43) (av := [vI (xs (i + 1)).toInt]) (rest := [.int (i32 r)]) (by decide +kernel) lv_mX10_bar (n' := 8) (by decide) rfl (Nat.le_of_ble_eq_true rfl) (hm u _ (fun M' h => ⟨rfl, h⟩)) (fun f' u' hS => ?_)
  exact L_eq (pc := 340) (off := 728) (by decide +kernel) (by decide) (hn C' f' w' u' (hRS C' f' hR hS))
theorem law_wind {l : Launch} {X Y : Cx} {b L : Nat} {xs : Nat → Int32} {i : Nat} {C f : Nat → Int → Int} {w u : Int → Int} (hL : L ≤ 192) (hi : i + 2 < L) (hI : Inv C f) (hn : ∀ (C' f' : Nat → Int → Int) (w' u' : Int → Int), Inv C' f' → TL l X Y b L xs i 1068 [] C' f' w' u') : TL l X Y b L xs i 345 [] C f w u := by
  obtain ⟨r, R, S, hr, hc, hm, hRS⟩ := (P_wind (l := l) (X := X) (Y := Y) (x := (xs (i + 1)).toInt) (y := (xs (i + 2)).toInt) (i32_rng _) (i32_rng _) hI).pq
  refine L_x (pc := 345) (by decide +kernel) ?_
  refine L_arg (pc := 346) (k := 1) (z := 1) hL (by omega) (by decide +kernel) (by decide +kernel) (by decide +kernel) (by decide +kernel) (by decide +kernel) (by decide +kernel) ?_
  refine L_arg (pc := 351) (k := 2) (z := 2) hL (by omega) (by decide +kernel) (by decide +kernel) (by decide +kernel) (by decide +kernel) (by decide +kernel) (by decide +kernel) ?_
  refine L_cx (pc := 356) (ix := 44) (av := [vI (xs (i + 1)).toInt, vI (xs (i + 2)).toInt]) (rest := []) (by decide +kernel) lv_mX9_wind (n' := 4) (by decide) rfl (Nat.le_of_ble_eq_true rfl) (hc w _ (fun M' h => ⟨rfl, h⟩)) (fun C' w' hR => ?_)
  refine L_m (pc := 359) (by decide +kernel) ?_
  refine L_arg (pc := 360) (k := 1) (z := 1) hL (by omega) (by decide +kernel) (by decide +kernel) (by decide +kernel) (by decide +kernel) (by decide +kernel) (by decide +kernel) ?_
  refine L_arg (pc := 365) (k := 2) (z := 2) hL (by omega) (by decide +kernel) (by decide +kernel) (by decide +kernel) (by decide +kernel) (by decide +kernel) (by decide +kernel) ?_
  refine L_cm (pc := 370) (ix := 47) (av := [vI (xs (i + 1)).toInt, vI (xs (i + 2)).toInt]) (rest := [.int (i32 r)]) (by decide +kernel) lv_mX10_wind (n' := 7) (by decide) rfl (Nat.le_of_ble_eq_true rfl) (hm u _ (fun M' h => ⟨rfl, h⟩)) (fun f' u' hS => ?_)
  exact L_eq (pc := 373) (off := 695) (by decide +kernel) (by decide) (hn C' f' w' u' (hRS C' f' hR hS))
theorem law_sit {l : Launch} {X Y : Cx} {b L : Nat} {xs : Nat → Int32} {i : Nat} {C f : Nat → Int → Int} {w u : Int → Int} (hL : L ≤ 192) (hi : i + 2 < L) (hI : Inv C f) (hn : ∀ (C' f' : Nat → Int → Int) (w' u' : Int → Int), Inv C' f' → TL l X Y b L xs i 1068 [] C' f' w' u') : TL l X Y b L xs i 378 [] C f w u := by
  obtain ⟨r, R, S, hr, hc, hm, hRS⟩ := (P_sit (l := l) (X := X) (Y := Y) (x := (xs (i + 1)).toInt) (y := (xs (i + 2)).toInt) (i32_rng _) (i32_rng _) hI).pq
  refine L_x (pc := 378) (by decide +kernel) ?_
  refine L_arg (pc := 379) (k := 1) (z := 1) hL (by omega) (by decide +kernel) (by decide +kernel) (by decide +kernel) (by decide +kernel) (by decide +kernel) (by decide +kernel) ?_
  refine L_arg (pc := 384) (k := 2) (z := 2) hL (by omega) (by decide +kernel) (by decide +kernel) (by decide +kernel) (by decide +kernel) (by decide +kernel) (by decide +kernel) ?_
  refine L_cx (pc := 389) (ix := 48) (av := [vI (xs (i + 1)).toInt, vI (xs (i + 2)).toInt]) (rest := []) (by decide +kernel) lv_mX9_sit (n' := 2) (by decide) rfl (Nat.le_of_ble_eq_true rfl) (hc w _ (fun M' h => ⟨rfl, h⟩)) (fun C' w' hR => ?_)
  refine L_m (pc := 392) (by decide +kernel) ?_
  refine L_arg (pc := 393) (k := 1) (z := 1) hL (by omega) (by decide +kernel) (by decide +kernel) (by decide +kernel) (by decide +kernel) (by decide +kernel) (by decide +kernel) ?_
  refine L_arg (pc := 398) (k := 2) (z := 2) hL (by omega) (by decide +kernel) (by decide +kernel) (by decide +kernel) (by decide +kernel) (by decide +kernel) (by decide +kernel) ?_
  refine L_cm (pc := 403) (ix := 51) (av := [vI (xs (i + 1)).toInt, vI (xs (i + 2)).toInt]) (rest := [.int (i32 r)]) (by decide +kernel) lv_mX10_sit (n' := 2) (by decide) rfl (Nat.le_of_ble_eq_true rfl) (hm u _ (fun M' h => ⟨rfl, h⟩)) (fun f' u' hS => ?_)
  exact L_eq (pc := 406) (off := 662) (by decide +kernel) (by decide) (hn C' f' w' u' (hRS C' f' hR hS))
