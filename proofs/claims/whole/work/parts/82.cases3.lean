/-! the law, case by case -/
theorem law_tryBar {l : Launch} {X Y : Cx} {b L : Nat} {xs : Nat → Int32} {i : Nat} {C f : Nat → Int → Int} {w u : Int → Int} (hL : L ≤ 192) (hi : i + 2 < L) (hI : Inv C f) (hn : ∀ (C' f' : Nat → Int → Int) (w' u' : Int → Int), Inv C' f' → TL l X Y b L xs i 1068 [] C' f' w' u') : TL l X Y b L xs i 917 [] C f w u := by
  obtain ⟨r, R, S, hr, hc, hm, hRS⟩ := (P_tryBar (l := l) (X := X) (Y := Y) (x := (xs (i + 1)).toInt) (i32_rng _) hI).pq
  refine L_x (pc := 917) (by decide +kernel) ?_
  refine L_arg (pc := 918) (k := 1) (z := 1) hL (by omega) (by decide +kernel) (by decide +kernel) (by decide +kernel) (by decide +kernel) (by decide +kernel) (by decide +kernel) ?_
  refine L_cx (pc := 923) (ix := 125) (av := [vI (xs (i + 1)).toInt]) (rest := []) (by decide +kernel) lv_mX9_tryBar (n' := 4) (by decide) rfl (Nat.le_of_ble_eq_true rfl) (hc w _ (fun M' h => ⟨rfl, h⟩)) (fun C' w' hR => ?_)
  refine L_m (pc := 926) (by decide +kernel) ?_
  refine L_arg (pc := 927) (k := 1) (z := 1) hL (by omega) (by decide +kernel) (by decide +kernel) (by decide +kernel) (by decide +kernel) (by decide +kernel) (by decide +kernel) ?_
  refine L_cm (pc := 932) (ix := 128) (av := [vI (xs (i + 1)).toInt]) (rest := [.int (i32 r)]) (by decide +kernel) lv_mX10_tryBar (n' := 2) (by decide) rfl (Nat.le_of_ble_eq_true rfl) (hm u _ (fun M' h => ⟨rfl, h⟩)) (fun f' u' hS => ?_)
  exact L_eq (pc := 935) (off := 133) (by decide +kernel) (by decide) (hn C' f' w' u' (hRS C' f' hR hS))
theorem law_write {l : Launch} {X Y : Cx} {b L : Nat} {xs : Nat → Int32} {i : Nat} {C f : Nat → Int → Int} {w u : Int → Int} (hL : L ≤ 192) (hi : i + 2 < L) (hI : Inv C f) (hn : ∀ (C' f' : Nat → Int → Int) (w' u' : Int → Int), Inv C' f' → TL l X Y b L xs i 1068 [] C' f' w' u') : TL l X Y b L xs i 940 [] C f w u := by
  obtain ⟨r, R, S, hr, hc, hm, hRS⟩ := (P_write (l := l) (X := X) (Y := Y) (x := (xs (i + 1)).toInt) (y := (xs (i + 2)).toInt) (i32_rng _) (i32_rng _) hI).pq
  refine L_x (pc := 940) (by decide +kernel) ?_
  refine L_arg (pc := 941) (k := 1) (z := 1) hL (by omega) (by decide +kernel) (by decide +kernel) (by decide +kernel) (by decide +kernel) (by decide +kernel) (by decide +kernel) ?_
  refine L_arg (pc := 946) (k := 2) (z := 2) hL (by omega) (by decide +kernel) (by decide +kernel) (by decide +kernel) (by decide +kernel) (by decide +kernel) (by decide +kernel) ?_
  refine L_cx (pc := 951) (ix := 129) (av := [vI (xs (i + 1)).toInt, vI (xs (i + 2)).toInt]) (rest := []) (by decide +kernel) lv_mX9_write (n' := 1) (by decide) rfl (Nat.le_of_ble_eq_true rfl) (hc w _ (fun M' h => ⟨rfl, h⟩)) (fun C' w' hR => ?_)
  refine L_m (pc := 954) (by decide +kernel) ?_
  refine L_arg (pc := 955) (k := 1) (z := 1) hL (by omega) (by decide +kernel) (by decide +kernel) (by decide +kernel) (by decide +kernel) (by decide +kernel) (by decide +kernel) ?_
  refine L_arg (pc := 960) (k := 2) (z := 2) hL (by omega) (by decide +kernel) (by decide +kernel) (by decide +kernel) (by decide +kernel) (by decide +kernel) (by decide +kernel) ?_
  refine L_cm (pc := 965) (ix := 132) (av := [vI (xs (i + 1)).toInt, vI (xs (i + 2)).toInt]) (rest := [.int (i32 r)]) (by decide +kernel) lv_mX10_write (n' := 2) (by decide) rfl (Nat.le_of_ble_eq_true rfl) (hm u _ (fun M' h => ⟨rfl, h⟩)) (fun f' u' hS => ?_)
  exact L_eq (pc := 968) (off := 100) (by decide +kernel) (by decide) (hn C' f' w' u' (hRS C' f' hR hS))
theorem law_tear {l : Launch} {X Y : Cx} {b L : Nat} {xs : Nat → Int32} {i : Nat} {C f : Nat → Int → Int} {w u : Int → Int} (hL : L ≤ 192) (hi : i + 2 < L) (hI : Inv C f) (hn : ∀ (C' f' : Nat → Int → Int) (w' u' : Int → Int), Inv C' f' → TL l X Y b L xs i 1068 [] C' f' w' u') : TL l X Y b L xs i 973 [] C f w u := by
  obtain ⟨r, R, S, hr, hc, hm, hRS⟩ := (P_tear (l := l) (X := X) (Y := Y)   hI).pq
  refine L_x (pc := 973) (by decide +kernel) ?_
  refine L_cx (pc := 974) (ix := 133) (av := []) (rest := []) (by decide +kernel) lv_mX9_tear (n' := 1) (by decide) rfl (Nat.le_of_ble_eq_true rfl) (hc w _ (fun M' h => ⟨rfl, h⟩)) (fun C' w' hR => ?_)
  refine L_m (pc := 977) (by decide +kernel) ?_
  refine L_cm (pc := 978) (ix := 136) (av := []) (rest := [.int (i32 r)]) (by decide +kernel) lv_mX10_tear (n' := 0) (by decide) rfl (Nat.le_of_ble_eq_true rfl) (hm u _ (fun M' h => ⟨rfl, h⟩)) (fun f' u' hS => ?_)
  exact L_eq (pc := 981) (off := 87) (by decide +kernel) (by decide) (hn C' f' w' u' (hRS C' f' hR hS))
theorem law_judge {l : Launch} {X Y : Cx} {b L : Nat} {xs : Nat → Int32} {i : Nat} {C f : Nat → Int → Int} {w u : Int → Int} (hL : L ≤ 192) (hi : i + 2 < L) (hI : Inv C f) (hn : ∀ (C' f' : Nat → Int → Int) (w' u' : Int → Int), Inv C' f' → TL l X Y b L xs i 1068 [] C' f' w' u') : TL l X Y b L xs i 986 [] C f w u := by
  obtain ⟨r, R, S, hr, hc, hm, hRS⟩ := (P_judge (l := l) (X := X) (Y := Y)   hI).pq
  refine L_x (pc := 986) (by decide +kernel) ?_
  refine L_cx (pc := 987) (ix := 137) (av := []) (rest := []) (by decide +kernel) lv_mX9_judge (n' := 2) (by decide) rfl (Nat.le_of_ble_eq_true rfl) (hc w _ (fun M' h => ⟨rfl, h⟩)) (fun C' w' hR => ?_)
  refine L_m (pc := 990) (by decide +kernel) ?_
  refine L_cm (pc := 991) (ix := 140) (av := []) (rest := [.int (i32 r)]) (by decide +kernel) lv_mX10_judge (n' := 0) (by decide) rfl (Nat.le_of_ble_eq_true rfl) (hm u _ (fun M' h => ⟨rfl, h⟩)) (fun f' u' hS => ?_)
  exact L_eq (pc := 994) (off := 74) (by decide +kernel) (by decide) (hn C' f' w' u' (hRS C' f' hR hS))
theorem law_seed {l : Launch} {X Y : Cx} {b L : Nat} {xs : Nat → Int32} {i : Nat} {C f : Nat → Int → Int} {w u : Int → Int} (hL : L ≤ 192) (hi : i + 2 < L) (hI : Inv C f) (hn : ∀ (C' f' : Nat → Int → Int) (w' u' : Int → Int), Inv C' f' → TL l X Y b L xs i 1068 [] C' f' w' u') : TL l X Y b L xs i 999 [] C f w u := by
  obtain ⟨r, R, S, hr, hc, hm, hRS⟩ := (P_seed (l := l) (X := X) (Y := Y) (x := (xs (i + 1)).toInt) (i32_rng _) hI).pq
  refine L_x (pc := 999) (by decide +kernel) ?_
  refine L_arg (pc := 1000) (k := 1) (z := 1) hL (by omega) (by decide +kernel) (by decide +kernel) (by decide +kernel) (by decide +kernel) (by decide +kernel) (by decide +kernel) ?_
  refine L_cx (pc := 1005) (ix := 141) (av := [vI (xs (i + 1)).toInt]) (rest := []) (by decide +kernel) lv_mX9_seed (n' := 0) (by decide) rfl (Nat.le_of_ble_eq_true rfl) (hc w _ (fun M' h => ⟨rfl, h⟩)) (fun C' w' hR => ?_)
  refine L_m (pc := 1008) (by decide +kernel) ?_
  refine L_arg (pc := 1009) (k := 1) (z := 1) hL (by omega) (by decide +kernel) (by decide +kernel) (by decide +kernel) (by decide +kernel) (by decide +kernel) (by decide +kernel) ?_
  refine L_cm (pc := 1014) (ix := 144) (av := [vI (xs (i + 1)).toInt]) (rest := [.int (i32 r)]) (by decide +kernel) lv_mX10_seed (n' := 0) (by decide) rfl (Nat.le_of_ble_eq_true rfl) (hm u _ (fun M' h => ⟨rfl, h⟩)) (fun f' u' hS => ?_)
  exact L_eq (pc := 1017) (off := 51) (by decide +kernel) (by decide) (hn C' f' w' u' (hRS C' f' hR hS))
theorem law_keep {l : Launch} {X Y : Cx} {b L : Nat} {xs : Nat → Int32} {i : Nat} {C f : Nat → Int → Int} {w u : Int → Int} (hL : L ≤ 192) (hi : i + 2 < L) (hI : Inv C f) (hn : ∀ (C' f' : Nat → Int → Int) (w' u' : Int → Int), Inv C' f' → TL l X Y b L xs i 1068 [] C' f' w' u') : TL l X Y b L xs i 1022 [] C f w u := by
  obtain ⟨r, R, S, hr, hc, hm, hRS⟩ := (P_keep (l := l) (X := X) (Y := Y) (x := (xs (i + 1)).toInt) (i32_rng _) hI).pq
  refine L_x (pc := 1022) (by decide +kernel) ?_
  refine L_arg (pc := 1023) (k := 1) (z := 1) hL (by omega) (by decide +kernel) (by decide +kernel) (by decide +kernel) (by decide +kernel) (by decide +kernel) (by decide +kernel) ?_
  refine L_cx (pc := 1028) (ix := 145) (av := [vI (xs (i + 1)).toInt]) (rest := []) (by decide +kernel) lv_mX9_keep (n' := 2) (by decide) rfl (Nat.le_of_ble_eq_true rfl) (hc w _ (fun M' h => ⟨rfl, h⟩)) (fun C' w' hR => ?_)
  refine L_m (pc := 1031) (by decide +kernel) ?_
  refine L_arg (pc := 1032) (k := 1) (z := 1) hL (by omega) (by decide +kernel) (by decide +kernel) (by decide +kernel) (by decide +kernel) (by decide +kernel) (by decide +kernel) ?_
  refine L_cm (pc := 1037) (ix := 148) (av := [vI (xs (i + 1)).toInt]) (rest := [.int (i32 r)]) (by decide +kernel) lv_mX10_keep (n' := 1) (by decide) rfl (Nat.le_of_ble_eq_true rfl) (hm u _ (fun M' h => ⟨rfl, h⟩)) (fun f' u' hS => ?_)
  exact L_eq (pc := 1040) (off := 28) (by decide +kernel) (by decide) (hn C' f' w' u' (hRS C' f' hR hS))
theorem law_goBack {l : Launch} {X Y : Cx} {b L : Nat} {xs : Nat → Int32} {i : Nat} {C f : Nat → Int → Int} {w u : Int → Int} (hL : L ≤ 192) (hi : i + 2 < L) (hI : Inv C f) (hn : ∀ (C' f' : Nat → Int → Int) (w' u' : Int → Int), Inv C' f' → TL l X Y b L xs i 1068 [] C' f' w' u') : TL l X Y b L xs i 1045 [] C f w u := by
  obtain ⟨r, R, S, hr, hc, hm, hRS⟩ := (P_goBack (l := l) (X := X) (Y := Y) (x := (xs (i + 1)).toInt) (i32_rng _) hI).pq
  refine L_x (pc := 1045) (by decide +kernel) ?_
  refine L_arg (pc := 1046) (k := 1) (z := 1) hL (by omega) (by decide +kernel) (by decide +kernel) (by decide +kernel) (by decide +kernel) (by decide +kernel) (by decide +kernel) ?_
  refine L_cx (pc := 1051) (ix := 149) (av := [vI (xs (i + 1)).toInt]) (rest := []) (by decide +kernel) lv_mX9_goBack (n' := 2) (by decide) rfl (Nat.le_of_ble_eq_true rfl) (hc w _ (fun M' h => ⟨rfl, h⟩)) (fun C' w' hR => ?_)
  refine L_m (pc := 1054) (by decide +kernel) ?_
  refine L_arg (pc := 1055) (k := 1) (z := 1) hL (by omega) (by decide +kernel) (by decide +kernel) (by decide +kernel) (by decide +kernel) (by decide +kernel) (by decide +kernel) ?_
  refine L_cm (pc := 1060) (ix := 152) (av := [vI (xs (i + 1)).toInt]) (rest := [.int (i32 r)]) (by decide +kernel) lv_mX10_goBack (n' := 1) (by decide) rfl (Nat.le_of_ble_eq_true rfl) (hm u _ (fun M' h => ⟨rfl, h⟩)) (fun f' u' hS => ?_)
  exact L_eq (pc := 1063) (off := 5) (by decide +kernel) (by decide) (hn C' f' w' u' (hRS C' f' hR hS))
