/-! the law, case by case -/
theorem law_ahead {l : Launch} {X Y : Cx} {b L : Nat} {xs : Nat → Int32} {i : Nat} {C f : Nat → Int → Int} {w u : Int → Int} (hL : L ≤ 192) (hi : i + 2 < L) (hI : Inv C f) (hn : ∀ (C' f' : Nat → Int → Int) (w' u' : Int → Int), Inv C' f' → TL l X Y b L xs i 1068 [] C' f' w' u') : TL l X Y b L xs i 644 [] C f w u := by
  obtain ⟨r, R, S, hr, hc, hm, hRS⟩ := (P_ahead (l := l) (X := X) (Y := Y) (x := (xs (i + 1)).toInt) (y := (xs (i + 2)).toInt) (i32_rng _) (i32_rng _) hI).pq
  refine L_x (pc := 644) (by decide +kernel) ?_
  refine L_arg (pc := 645) (k := 1) (z := 1) hL (by omega) (by decide +kernel) (by decide +kernel) (by decide +kernel) (by decide +kernel) (by decide +kernel) (by decide +kernel) ?_
  refine L_arg (pc := 650) (k := 2) (z := 2) hL (by omega) (by decide +kernel) (by decide +kernel) (by decide +kernel) (by decide +kernel) (by decide +kernel) (by decide +kernel) ?_
  refine L_cx (pc := 655) (ix := 89) (av := [vI (xs (i + 1)).toInt, vI (xs (i + 2)).toInt]) (rest := []) (by decide +kernel) lv_mX9_ahead (n' := 2) (by decide) rfl (Nat.le_of_ble_eq_true rfl) (hc w _ (fun M' h => ⟨rfl, h⟩)) (fun C' w' hR => ?_)
  refine L_m (pc := 658) (by decide +kernel) ?_
  refine L_arg (pc := 659) (k := 1) (z := 1) hL (by omega) (by decide +kernel) (by decide +kernel) (by decide +kernel) (by decide +kernel) (by decide +kernel) (by decide +kernel) ?_
  refine L_arg (pc := 664) (k := 2) (z := 2) hL (by omega) (by decide +kernel) (by decide +kernel) (by decide +kernel) (by decide +kernel) (by decide +kernel) (by decide +kernel) ?_
  refine L_cm (pc := 669) (ix := 92) (av := [vI (xs (i + 1)).toInt, vI (xs (i + 2)).toInt]) (rest := [.int (i32 r)]) (by decide +kernel) lv_mX10_ahead (n' := 3) (by decide) rfl (Nat.le_of_ble_eq_true rfl) (hm u _ (fun M' h => ⟨rfl, h⟩)) (fun f' u' hS => ?_)
  exact L_eq (pc := 672) (off := 396) (by decide +kernel) (by decide) (hn C' f' w' u' (hRS C' f' hR hS))
theorem law_parted {l : Launch} {X Y : Cx} {b L : Nat} {xs : Nat → Int32} {i : Nat} {C f : Nat → Int → Int} {w u : Int → Int} (hL : L ≤ 192) (hi : i + 2 < L) (hI : Inv C f) (hn : ∀ (C' f' : Nat → Int → Int) (w' u' : Int → Int), Inv C' f' → TL l X Y b L xs i 1068 [] C' f' w' u') : TL l X Y b L xs i 677 [] C f w u := by
  obtain ⟨r, R, S, hr, hc, hm, hRS⟩ := (P_parted (l := l) (X := X) (Y := Y) (x := (xs (i + 1)).toInt) (y := (xs (i + 2)).toInt) (i32_rng _) (i32_rng _) hI).pq
  refine L_x (pc := 677) (by decide +kernel) ?_
  refine L_arg (pc := 678) (k := 1) (z := 1) hL (by omega) (by decide +kernel) (by decide +kernel) (by decide +kernel) (by decide +kernel) (by decide +kernel) (by decide +kernel) ?_
  refine L_arg (pc := 683) (k := 2) (z := 2) hL (by omega) (by decide +kernel) (by decide +kernel) (by decide +kernel) (by decide +kernel) (by decide +kernel) (by decide +kernel) ?_
  refine L_cx (pc := 688) (ix := 93) (av := [vI (xs (i + 1)).toInt, vI (xs (i + 2)).toInt]) (rest := []) (by decide +kernel) lv_mX9_parted (n' := 7) (by decide) rfl (Nat.le_of_ble_eq_true rfl) (hc w _ (fun M' h => ⟨rfl, h⟩)) (fun C' w' hR => ?_)
  refine L_m (pc := 691) (by decide +kernel) ?_
  refine L_arg (pc := 692) (k := 1) (z := 1) hL (by omega) (by decide +kernel) (by decide +kernel) (by decide +kernel) (by decide +kernel) (by decide +kernel) (by decide +kernel) ?_
  refine L_arg (pc := 697) (k := 2) (z := 2) hL (by omega) (by decide +kernel) (by decide +kernel) (by decide +kernel) (by decide +kernel) (by decide +kernel) (by decide +kernel) ?_
  refine L_cm (pc := 702) (ix := 96) (av := [vI (xs (i + 1)).toInt, vI (xs (i + 2)).toInt]) (rest := [.int (i32 r)]) (by decide +kernel) lv_mX10_parted (n' := 2) (by decide) rfl (Nat.le_of_ble_eq_true rfl) (hm u _ (fun M' h => ⟨rfl, h⟩)) (fun f' u' hS => ?_)
  exact L_eq (pc := 705) (off := 363) (by decide +kernel) (by decide) (hn C' f' w' u' (hRS C' f' hR hS))
theorem law_quiet {l : Launch} {X Y : Cx} {b L : Nat} {xs : Nat → Int32} {i : Nat} {C f : Nat → Int → Int} {w u : Int → Int} (hL : L ≤ 192) (hi : i + 2 < L) (hI : Inv C f) (hn : ∀ (C' f' : Nat → Int → Int) (w' u' : Int → Int), Inv C' f' → TL l X Y b L xs i 1068 [] C' f' w' u') : TL l X Y b L xs i 710 [] C f w u := by
  obtain ⟨r, R, S, hr, hc, hm, hRS⟩ := (P_quiet (l := l) (X := X) (Y := Y) (x := (xs (i + 1)).toInt) (y := (xs (i + 2)).toInt) (i32_rng _) (i32_rng _) hI).pq
  refine L_x (pc := 710) (by decide +kernel) ?_
  refine L_arg (pc := 711) (k := 1) (z := 1) hL (by omega) (by decide +kernel) (by decide +kernel) (by decide +kernel) (by decide +kernel) (by decide +kernel) (by decide +kernel) ?_
  refine L_arg (pc := 716) (k := 2) (z := 2) hL (by omega) (by decide +kernel) (by decide +kernel) (by decide +kernel) (by decide +kernel) (by decide +kernel) (by decide +kernel) ?_
  refine L_cx (pc := 721) (ix := 97) (av := [vI (xs (i + 1)).toInt, vI (xs (i + 2)).toInt]) (rest := []) (by decide +kernel) lv_mX9_quiet (n' := 3) (by decide) rfl (Nat.le_of_ble_eq_true rfl) (hc w _ (fun M' h => ⟨rfl, h⟩)) (fun C' w' hR => ?_)
  refine L_m (pc := 724) (by decide +kernel) ?_
  refine L_arg (pc := 725) (k := 1) (z := 1) hL (by omega) (by decide +kernel) (by decide +kernel) (by decide +kernel) (by decide +kernel) (by decide +kernel) (by decide +kernel) ?_
  refine L_arg (pc := 730) (k := 2) (z := 2) hL (by omega) (by decide +kernel) (by decide +kernel) (by decide +kernel) (by decide +kernel) (by decide +kernel) (by decide +kernel) ?_
  refine L_cm (pc := 735) (ix := 100) (av := [vI (xs (i + 1)).toInt, vI (xs (i + 2)).toInt]) (rest := [.int (i32 r)]) (by decide +kernel) lv_mX10_quiet (n' := 1) (by decide) rfl (Nat.le_of_ble_eq_true rfl) (hm u _ (fun M' h => ⟨rfl, h⟩)) (fun f' u' hS => ?_)
  exact L_eq (pc := 738) (off := 330) (by decide +kernel) (by decide) (hn C' f' w' u' (hRS C' f' hR hS))
theorem law_hold {l : Launch} {X Y : Cx} {b L : Nat} {xs : Nat → Int32} {i : Nat} {C f : Nat → Int → Int} {w u : Int → Int} (hL : L ≤ 192) (hi : i + 2 < L) (hI : Inv C f) (hn : ∀ (C' f' : Nat → Int → Int) (w' u' : Int → Int), Inv C' f' → TL l X Y b L xs i 1068 [] C' f' w' u') : TL l X Y b L xs i 743 [] C f w u := by
  obtain ⟨r, R, S, hr, hc, hm, hRS⟩ := (P_hold (l := l) (X := X) (Y := Y) (x := (xs (i + 1)).toInt) (i32_rng _) hI).pq
  refine L_x (pc := 743) (by decide +kernel) ?_
  refine L_arg (pc := 744) (k := 1) (z := 1) hL (by omega) (by decide +kernel) (by decide +kernel) (by decide +kernel) (by decide +kernel) (by decide +kernel) (by decide +kernel) ?_
  refine L_cx (pc := 749) (ix := 101) (av := [vI (xs (i + 1)).toInt]) (rest := []) (by decide +kernel) lv_mX9_hold (n' := 4) (by decide) rfl (Nat.le_of_ble_eq_true rfl) (hc w _ (fun M' h => ⟨rfl, h⟩)) (fun C' w' hR => ?_)
  refine L_m (pc := 752) (by decide +kernel) ?_
  refine L_arg (pc := 753) (k := 1) (z := 1) hL (by omega) (by decide +kernel) (by decide +kernel) (by decide +kernel) (by decide +kernel) (by decide +kernel) (by decide +kernel) ?_
  refine L_cm (pc := 758) (ix := 104) (av := [vI (xs (i + 1)).toInt]) (rest := [.int (i32 r)]) (by decide +kernel) lv_mX10_hold (n' := 6) (by decide) rfl (Nat.le_of_ble_eq_true rfl) (hm u _ (fun M' h => ⟨rfl, h⟩)) (fun f' u' hS => ?_)
  exact L_eq (pc := 761) (off := 307) (by decide +kernel) (by decide) (hn C' f' w' u' (hRS C' f' hR hS))
theorem law_lasts {l : Launch} {X Y : Cx} {b L : Nat} {xs : Nat → Int32} {i : Nat} {C f : Nat → Int → Int} {w u : Int → Int} (hL : L ≤ 192) (hi : i + 2 < L) (hI : Inv C f) (hn : ∀ (C' f' : Nat → Int → Int) (w' u' : Int → Int), Inv C' f' → TL l X Y b L xs i 1068 [] C' f' w' u') : TL l X Y b L xs i 766 [] C f w u := by
  obtain ⟨r, R, S, hr, hc, hm, hRS⟩ := (P_lasts (l := l) (X := X) (Y := Y) (x := (xs (i + 1)).toInt) (i32_rng _) hI).pq
  refine L_x (pc := 766) (by decide +kernel) ?_
  refine L_arg (pc := 767) (k := 1) (z := 1) hL (by omega) (by decide +kernel) (by decide +kernel) (by decide +kernel) (by decide +kernel) (by decide +kernel) (by decide +kernel) ?_
  refine L_cx (pc := 772) (ix := 105) (av := [vI (xs (i + 1)).toInt]) (rest := []) (by decide +kernel) lv_mX9_lasts (n' := 2) (by decide) rfl (Nat.le_of_ble_eq_true rfl) (hc w _ (fun M' h => ⟨rfl, h⟩)) (fun C' w' hR => ?_)
  refine L_m (pc := 775) (by decide +kernel) ?_
  refine L_arg (pc := 776) (k := 1) (z := 1) hL (by omega) (by decide +kernel) (by decide +kernel) (by decide +kernel) (by decide +kernel) (by decide +kernel) (by decide +kernel) ?_
  refine L_cm (pc := 781) (ix := 108) (av := [vI (xs (i + 1)).toInt]) (rest := [.int (i32 r)]) (by decide +kernel) lv_mX10_lasts (n' := 3) (by decide) rfl (Nat.le_of_ble_eq_true rfl) (hm u _ (fun M' h => ⟨rfl, h⟩)) (fun f' u' hS => ?_)
  exact L_eq (pc := 784) (off := 284) (by decide +kernel) (by decide) (hn C' f' w' u' (hRS C' f' hR hS))
theorem law_says {l : Launch} {X Y : Cx} {b L : Nat} {xs : Nat → Int32} {i : Nat} {C f : Nat → Int → Int} {w u : Int → Int} (hL : L ≤ 192) (hi : i + 2 < L) (hI : Inv C f) (hn : ∀ (C' f' : Nat → Int → Int) (w' u' : Int → Int), Inv C' f' → TL l X Y b L xs i 1068 [] C' f' w' u') : TL l X Y b L xs i 789 [] C f w u := by
  obtain ⟨r, R, S, hr, hc, hm, hRS⟩ := (P_says (l := l) (X := X) (Y := Y) (x := (xs (i + 1)).toInt) (i32_rng _) hI).pq
  refine L_x (pc := 789) (by decide +kernel) ?_
  refine L_arg (pc := 790) (k := 1) (z := 1) hL (by omega) (by decide +kernel) (by decide +kernel) (by decide +kernel) (by decide +kernel) (by decide +kernel) (by decide +kernel) ?_
  refine L_cx (pc := 795) (ix := 109) (av := [vI (xs (i + 1)).toInt]) (rest := []) (by decide +kernel) lv_mX9_says (n' := 1) (by decide) rfl (Nat.le_of_ble_eq_true rfl) (hc w _ (fun M' h => ⟨rfl, h⟩)) (fun C' w' hR => ?_)
  refine L_m (pc := 798) (by decide +kernel) ?_
  refine L_arg (pc := 799) (k := 1) (z := 1) hL (by omega) (by decide +kernel) (by decide +kernel) (by decide +kernel) (by decide +kernel) (by decide +kernel) (by decide +kernel) ?_
  refine L_cm (pc := 804) (ix := 112) (av := [vI (xs (i + 1)).toInt]) (rest := [.int (i32 r)]) (by decide +kernel) lv_mX10_says (n' := 2) (by decide) rfl (Nat.le_of_ble_eq_true rfl) (hm u _ (fun M' h => ⟨rfl, h⟩)) (fun f' u' hS => ?_)
  exact L_eq (pc := 807) (off := 261) (by decide +kernel) (by decide) (hn C' f' w' u' (hRS C' f' hR hS))
theorem law_dry {l : Launch} {X Y : Cx} {b L : Nat} {xs : Nat → Int32} {i : Nat} {C f : Nat → Int → Int} {w u : Int → Int} (hL : L ≤ 192) (hi : i + 2 < L) (hI : Inv C f) (hn : ∀ (C' f' : Nat → Int → Int) (w' u' : Int → Int), Inv C' f' → TL l X Y b L xs i 1068 [] C' f' w' u') : TL l X Y b L xs i 812 [] C f w u := by
  obtain ⟨r, R, S, hr, hc, hm, hRS⟩ := (P_dry (l := l) (X := X) (Y := Y) (x := (xs (i + 1)).toInt) (y := (xs (i + 2)).toInt) (i32_rng _) (i32_rng _) hI).pq
  refine L_x (pc := 812) (by decide +kernel) ?_
  refine L_arg (pc := 813) (k := 1) (z := 1) hL (by omega) (by decide +kernel) (by decide +kernel) (by decide +kernel) (by decide +kernel) (by decide +kernel) (by decide +kernel) ?_
  refine L_arg (pc := 818) (k := 2) (z := 2) hL (by omega) (by decide +kernel) (by decide +kernel) (by decide +kernel) (by decide +kernel) (by decide +kernel) (by decide +kernel) ?_
  refine L_cx (pc := 823) (ix := 113) (av := [vI (xs (i + 1)).toInt, vI (xs (i + 2)).toInt]) (rest := []) (by decide +kernel) lv_mX9_dry (n' := 0) (by decide) rfl (Nat.le_of_ble_eq_true rfl) (hc w _ (fun M' h => ⟨rfl, h⟩)) (fun C' w' hR => ?_)
  refine L_m (pc := 826) (by decide +kernel) ?_
  refine L_arg (pc := 827) (k := 1) (z := 1) hL (by omega) (by decide +kernel) (by decide +kernel) (by decide +kernel) (by decide +kernel) (by decide +kernel) (by decide +kernel) ?_
  refine L_arg (pc := 832) (k := 2) (z := 2) hL (by omega) (by decide +kernel) (by decide +kernel) (by decide +kernel) (by decide +kernel) (by decide +kernel) (by decide +kernel) ?_
  refine L_cm (pc := 837) (ix := 116) (av := [vI (xs (i + 1)).toInt, vI (xs (i + 2)).toInt]) (rest := [.int (i32 r)]) (by decide +kernel) lv_mX10_dry (n' := 1) (by decide) rfl (Nat.le_of_ble_eq_true rfl) (hm u _ (fun M' h => ⟨rfl, h⟩)) (fun f' u' hS => ?_)
  exact L_eq (pc := 840) (off := 228) (by decide +kernel) (by decide) (hn C' f' w' u' (hRS C' f' hR hS))
theorem law_see {l : Launch} {X Y : Cx} {b L : Nat} {xs : Nat → Int32} {i : Nat} {C f : Nat → Int → Int} {w u : Int → Int} (hL : L ≤ 192) (hi : i + 2 < L) (hI : Inv C f) (hn : ∀ (C' f' : Nat → Int → Int) (w' u' : Int → Int), Inv C' f' → TL l X Y b L xs i 1068 [] C' f' w' u') : TL l X Y b L xs i 845 [] C f w u := by
  obtain ⟨r, R, S, hr, hc, hm, hRS⟩ := (P_see (l := l) (X := X) (Y := Y) (x := (xs (i + 1)).toInt) (y := (if (xs (i + 2)).toInt = 0 then 0 else 1)) (i32_rng _) (by split <;> simp) hI).pq
  refine L_x (pc := 845) (by decide +kernel) ?_
  refine L_arg (pc := 846) (k := 1) (z := 1) hL (by omega) (by decide +kernel) (by decide +kernel) (by decide +kernel) (by decide +kernel) (by decide +kernel) (by decide +kernel) ?_
  refine L_arg (pc := 851) (k := 2) (z := 2) hL (by omega) (by decide +kernel) (by decide +kernel) (by decide +kernel) (by decide +kernel) (by decide +kernel) (by decide +kernel) ?_
  refine L_bool (pc := 856) (by decide +kernel) (by decide +kernel) (by decide +kernel) (by decide +kernel) ?_
  refine L_cx (pc := 864) (ix := 117) (av := [vI (xs (i + 1)).toInt, vI (if (xs (i + 2)).toInt = 0 then 0 else 1)]) (rest := []) (by decide +kernel) lv_mX9_see (n' := 1) (by decide) rfl (Nat.le_of_ble_eq_true rfl) (hc w _ (fun M' h => ⟨rfl, h⟩)) (fun C' w' hR => ?_)
  refine L_m (pc := 867) (by decide +kernel) ?_
  refine L_arg (pc := 868) (k := 1) (z := 1) hL (by omega) (by decide +kernel) (by decide +kernel) (by decide +kernel) (by decide +kernel) (by decide +kernel) (by decide +kernel) ?_
  refine L_arg (pc := 873) (k := 2) (z := 2) hL (by omega) (by decide +kernel) (by decide +kernel) (by decide +kernel) (by decide +kernel) (by decide +kernel) (by decide +kernel) ?_
  refine L_bool (pc := 878) (by decide +kernel) (by decide +kernel) (by decide +kernel) (by decide +kernel) ?_
  refine L_cm (pc := 886) (ix := 120) (av := [vI (xs (i + 1)).toInt, vI (if (xs (i + 2)).toInt = 0 then 0 else 1)]) (rest := [.int (i32 r)]) (by decide +kernel) lv_mX10_see (n' := 1) (by decide) rfl (Nat.le_of_ble_eq_true rfl) (hm u _ (fun M' h => ⟨rfl, h⟩)) (fun f' u' hS => ?_)
  exact L_eq (pc := 889) (off := 179) (by decide +kernel) (by decide) (hn C' f' w' u' (hRS C' f' hR hS))
theorem law_catches {l : Launch} {X Y : Cx} {b L : Nat} {xs : Nat → Int32} {i : Nat} {C f : Nat → Int → Int} {w u : Int → Int} (hL : L ≤ 192) (hi : i + 2 < L) (hI : Inv C f) (hn : ∀ (C' f' : Nat → Int → Int) (w' u' : Int → Int), Inv C' f' → TL l X Y b L xs i 1068 [] C' f' w' u') : TL l X Y b L xs i 894 [] C f w u := by
  obtain ⟨r, R, S, hr, hc, hm, hRS⟩ := (P_catches (l := l) (X := X) (Y := Y) (x := (xs (i + 1)).toInt) (i32_rng _) hI).pq
  refine L_x (pc := 894) (by decide +kernel) ?_
  refine L_arg (pc := 895) (k := 1) (z := 1) hL (by omega) (by decide +kernel) (by decide +kernel) (by decide +kernel) (by decide +kernel) (by decide +kernel) (by decide +kernel) ?_
  refine L_cx (pc := 900) (ix := 121) (av := [vI (xs (i + 1)).toInt]) (rest := []) (by decide +kernel) lv_mX9_catches (n' := 3) (by decide) rfl (Nat.le_of_ble_eq_true rfl) (hc w _ (fun M' h => ⟨rfl, h⟩)) (fun C' w' hR => ?_)
  refine L_m (pc := 903) (by decide +kernel) ?_
  refine L_arg (pc := 904) (k := 1) (z := 1) hL (by omega) (by decide +kernel) (by decide +kernel) (by decide +kernel) (by decide +kernel) (by decide +kernel) (by decide +kernel) ?_
  refine L_cm (pc := 909) (ix := 124) (av := [vI (xs (i + 1)).toInt]) (rest := [.int (i32 r)]) (by decide +kernel) lv_mX10_catches (n' := 2) (by decide) rfl (Nat.le_of_ble_eq_true rfl) (hm u _ (fun M' h => ⟨rfl, h⟩)) (fun f' u' hS => ?_)
  exact L_eq (pc := 912) (off := 156) (by decide +kernel) (by decide) (hn C' f' w' u' (hRS C' f' hR hS))
