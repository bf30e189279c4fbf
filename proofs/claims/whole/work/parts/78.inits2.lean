/-! the world as it is born -/
def sgL (qs : List Nat) (a0 k : Nat) : Nat := (qs[k]?).getD a0
def m0C : Me := (fun k j => if k = 1 then (if j = 3 then -1 else 0) else 0, fun _ => 0)
def m0M : Me := (fun k j => if k = 0 then (if j = 14 then -1 else 0) else 0, fun _ => 0)
def mgo {α β : Type} (f : Nat → α → β) : Nat → List α → List β
  | _, [] => []
  | k, a :: r => f k a :: mgo f (k + 1) r
theorem mgo_k {α β : Type} : ∀ (l : List α) (f : Nat → α → β) (k : Nat), l.mapIdx (fun i => f (i + k)) = mgo f k l
  | [], _, _ => rfl
  | a :: r, f, k => by
    rw [List.mapIdx_cons]
    show f (0 + k) a :: r.mapIdx (fun i => f (i + 1 + k)) = f k a :: mgo f (k + 1) r
    rw [Nat.zero_add, ← mgo_k r f (k + 1)]
    congr 2
    funext i
    rw [show i + 1 + k = i + (k + 1) by omega]
theorem mgo_eq {α β : Type} {l : List α} {f : Nat → α → β} : l.mapIdx f = mgo f 0 l := mgo_k l f 0
theorem i32_m1 : i32 (-1) = -1 := by decide +kernel
theorem m0C_a {k : Nat} {x : Int} (h : k ≠ 1) : m0C.1 k x = 0 := if_neg h
theorem m0C_b {x : Int} : m0C.1 1 x = if x = 3 then -1 else 0 := rfl
theorem m0C_c {x : Int} : m0C.2 x = 0 := rfl
theorem m0M_a {k : Nat} {x : Int} (h : k ≠ 0) : m0M.1 k x = 0 := if_neg h
theorem m0M_b {x : Int} : m0M.1 0 x = if x = 14 then -1 else 0 := rfl
theorem m0M_c {x : Int} : m0M.2 x = 0 := rfl
theorem ci_0 : ((0 : Nat) : Int) = 0 := rfl
theorem ci_1 : ((1 : Nat) : Int) = 1 := rfl
theorem ci_2 : ((2 : Nat) : Int) = 2 := rfl
theorem ci_3 : ((3 : Nat) : Int) = 3 := rfl
theorem ci_4 : ((4 : Nat) : Int) = 4 := rfl
theorem ci_5 : ((5 : Nat) : Int) = 5 := rfl
theorem ci_6 : ((6 : Nat) : Int) = 6 := rfl
theorem ci_7 : ((7 : Nat) : Int) = 7 := rfl
theorem ci_8 : ((8 : Nat) : Int) = 8 := rfl
theorem ci_9 : ((9 : Nat) : Int) = 9 := rfl
theorem ci_10 : ((10 : Nat) : Int) = 10 := rfl
theorem ci_11 : ((11 : Nat) : Int) = 11 := rfl
theorem ci_12 : ((12 : Nat) : Int) = 12 := rfl
theorem ci_13 : ((13 : Nat) : Int) = 13 := rfl
theorem ci_14 : ((14 : Nat) : Int) = 14 := rfl
theorem ci_15 : ((15 : Nat) : Int) = 15 := rfl
theorem ci_16 : ((16 : Nat) : Int) = 16 := rfl
theorem ci_17 : ((17 : Nat) : Int) = 17 := rfl
theorem ci_18 : ((18 : Nat) : Int) = 18 := rfl
theorem ci_19 : ((19 : Nat) : Int) = 19 := rfl
theorem ci_20 : ((20 : Nat) : Int) = 20 := rfl
theorem ci_21 : ((21 : Nat) : Int) = 21 := rfl
theorem ci_22 : ((22 : Nat) : Int) = 22 := rfl
theorem ci_23 : ((23 : Nat) : Int) = 23 := rfl
theorem ci_24 : ((24 : Nat) : Int) = 24 := rfl
theorem ci_25 : ((25 : Nat) : Int) = 25 := rfl
theorem ci_26 : ((26 : Nat) : Int) = 26 := rfl
theorem ci_27 : ((27 : Nat) : Int) = 27 := rfl
theorem ci_28 : ((28 : Nat) : Int) = 28 := rfl
theorem ci_29 : ((29 : Nat) : Int) = 29 := rfl
theorem ci_30 : ((30 : Nat) : Int) = 30 := rfl
theorem ci_31 : ((31 : Nat) : Int) = 31 := rfl
theorem ci_32 : ((32 : Nat) : Int) = 32 := rfl
theorem ci_33 : ((33 : Nat) : Int) = 33 := rfl
theorem ci_34 : ((34 : Nat) : Int) = 34 := rfl
theorem ci_35 : ((35 : Nat) : Int) = 35 := rfl
theorem ci_36 : ((36 : Nat) : Int) = 36 := rfl
theorem ci_37 : ((37 : Nat) : Int) = 37 := rfl
theorem ci_38 : ((38 : Nat) : Int) = 38 := rfl
theorem ci_39 : ((39 : Nat) : Int) = 39 := rfl
theorem ci_40 : ((40 : Nat) : Int) = 40 := rfl
theorem ci_41 : ((41 : Nat) : Int) = 41 := rfl
def poC (G : va_G) (ar : ClassId × ClassId × ClassId) (a0 h0 : Nat) (A : Nat → Prop) (ws : va_W) : Prop := ∃ (sg : Nat → Nat) (c : Int → Int), sg 0 = h0 ∧ sg 1000 = a0 ∧ (∀ i, 0 ≤ i → i < 32 → c i = if 21 ≤ i ∧ i < 27 then -1 else 0) ∧ ws = wd (G, sg, ar, A) shC (rp m0C.1 18 c, m0C.2)
def poM (G : va_G) (ar : ClassId × ClassId × ClassId) (a0 h0 : Nat) (A : Nat → Prop) (ws : va_W) : Prop := ∃ sg : Nat → Nat, sg 0 = h0 ∧ sg 1000 = a0 ∧ ws = wd (G, sg, ar, A) shM m0M
def mX9_init : Mt := (yX9_init, cX9_init, 1, none)
theorem wd_C0 {G : va_G} {ar : ClassId × ClassId × ClassId} {A : Nat → Prop} {a0 h0 q1 q2 q3 q4 q5 q6 q7 q8 q9 q10 q11 q12 q13 q14 q15 q16 q17 q18 q19 q20 q21 q22 q23 q24 q25 q26 q27 q28 q29 q30 q31 q32 q33 q34 : Nat} : wd (G, sgL [h0, q1, q2, q3, q4, q5, q6, q7, q8, q9, q10, q11, q12, q13, q14, q15, q16, q17, q18, q19, q20, q21, q22, q23, q24, q25, q26, q27, q28, q29, q30, q31, q32, q33, q34] a0, ar, A) shC m0C = [(h0, .inr (9, [.ref q1, .ref q10, .ref q17, .ref q19, .ref q21, .ref q24, .ref q26, .ref q29, .ref q31, .ref q34, .int 0])), (q1, .inr (5, [.ref q2, .ref q9, .int 0, .int (-1), .int 0, .int 0, .int 0, .int 0])), (q2, .inr (6, [.int 0, .int 0, .int 0, .ref q3, .ref q4, .ref q5, .ref q6, .ref q7, .ref q8])), (q3, .inl (ar.1, 7, .inl (fun _ => i32 0))), (q4, .inl (ar.1, 7, .inl (fun _ => i32 0))), (q5, .inl (ar.1, 7, .inl (fun _ => i32 0))), (q6, .inl (ar.1, 7, .inl (fun _ => i32 0))), (q7, .inl (ar.1, 7, .inl (fun _ => i32 0))), (q8, .inl (ar.1, 6, .inl (fun _ => i32 0))), (q9, .inl (ar.1, 240, .inl (fun _ => i32 0))), (q10, .inr (6, [.int 0, .int 0, .int 0, .ref q11, .ref q12, .ref q13, .ref q14, .ref q15, .ref q16])), (q11, .inl (ar.1, 7, .inl (fun _ => i32 0))), (q12, .inl (ar.1, 7, .inl (fun _ => i32 0))), (q13, .inl (ar.1, 7, .inl (fun _ => i32 0))), (q14, .inl (ar.1, 7, .inl (fun _ => i32 0))), (q15, .inl (ar.1, 7, .inl (fun _ => i32 0))), (q16, .inl (ar.1, 6, .inl (fun _ => i32 0))), (q17, .inr (7, [.ref q18])), (q18, .inl (ar.1, 32, .inl (fun _ => i32 0))), (q19, .inr (3, [.ref q20, .int 0, .int 0])), (q20, .inl (ar.1, 512, .inl (fun _ => i32 0))), (q21, .inr (0, [.ref q22, .ref q23, .int 0])), (q22, .inl (ar.1, 64, .inl (fun _ => i32 0))), (q23, .inl (ar.1, 2, .inl (fun _ => i32 0))), (q24, .inr (8, [.ref q25, .int 0, .int 0])), (q25, .inl (ar.1, 6, .inl (fun _ => i32 0))), (q26, .inr (2, [.ref q27, .ref q28, .int 0])), (q27, .inl (ar.1, 15, .inl (fun _ => i32 0))), (q28, .inl (ar.1, 15, .inl (fun _ => i32 0))), (q29, .inr (1, [.ref q30])), (q30, .inl (ar.1, 7, .inl (fun _ => i32 0))), (q31, .inr (4, [.ref q32, .ref q33])), (q32, .inl (ar.1, 512, .inl (fun _ => i32 0))), (q33, .inl (ar.1, 7, .inl (fun _ => i32 0))), (q34, .inl (ar.2.2, 40, .inr (.inl (fun _ => i64 0))))] := by
  unfold wd
  rw [mgo_eq]
  simp only [shC, mgo, ce_arr0, ce_arr1, ce_arr2, ce_obj, mgo_eq, fv, sgL, List.getElem?_cons_zero, List.getElem?_cons_succ, Option.getD_some, Nat.reduceAdd, Nat.zero_add, m0C_a, m0C_b, m0C_c, ne_eq, Nat.reduceEqDiff, not_false_eq_true, reduceIte, i32_0, i32_m1, i64_0, Int.reduceEq, ci_0, ci_1, ci_2, ci_3, ci_4, ci_5, ci_6, ci_7, ci_8, ci_9, ci_10, ci_11, ci_12, ci_13, ci_14, ci_15, ci_16, ci_17, ci_18, ci_19, ci_20, ci_21, ci_22, ci_23, ci_24, ci_25, ci_26, ci_27, ci_28, ci_29, ci_30, ci_31, ci_32, ci_33, ci_34, ci_35, ci_36, ci_37, ci_38, ci_39, ci_40, ci_41]
set_option maxRecDepth 100000 in
theorem c_X9_init {l : Launch} {G : va_G} {ar : ClassId × ClassId × ClassId} {a0 : Nat} : GM l G ar a0 3 34 1576 mX9_init 9 [.null, .null, .null, .null, .null, .null, .null, .null, .null, .null, .int 0] (poC G ar a0) := by
  refine GM.intro (by decide +kernel) rfl (by decide) (fun h0 A => ?_)
  refine g_al (by decide +kernel) ?_
  refine g_oi (ix := 3) (by decide +kernel) wi_36 wi_1 wi_2 (by decide) ?_
  try dsimp only [List.cons_append, List.nil_append, List.append_assoc, List.set_cons_zero, List.set_cons_succ, Nat.reduceAdd]
  refine g_al (by decide +kernel) ?_
  refine g_new (ix := 9) (ci := 5) (fs := [.null, .null, .int 0, .int 0, .int 0, .int 0, .int 0, .int 0]) (by decide +kernel) rfl jX5 tyX5 tyX5_ok wi_37 wi_38 wi_39 (fun j hj => by rcases (show j = 0 ∨ j = 1 ∨ j = 2 ∨ j = 3 ∨ j = 4 ∨ j = 5 ∨ j = 6 ∨ j = 7 by omega) with rfl | rfl | rfl | rfl | rfl | rfl | rfl | rfl <;> rfl) (by decide) (by decide) (fun q1 => ?_)
  refine g_dup (by decide +kernel) ?_
  refine g_call (ix := 11) (by decide +kernel) wi_40 wi_39 wi_41 rfl (by decide +kernel) (by decide +kernel) (by decide) (by decide) (by decide) (by decide) (Nat.le_of_ble_eq_true rfl) c_X5_init (fun B w1 hw => ?_)
  obtain ⟨q2, q3, q4, q5, q6, q7, q8, q9, rfl⟩ := hw
  try dsimp only [List.cons_append, List.nil_append, List.append_assoc, List.set_cons_zero, List.set_cons_succ, Nat.reduceAdd]
  refine g_pF (ix := 12) (ci := 9) (sl := 0) (ty := tyX9 0) (by decide +kernel) rfl jX9 tyX9 tyX9_ok nmX9 (by decide) wi_42 rfl rfl (tyX9_ok 0 (by decide)) rfl rfl (Nat.le_of_ble_eq_true rfl) ?_
  try dsimp only [List.cons_append, List.nil_append, List.append_assoc, List.set_cons_zero, List.set_cons_succ, Nat.reduceAdd]
  refine g_al (by decide +kernel) ?_
  refine g_new (ix := 16) (ci := 6) (fs := [.int 0, .int 0, .int 0, .null, .null, .null, .null, .null, .null]) (by decide +kernel) rfl jX6 tyX6 tyX6_ok wi_43 wi_29 wi_30 (fun j hj => by rcases (show j = 0 ∨ j = 1 ∨ j = 2 ∨ j = 3 ∨ j = 4 ∨ j = 5 ∨ j = 6 ∨ j = 7 ∨ j = 8 by omega) with rfl | rfl | rfl | rfl | rfl | rfl | rfl | rfl | rfl <;> rfl) (by decide) (by decide) (fun q10 => ?_)
  refine g_dup (by decide +kernel) ?_
  refine g_call (ix := 18) (by decide +kernel) wi_31 wi_30 wi_32 rfl (by decide +kernel) (by decide +kernel) (by decide) (by decide) (by decide) (by decide) (Nat.le_of_ble_eq_true rfl) c_X6_init (fun B w1 hw => ?_)
  obtain ⟨q11, q12, q13, q14, q15, q16, rfl⟩ := hw
  try dsimp only [List.cons_append, List.nil_append, List.append_assoc, List.set_cons_zero, List.set_cons_succ, Nat.reduceAdd]
  refine g_pF (ix := 19) (ci := 9) (sl := 1) (ty := tyX9 1) (by decide +kernel) rfl jX9 tyX9 tyX9_ok nmX9 (by decide) wi_44 rfl rfl (tyX9_ok 1 (by decide)) rfl rfl (Nat.le_of_ble_eq_true rfl) ?_
  try dsimp only [List.cons_append, List.nil_append, List.append_assoc, List.set_cons_zero, List.set_cons_succ, Nat.reduceAdd]
  refine g_al (by decide +kernel) ?_
  refine g_new (ix := 23) (ci := 7) (fs := [.null]) (by decide +kernel) rfl jX7 tyX7 tyX7_ok wi_45 wi_46 wi_47 (fun j hj => by rcases (show j = 0 by omega) with rfl <;> rfl) (by decide) (by decide) (fun q17 => ?_)
  refine g_dup (by decide +kernel) ?_
  refine g_call (ix := 25) (by decide +kernel) wi_48 wi_47 wi_49 rfl (by decide +kernel) (by decide +kernel) (by decide) (by decide) (by decide) (by decide) (Nat.le_of_ble_eq_true rfl) c_X7_init (fun B w1 hw => ?_)
  obtain ⟨q18, rfl⟩ := hw
  try dsimp only [List.cons_append, List.nil_append, List.append_assoc, List.set_cons_zero, List.set_cons_succ, Nat.reduceAdd]
  refine g_pF (ix := 26) (ci := 9) (sl := 2) (ty := tyX9 2) (by decide +kernel) rfl jX9 tyX9 tyX9_ok nmX9 (by decide) wi_50 rfl rfl (tyX9_ok 2 (by decide)) rfl rfl (Nat.le_of_ble_eq_true rfl) ?_
  try dsimp only [List.cons_append, List.nil_append, List.append_assoc, List.set_cons_zero, List.set_cons_succ, Nat.reduceAdd]
  refine g_al (by decide +kernel) ?_
  refine g_new (ix := 30) (ci := 3) (fs := [.null, .int 0, .int 0]) (by decide +kernel) rfl jX3 tyX3 tyX3_ok wi_51 wi_52 wi_53 (fun j hj => by rcases (show j = 0 ∨ j = 1 ∨ j = 2 by omega) with rfl | rfl | rfl <;> rfl) (by decide) (by decide) (fun q19 => ?_)
  refine g_dup (by decide +kernel) ?_
  refine g_call (ix := 32) (by decide +kernel) wi_54 wi_53 wi_55 rfl (by decide +kernel) (by decide +kernel) (by decide) (by decide) (by decide) (by decide) (Nat.le_of_ble_eq_true rfl) c_X3_init (fun B w1 hw => ?_)
  obtain ⟨q20, rfl⟩ := hw
  try dsimp only [List.cons_append, List.nil_append, List.append_assoc, List.set_cons_zero, List.set_cons_succ, Nat.reduceAdd]
  refine g_pF (ix := 33) (ci := 9) (sl := 3) (ty := tyX9 3) (by decide +kernel) rfl jX9 tyX9 tyX9_ok nmX9 (by decide) wi_56 rfl rfl (tyX9_ok 3 (by decide)) rfl rfl (Nat.le_of_ble_eq_true rfl) ?_
  try dsimp only [List.cons_append, List.nil_append, List.append_assoc, List.set_cons_zero, List.set_cons_succ, Nat.reduceAdd]
  refine g_al (by decide +kernel) ?_
  refine g_new (ix := 37) (ci := 0) (fs := [.null, .null, .int 0]) (by decide +kernel) rfl jX0 tyX0 tyX0_ok wi_57 wi_58 wi_59 (fun j hj => by rcases (show j = 0 ∨ j = 1 ∨ j = 2 by omega) with rfl | rfl | rfl <;> rfl) (by decide) (by decide) (fun q21 => ?_)
  refine g_dup (by decide +kernel) ?_
  refine g_call (ix := 39) (by decide +kernel) wi_60 wi_59 wi_61 rfl (by decide +kernel) (by decide +kernel) (by decide) (by decide) (by decide) (by decide) (Nat.le_of_ble_eq_true rfl) c_X0_init (fun B w1 hw => ?_)
  obtain ⟨q22, q23, rfl⟩ := hw
  try dsimp only [List.cons_append, List.nil_append, List.append_assoc, List.set_cons_zero, List.set_cons_succ, Nat.reduceAdd]
  refine g_pF (ix := 40) (ci := 9) (sl := 4) (ty := tyX9 4) (by decide +kernel) rfl jX9 tyX9 tyX9_ok nmX9 (by decide) wi_62 rfl rfl (tyX9_ok 4 (by decide)) rfl rfl (Nat.le_of_ble_eq_true rfl) ?_
  try dsimp only [List.cons_append, List.nil_append, List.append_assoc, List.set_cons_zero, List.set_cons_succ, Nat.reduceAdd]
  refine g_al (by decide +kernel) ?_
  refine g_new (ix := 44) (ci := 8) (fs := [.null, .int 0, .int 0]) (by decide +kernel) rfl jX8 tyX8 tyX8_ok wi_63 wi_64 wi_65 (fun j hj => by rcases (show j = 0 ∨ j = 1 ∨ j = 2 by omega) with rfl | rfl | rfl <;> rfl) (by decide) (by decide) (fun q24 => ?_)
  refine g_dup (by decide +kernel) ?_
  refine g_call (ix := 46) (by decide +kernel) wi_66 wi_65 wi_67 rfl (by decide +kernel) (by decide +kernel) (by decide) (by decide) (by decide) (by decide) (Nat.le_of_ble_eq_true rfl) c_X8_init (fun B w1 hw => ?_)
  obtain ⟨q25, rfl⟩ := hw
  try dsimp only [List.cons_append, List.nil_append, List.append_assoc, List.set_cons_zero, List.set_cons_succ, Nat.reduceAdd]
  refine g_pF (ix := 47) (ci := 9) (sl := 5) (ty := tyX9 5) (by decide +kernel) rfl jX9 tyX9 tyX9_ok nmX9 (by decide) wi_68 rfl rfl (tyX9_ok 5 (by decide)) rfl rfl (Nat.le_of_ble_eq_true rfl) ?_
  try dsimp only [List.cons_append, List.nil_append, List.append_assoc, List.set_cons_zero, List.set_cons_succ, Nat.reduceAdd]
  refine g_al (by decide +kernel) ?_
  refine g_new (ix := 51) (ci := 2) (fs := [.null, .null, .int 0]) (by decide +kernel) rfl jX2 tyX2 tyX2_ok wi_69 wi_70 wi_71 (fun j hj => by rcases (show j = 0 ∨ j = 1 ∨ j = 2 by omega) with rfl | rfl | rfl <;> rfl) (by decide) (by decide) (fun q26 => ?_)
  refine g_dup (by decide +kernel) ?_
  refine g_call (ix := 53) (by decide +kernel) wi_72 wi_71 wi_73 rfl (by decide +kernel) (by decide +kernel) (by decide) (by decide) (by decide) (by decide) (Nat.le_of_ble_eq_true rfl) c_X2_init (fun B w1 hw => ?_)
  obtain ⟨q27, q28, rfl⟩ := hw
  try dsimp only [List.cons_append, List.nil_append, List.append_assoc, List.set_cons_zero, List.set_cons_succ, Nat.reduceAdd]
  refine g_pF (ix := 54) (ci := 9) (sl := 6) (ty := tyX9 6) (by decide +kernel) rfl jX9 tyX9 tyX9_ok nmX9 (by decide) wi_74 rfl rfl (tyX9_ok 6 (by decide)) rfl rfl (Nat.le_of_ble_eq_true rfl) ?_
  try dsimp only [List.cons_append, List.nil_append, List.append_assoc, List.set_cons_zero, List.set_cons_succ, Nat.reduceAdd]
  refine g_al (by decide +kernel) ?_
  refine g_new (ix := 58) (ci := 1) (fs := [.null]) (by decide +kernel) rfl jX1 tyX1 tyX1_ok wi_75 wi_76 wi_77 (fun j hj => by rcases (show j = 0 by omega) with rfl <;> rfl) (by decide) (by decide) (fun q29 => ?_)
  refine g_dup (by decide +kernel) ?_
  refine g_call (ix := 60) (by decide +kernel) wi_78 wi_77 wi_79 rfl (by decide +kernel) (by decide +kernel) (by decide) (by decide) (by decide) (by decide) (Nat.le_of_ble_eq_true rfl) c_X1_init (fun B w1 hw => ?_)
  obtain ⟨q30, rfl⟩ := hw
  try dsimp only [List.cons_append, List.nil_append, List.append_assoc, List.set_cons_zero, List.set_cons_succ, Nat.reduceAdd]
  refine g_pF (ix := 61) (ci := 9) (sl := 7) (ty := tyX9 7) (by decide +kernel) rfl jX9 tyX9 tyX9_ok nmX9 (by decide) wi_80 rfl rfl (tyX9_ok 7 (by decide)) rfl rfl (Nat.le_of_ble_eq_true rfl) ?_
  try dsimp only [List.cons_append, List.nil_append, List.append_assoc, List.set_cons_zero, List.set_cons_succ, Nat.reduceAdd]
  refine g_al (by decide +kernel) ?_
  refine g_new (ix := 65) (ci := 4) (fs := [.null, .null]) (by decide +kernel) rfl jX4 tyX4 tyX4_ok wi_81 wi_82 wi_83 (fun j hj => by rcases (show j = 0 ∨ j = 1 by omega) with rfl | rfl <;> rfl) (by decide) (by decide) (fun q31 => ?_)
  refine g_dup (by decide +kernel) ?_
  refine g_call (ix := 67) (by decide +kernel) wi_84 wi_83 wi_85 rfl (by decide +kernel) (by decide +kernel) (by decide) (by decide) (by decide) (by decide) (Nat.le_of_ble_eq_true rfl) c_X4_init (fun B w1 hw => ?_)
  obtain ⟨q32, q33, rfl⟩ := hw
  try dsimp only [List.cons_append, List.nil_append, List.append_assoc, List.set_cons_zero, List.set_cons_succ, Nat.reduceAdd]
  refine g_pF (ix := 68) (ci := 9) (sl := 8) (ty := tyX9 8) (by decide +kernel) rfl jX9 tyX9 tyX9_ok nmX9 (by decide) wi_86 rfl rfl (tyX9_ok 8 (by decide)) rfl rfl (Nat.le_of_ble_eq_true rfl) ?_
  try dsimp only [List.cons_append, List.nil_append, List.append_assoc, List.set_cons_zero, List.set_cons_succ, Nat.reduceAdd]
  refine g_al (by decide +kernel) ?_
  refine g_bi (a := 40) (v := 40) (by decide +kernel) (by decide +kernel) ?_
  refine g_nL (N := 40) (by decide +kernel) wi_87 (by decide) (by decide +kernel) (by decide) (by decide) (by decide) (fun q34 => ?_)
  try dsimp only [List.cons_append, List.nil_append, List.append_assoc, List.set_cons_zero, List.set_cons_succ, Nat.reduceAdd]
  refine g_pF (ix := 72) (ci := 9) (sl := 9) (ty := tyX9 9) (by decide +kernel) rfl jX9 tyX9 tyX9_ok nmX9 (by decide) wi_88 rfl rfl (tyX9_ok 9 (by decide)) rfl rfl (Nat.le_of_ble_eq_true rfl) ?_
  try dsimp only [List.cons_append, List.nil_append, List.append_assoc, List.set_cons_zero, List.set_cons_succ, Nat.reduceAdd]
  refine g_al (by decide +kernel) ?_
  refine g_gf (ix := 26) (ci := 9) (sl := 2) (q0 := 0) (by decide +kernel) rfl jX9 (by decide) wi_50 rfl rfl ?_
  rw [← wd_C0 (G := G) (A := A) (a0 := a0)]
  refine g_tm (id := 17) (ix := 76) (ci := 7) (n' := 0) (mt' := mX7_clear) (Q' := fun _ M' => ∃ c : Int → Int, (∀ i, 0 ≤ i → i < 32 → c i = if 21 ≤ i ∧ i < 27 then -1 else 0) ∧ M' = (rp m0C.1 18 c, m0C.2)) rfl (by decide +kernel) rfl wi_89 wi_90 wi_91 wi_47 wi_92 (by decide +kernel) (by decide) (by decide) rfl (by decide) (by decide) (by decide) (k_clear (fun c hc => ⟨rfl, c, hc, rfl⟩)) (fun M' hM => ?_)
  obtain ⟨c, hc, rfl⟩ := hM
  exact g_ret (by decide +kernel) rfl rfl rfl ⟨sgL [h0, q1, q2, q3, q4, q5, q6, q7, q8, q9, q10, q11, q12, q13, q14, q15, q16, q17, q18, q19, q20, q21, q22, q23, q24, q25, q26, q27, q28, q29, q30, q31, q32, q33, q34] a0, c, rfl, rfl, hc, rfl⟩
def mX10_init : Mt := (yX10_init, cX10_init, 1, none)
theorem wd_M0 {G : va_G} {ar : ClassId × ClassId × ClassId} {A : Nat → Prop} {a0 h0 q1 q2 q3 q4 q5 q6 q7 q8 q9 q10 q11 q12 q13 q14 q15 q16 q17 q18 q19 q20 q21 q22 q23 q24 q25 : Nat} : wd (G, sgL [h0, q1, q2, q3, q4, q5, q6, q7, q8, q9, q10, q11, q12, q13, q14, q15, q16, q17, q18, q19, q20, q21, q22, q23, q24, q25] a0, ar, A) shM m0M = [(h0, .inr (10, [.int (0), .int 0, .ref q1, .ref q2, .ref q3, .ref q4, .ref q5, .int 0, .int 0, .ref q6, .ref q7, .int 0, .ref q8, .int 0, .int (-1), .int 0, .int 0, .int 0, .int 0, .int 0, .ref q9, .ref q10, .ref q11, .ref q12, .ref q13, .int 0, .int 0, .ref q14, .int 0, .ref q15, .ref q16, .ref q17, .ref q18, .ref q19, .int 0, .ref q20, .ref q21, .int 0, .ref q22, .ref q23, .ref q24, .ref q25])), (q1, .inl (ar.1, 7, .inl (fun _ => i32 0))), (q2, .inl (ar.1, 7, .inl (fun _ => i32 0))), (q3, .inl (ar.1, 7, .inl (fun _ => i32 0))), (q4, .inl (ar.1, 7, .inl (fun _ => i32 0))), (q5, .inl (ar.1, 7, .inl (fun _ => i32 0))), (q6, .inl (ar.1, 6, .inl (fun _ => i32 0))), (q7, .inl (ar.1, 32, .inl (fun _ => i32 0))), (q8, .inl (ar.1, 240, .inl (fun _ => i32 0))), (q9, .inl (ar.1, 7, .inl (fun _ => i32 0))), (q10, .inl (ar.1, 7, .inl (fun _ => i32 0))), (q11, .inl (ar.1, 7, .inl (fun _ => i32 0))), (q12, .inl (ar.1, 7, .inl (fun _ => i32 0))), (q13, .inl (ar.1, 7, .inl (fun _ => i32 0))), (q14, .inl (ar.1, 6, .inl (fun _ => i32 0))), (q15, .inl (ar.1, 512, .inl (fun _ => i32 0))), (q16, .inl (ar.1, 32, .inl (fun _ => i32 0))), (q17, .inl (ar.2.1, 1600, .inl (fun _ => i32 0))), (q18, .inl (ar.1, 4, .inl (fun _ => i32 0))), (q19, .inl (ar.1, 512, .inl (fun _ => i32 0))), (q20, .inl (ar.1, 6, .inl (fun _ => i32 0))), (q21, .inl (ar.2.1, 6, .inl (fun _ => i32 0))), (q22, .inl (ar.1, 15, .inl (fun _ => i32 0))), (q23, .inl (ar.1, 15, .inl (fun _ => i32 0))), (q24, .inl (ar.1, 66, .inl (fun _ => i32 0))), (q25, .inl (ar.2.1, 2, .inl (fun _ => i32 0)))] := by
  unfold wd
  rw [mgo_eq]
  simp only [shM, mgo, ce_arr0, ce_arr1, ce_arr2, ce_obj, mgo_eq, fv, sgL, List.getElem?_cons_zero, List.getElem?_cons_succ, Option.getD_some, Nat.reduceAdd, Nat.zero_add, m0M_a, m0M_b, m0M_c, ne_eq, Nat.reduceEqDiff, not_false_eq_true, reduceIte, i32_0, i32_m1, i64_0, Int.reduceEq, ci_0, ci_1, ci_2, ci_3, ci_4, ci_5, ci_6, ci_7, ci_8, ci_9, ci_10, ci_11, ci_12, ci_13, ci_14, ci_15, ci_16, ci_17, ci_18, ci_19, ci_20, ci_21, ci_22, ci_23, ci_24, ci_25, ci_26, ci_27, ci_28, ci_29, ci_30, ci_31, ci_32, ci_33, ci_34, ci_35, ci_36, ci_37, ci_38, ci_39, ci_40, ci_41]
set_option maxRecDepth 100000 in
theorem c_X10_init {l : Launch} {G : va_G} {ar : ClassId × ClassId × ClassId} {a0 : Nat} : GM l G ar a0 1 25 3124 mX10_init 10 [.int 0, .int 0, .null, .null, .null, .null, .null, .int 0, .int 0, .null, .null, .int 0, .null, .int 0, .int 0, .int 0, .int 0, .int 0, .int 0, .int 0, .null, .null, .null, .null, .null, .int 0, .int 0, .null, .int 0, .null, .null, .null, .null, .null, .int 0, .null, .null, .int 0, .null, .null, .null, .null] (poM G ar a0) := by
  refine GM.intro (by decide +kernel) rfl (by decide) (fun h0 A => ?_)
  refine g_al (by decide +kernel) ?_
  refine g_oi (ix := 1) (by decide +kernel) wi_93 wi_1 wi_2 (by decide) ?_
  try dsimp only [List.cons_append, List.nil_append, List.append_assoc, List.set_cons_zero, List.set_cons_succ, Nat.reduceAdd]
  refine g_al (by decide +kernel) ?_
  refine g_bi (a := 7) (v := 7) (by decide +kernel) (by decide +kernel) ?_
  refine g_nI (N := 7) (by decide +kernel) wi_3 (by decide) (by decide +kernel) (by decide) (by decide) (by decide) (fun q1 => ?_)
  try dsimp only [List.cons_append, List.nil_append, List.append_assoc, List.set_cons_zero, List.set_cons_succ, Nat.reduceAdd]
  refine g_pF (ix := 7) (ci := 10) (sl := 2) (ty := tyX10 2) (by decide +kernel) rfl jX10 tyX10 tyX10_ok nmX10 (by decide) wi_94 rfl rfl (tyX10_ok 2 (by decide)) rfl rfl (Nat.le_of_ble_eq_true rfl) ?_
  try dsimp only [List.cons_append, List.nil_append, List.append_assoc, List.set_cons_zero, List.set_cons_succ, Nat.reduceAdd]
  refine g_al (by decide +kernel) ?_
  refine g_bi (a := 7) (v := 7) (by decide +kernel) (by decide +kernel) ?_
  refine g_nI (N := 7) (by decide +kernel) wi_3 (by decide) (by decide +kernel) (by decide) (by decide) (by decide) (fun q2 => ?_)
  try dsimp only [List.cons_append, List.nil_append, List.append_assoc, List.set_cons_zero, List.set_cons_succ, Nat.reduceAdd]
  refine g_pF (ix := 13) (ci := 10) (sl := 3) (ty := tyX10 3) (by decide +kernel) rfl jX10 tyX10 tyX10_ok nmX10 (by decide) wi_95 rfl rfl (tyX10_ok 3 (by decide)) rfl rfl (Nat.le_of_ble_eq_true rfl) ?_
  try dsimp only [List.cons_append, List.nil_append, List.append_assoc, List.set_cons_zero, List.set_cons_succ, Nat.reduceAdd]
  refine g_al (by decide +kernel) ?_
  refine g_bi (a := 7) (v := 7) (by decide +kernel) (by decide +kernel) ?_
  refine g_nI (N := 7) (by decide +kernel) wi_3 (by decide) (by decide +kernel) (by decide) (by decide) (by decide) (fun q3 => ?_)
  try dsimp only [List.cons_append, List.nil_append, List.append_assoc, List.set_cons_zero, List.set_cons_succ, Nat.reduceAdd]
  refine g_pF (ix := 16) (ci := 10) (sl := 4) (ty := tyX10 4) (by decide +kernel) rfl jX10 tyX10 tyX10_ok nmX10 (by decide) wi_96 rfl rfl (tyX10_ok 4 (by decide)) rfl rfl (Nat.le_of_ble_eq_true rfl) ?_
  try dsimp only [List.cons_append, List.nil_append, List.append_assoc, List.set_cons_zero, List.set_cons_succ, Nat.reduceAdd]
  refine g_al (by decide +kernel) ?_
  refine g_bi (a := 7) (v := 7) (by decide +kernel) (by decide +kernel) ?_
  refine g_nI (N := 7) (by decide +kernel) wi_3 (by decide) (by decide +kernel) (by decide) (by decide) (by decide) (fun q4 => ?_)
  try dsimp only [List.cons_append, List.nil_append, List.append_assoc, List.set_cons_zero, List.set_cons_succ, Nat.reduceAdd]
  refine g_pF (ix := 19) (ci := 10) (sl := 5) (ty := tyX10 5) (by decide +kernel) rfl jX10 tyX10 tyX10_ok nmX10 (by decide) wi_97 rfl rfl (tyX10_ok 5 (by decide)) rfl rfl (Nat.le_of_ble_eq_true rfl) ?_
  try dsimp only [List.cons_append, List.nil_append, List.append_assoc, List.set_cons_zero, List.set_cons_succ, Nat.reduceAdd]
  refine g_al (by decide +kernel) ?_
  refine g_bi (a := 7) (v := 7) (by decide +kernel) (by decide +kernel) ?_
  refine g_nI (N := 7) (by decide +kernel) wi_3 (by decide) (by decide +kernel) (by decide) (by decide) (by decide) (fun q5 => ?_)
  try dsimp only [List.cons_append, List.nil_append, List.append_assoc, List.set_cons_zero, List.set_cons_succ, Nat.reduceAdd]
  refine g_pF (ix := 22) (ci := 10) (sl := 6) (ty := tyX10 6) (by decide +kernel) rfl jX10 tyX10 tyX10_ok nmX10 (by decide) wi_98 rfl rfl (tyX10_ok 6 (by decide)) rfl rfl (Nat.le_of_ble_eq_true rfl) ?_
  try dsimp only [List.cons_append, List.nil_append, List.append_assoc, List.set_cons_zero, List.set_cons_succ, Nat.reduceAdd]
  refine g_al (by decide +kernel) ?_
  refine g_bi (a := 6) (v := 6) (by decide +kernel) (by decide +kernel) ?_
  refine g_nI (N := 6) (by decide +kernel) wi_3 (by decide) (by decide +kernel) (by decide) (by decide) (by decide) (fun q6 => ?_)
  try dsimp only [List.cons_append, List.nil_append, List.append_assoc, List.set_cons_zero, List.set_cons_succ, Nat.reduceAdd]
  refine g_pF (ix := 25) (ci := 10) (sl := 9) (ty := tyX10 9) (by decide +kernel) rfl jX10 tyX10 tyX10_ok nmX10 (by decide) wi_99 rfl rfl (tyX10_ok 9 (by decide)) rfl rfl (Nat.le_of_ble_eq_true rfl) ?_
  try dsimp only [List.cons_append, List.nil_append, List.append_assoc, List.set_cons_zero, List.set_cons_succ, Nat.reduceAdd]
  refine g_al (by decide +kernel) ?_
  refine g_bi (a := 32) (v := 32) (by decide +kernel) (by decide +kernel) ?_
  refine g_nI (N := 32) (by decide +kernel) wi_3 (by decide) (by decide +kernel) (by decide) (by decide) (by decide) (fun q7 => ?_)
  try dsimp only [List.cons_append, List.nil_append, List.append_assoc, List.set_cons_zero, List.set_cons_succ, Nat.reduceAdd]
  refine g_pF (ix := 28) (ci := 10) (sl := 10) (ty := tyX10 10) (by decide +kernel) rfl jX10 tyX10 tyX10_ok nmX10 (by decide) wi_100 rfl rfl (tyX10_ok 10 (by decide)) rfl rfl (Nat.le_of_ble_eq_true rfl) ?_
  try dsimp only [List.cons_append, List.nil_append, List.append_assoc, List.set_cons_zero, List.set_cons_succ, Nat.reduceAdd]
  refine g_al (by decide +kernel) ?_
  refine g_si (a := 240) (v := 240) (by decide +kernel) (by decide +kernel) ?_
  refine g_nI (N := 240) (by decide +kernel) wi_3 (by decide) (by decide +kernel) (by decide) (by decide) (by decide) (fun q8 => ?_)
  try dsimp only [List.cons_append, List.nil_append, List.append_assoc, List.set_cons_zero, List.set_cons_succ, Nat.reduceAdd]
  refine g_pF (ix := 31) (ci := 10) (sl := 12) (ty := tyX10 12) (by decide +kernel) rfl jX10 tyX10 tyX10_ok nmX10 (by decide) wi_101 rfl rfl (tyX10_ok 12 (by decide)) rfl rfl (Nat.le_of_ble_eq_true rfl) ?_
  try dsimp only [List.cons_append, List.nil_append, List.append_assoc, List.set_cons_zero, List.set_cons_succ, Nat.reduceAdd]
  refine g_al (by decide +kernel) ?_
  refine g_ic (a := (-1)) (v := (-1)) (by decide +kernel) (by decide +kernel) ?_
  refine g_p (ix := 34) (ci := 10) (sl := 14) (ty := tyX10 14) (by decide +kernel) rfl jX10 tyX10 tyX10_ok nmX10 (by decide) wi_102 rfl (tyX10_ok 14 (by decide)) rfl rfl (Nat.le_of_ble_eq_true rfl) ?_
  try dsimp only [List.cons_append, List.nil_append, List.append_assoc, List.set_cons_zero, List.set_cons_succ, Nat.reduceAdd]
  refine g_al (by decide +kernel) ?_
  refine g_bi (a := 7) (v := 7) (by decide +kernel) (by decide +kernel) ?_
  refine g_nI (N := 7) (by decide +kernel) wi_3 (by decide) (by decide +kernel) (by decide) (by decide) (by decide) (fun q9 => ?_)
  try dsimp only [List.cons_append, List.nil_append, List.append_assoc, List.set_cons_zero, List.set_cons_succ, Nat.reduceAdd]
  refine g_pF (ix := 38) (ci := 10) (sl := 20) (ty := tyX10 20) (by decide +kernel) rfl jX10 tyX10 tyX10_ok nmX10 (by decide) wi_103 rfl rfl (tyX10_ok 20 (by decide)) rfl rfl (Nat.le_of_ble_eq_true rfl) ?_
  try dsimp only [List.cons_append, List.nil_append, List.append_assoc, List.set_cons_zero, List.set_cons_succ, Nat.reduceAdd]
  refine g_al (by decide +kernel) ?_
  refine g_bi (a := 7) (v := 7) (by decide +kernel) (by decide +kernel) ?_
  refine g_nI (N := 7) (by decide +kernel) wi_3 (by decide) (by decide +kernel) (by decide) (by decide) (by decide) (fun q10 => ?_)
  try dsimp only [List.cons_append, List.nil_append, List.append_assoc, List.set_cons_zero, List.set_cons_succ, Nat.reduceAdd]
  refine g_pF (ix := 41) (ci := 10) (sl := 21) (ty := tyX10 21) (by decide +kernel) rfl jX10 tyX10 tyX10_ok nmX10 (by decide) wi_104 rfl rfl (tyX10_ok 21 (by decide)) rfl rfl (Nat.le_of_ble_eq_true rfl) ?_
  try dsimp only [List.cons_append, List.nil_append, List.append_assoc, List.set_cons_zero, List.set_cons_succ, Nat.reduceAdd]
  refine g_al (by decide +kernel) ?_
  refine g_bi (a := 7) (v := 7) (by decide +kernel) (by decide +kernel) ?_
  refine g_nI (N := 7) (by decide +kernel) wi_3 (by decide) (by decide +kernel) (by decide) (by decide) (by decide) (fun q11 => ?_)
  try dsimp only [List.cons_append, List.nil_append, List.append_assoc, List.set_cons_zero, List.set_cons_succ, Nat.reduceAdd]
  refine g_pF (ix := 44) (ci := 10) (sl := 22) (ty := tyX10 22) (by decide +kernel) rfl jX10 tyX10 tyX10_ok nmX10 (by decide) wi_105 rfl rfl (tyX10_ok 22 (by decide)) rfl rfl (Nat.le_of_ble_eq_true rfl) ?_
  try dsimp only [List.cons_append, List.nil_append, List.append_assoc, List.set_cons_zero, List.set_cons_succ, Nat.reduceAdd]
  refine g_al (by decide +kernel) ?_
  refine g_bi (a := 7) (v := 7) (by decide +kernel) (by decide +kernel) ?_
  refine g_nI (N := 7) (by decide +kernel) wi_3 (by decide) (by decide +kernel) (by decide) (by decide) (by decide) (fun q12 => ?_)
  try dsimp only [List.cons_append, List.nil_append, List.append_assoc, List.set_cons_zero, List.set_cons_succ, Nat.reduceAdd]
  refine g_pF (ix := 47) (ci := 10) (sl := 23) (ty := tyX10 23) (by decide +kernel) rfl jX10 tyX10 tyX10_ok nmX10 (by decide) wi_106 rfl rfl (tyX10_ok 23 (by decide)) rfl rfl (Nat.le_of_ble_eq_true rfl) ?_
  try dsimp only [List.cons_append, List.nil_append, List.append_assoc, List.set_cons_zero, List.set_cons_succ, Nat.reduceAdd]
  refine g_al (by decide +kernel) ?_
  refine g_bi (a := 7) (v := 7) (by decide +kernel) (by decide +kernel) ?_
  refine g_nI (N := 7) (by decide +kernel) wi_3 (by decide) (by decide +kernel) (by decide) (by decide) (by decide) (fun q13 => ?_)
  try dsimp only [List.cons_append, List.nil_append, List.append_assoc, List.set_cons_zero, List.set_cons_succ, Nat.reduceAdd]
  refine g_pF (ix := 50) (ci := 10) (sl := 24) (ty := tyX10 24) (by decide +kernel) rfl jX10 tyX10 tyX10_ok nmX10 (by decide) wi_107 rfl rfl (tyX10_ok 24 (by decide)) rfl rfl (Nat.le_of_ble_eq_true rfl) ?_
  try dsimp only [List.cons_append, List.nil_append, List.append_assoc, List.set_cons_zero, List.set_cons_succ, Nat.reduceAdd]
  refine g_al (by decide +kernel) ?_
  refine g_bi (a := 6) (v := 6) (by decide +kernel) (by decide +kernel) ?_
  refine g_nI (N := 6) (by decide +kernel) wi_3 (by decide) (by decide +kernel) (by decide) (by decide) (by decide) (fun q14 => ?_)
  try dsimp only [List.cons_append, List.nil_append, List.append_assoc, List.set_cons_zero, List.set_cons_succ, Nat.reduceAdd]
  refine g_pF (ix := 53) (ci := 10) (sl := 27) (ty := tyX10 27) (by decide +kernel) rfl jX10 tyX10 tyX10_ok nmX10 (by decide) wi_108 rfl rfl (tyX10_ok 27 (by decide)) rfl rfl (Nat.le_of_ble_eq_true rfl) ?_
  try dsimp only [List.cons_append, List.nil_append, List.append_assoc, List.set_cons_zero, List.set_cons_succ, Nat.reduceAdd]
  refine g_al (by decide +kernel) ?_
  refine g_si (a := 512) (v := 512) (by decide +kernel) (by decide +kernel) ?_
  refine g_nI (N := 512) (by decide +kernel) wi_3 (by decide) (by decide +kernel) (by decide) (by decide) (by decide) (fun q15 => ?_)
  try dsimp only [List.cons_append, List.nil_append, List.append_assoc, List.set_cons_zero, List.set_cons_succ, Nat.reduceAdd]
  refine g_pF (ix := 56) (ci := 10) (sl := 29) (ty := tyX10 29) (by decide +kernel) rfl jX10 tyX10 tyX10_ok nmX10 (by decide) wi_109 rfl rfl (tyX10_ok 29 (by decide)) rfl rfl (Nat.le_of_ble_eq_true rfl) ?_
  try dsimp only [List.cons_append, List.nil_append, List.append_assoc, List.set_cons_zero, List.set_cons_succ, Nat.reduceAdd]
  refine g_al (by decide +kernel) ?_
  refine g_bi (a := 32) (v := 32) (by decide +kernel) (by decide +kernel) ?_
  refine g_nI (N := 32) (by decide +kernel) wi_3 (by decide) (by decide +kernel) (by decide) (by decide) (by decide) (fun q16 => ?_)
  try dsimp only [List.cons_append, List.nil_append, List.append_assoc, List.set_cons_zero, List.set_cons_succ, Nat.reduceAdd]
  refine g_pF (ix := 59) (ci := 10) (sl := 30) (ty := tyX10 30) (by decide +kernel) rfl jX10 tyX10 tyX10_ok nmX10 (by decide) wi_110 rfl rfl (tyX10_ok 30 (by decide)) rfl rfl (Nat.le_of_ble_eq_true rfl) ?_
  try dsimp only [List.cons_append, List.nil_append, List.append_assoc, List.set_cons_zero, List.set_cons_succ, Nat.reduceAdd]
  refine g_al (by decide +kernel) ?_
  refine g_si (a := 1600) (v := 1600) (by decide +kernel) (by decide +kernel) ?_
  refine g_nZ (N := 1600) (by decide +kernel) wi_111 (by decide) (by decide +kernel) (by decide) (by decide) (by decide) (fun q17 => ?_)
  try dsimp only [List.cons_append, List.nil_append, List.append_assoc, List.set_cons_zero, List.set_cons_succ, Nat.reduceAdd]
  refine g_pF (ix := 62) (ci := 10) (sl := 31) (ty := tyX10 31) (by decide +kernel) rfl jX10 tyX10 tyX10_ok nmX10 (by decide) wi_112 rfl rfl (tyX10_ok 31 (by decide)) rfl rfl (Nat.le_of_ble_eq_true rfl) ?_
  try dsimp only [List.cons_append, List.nil_append, List.append_assoc, List.set_cons_zero, List.set_cons_succ, Nat.reduceAdd]
  refine g_al (by decide +kernel) ?_
  refine g_ic (a := (4)) (v := (4)) (by decide +kernel) (by decide +kernel) ?_
  refine g_nI (N := 4) (by decide +kernel) wi_3 (by decide) (by decide +kernel) (by decide) (by decide) (by decide) (fun q18 => ?_)
  try dsimp only [List.cons_append, List.nil_append, List.append_assoc, List.set_cons_zero, List.set_cons_succ, Nat.reduceAdd]
  refine g_pF (ix := 66) (ci := 10) (sl := 32) (ty := tyX10 32) (by decide +kernel) rfl jX10 tyX10 tyX10_ok nmX10 (by decide) wi_113 rfl rfl (tyX10_ok 32 (by decide)) rfl rfl (Nat.le_of_ble_eq_true rfl) ?_
  try dsimp only [List.cons_append, List.nil_append, List.append_assoc, List.set_cons_zero, List.set_cons_succ, Nat.reduceAdd]
  refine g_al (by decide +kernel) ?_
  refine g_si (a := 512) (v := 512) (by decide +kernel) (by decide +kernel) ?_
  refine g_nI (N := 512) (by decide +kernel) wi_3 (by decide) (by decide +kernel) (by decide) (by decide) (by decide) (fun q19 => ?_)
  try dsimp only [List.cons_append, List.nil_append, List.append_assoc, List.set_cons_zero, List.set_cons_succ, Nat.reduceAdd]
  refine g_pF (ix := 69) (ci := 10) (sl := 33) (ty := tyX10 33) (by decide +kernel) rfl jX10 tyX10 tyX10_ok nmX10 (by decide) wi_114 rfl rfl (tyX10_ok 33 (by decide)) rfl rfl (Nat.le_of_ble_eq_true rfl) ?_
  try dsimp only [List.cons_append, List.nil_append, List.append_assoc, List.set_cons_zero, List.set_cons_succ, Nat.reduceAdd]
  refine g_al (by decide +kernel) ?_
  refine g_bi (a := 6) (v := 6) (by decide +kernel) (by decide +kernel) ?_
  refine g_nI (N := 6) (by decide +kernel) wi_3 (by decide) (by decide +kernel) (by decide) (by decide) (by decide) (fun q20 => ?_)
  try dsimp only [List.cons_append, List.nil_append, List.append_assoc, List.set_cons_zero, List.set_cons_succ, Nat.reduceAdd]
  refine g_pF (ix := 72) (ci := 10) (sl := 35) (ty := tyX10 35) (by decide +kernel) rfl jX10 tyX10 tyX10_ok nmX10 (by decide) wi_115 rfl rfl (tyX10_ok 35 (by decide)) rfl rfl (Nat.le_of_ble_eq_true rfl) ?_
  try dsimp only [List.cons_append, List.nil_append, List.append_assoc, List.set_cons_zero, List.set_cons_succ, Nat.reduceAdd]
  refine g_al (by decide +kernel) ?_
  refine g_bi (a := 6) (v := 6) (by decide +kernel) (by decide +kernel) ?_
  refine g_nZ (N := 6) (by decide +kernel) wi_111 (by decide) (by decide +kernel) (by decide) (by decide) (by decide) (fun q21 => ?_)
  try dsimp only [List.cons_append, List.nil_append, List.append_assoc, List.set_cons_zero, List.set_cons_succ, Nat.reduceAdd]
  refine g_pF (ix := 75) (ci := 10) (sl := 36) (ty := tyX10 36) (by decide +kernel) rfl jX10 tyX10 tyX10_ok nmX10 (by decide) wi_116 rfl rfl (tyX10_ok 36 (by decide)) rfl rfl (Nat.le_of_ble_eq_true rfl) ?_
  try dsimp only [List.cons_append, List.nil_append, List.append_assoc, List.set_cons_zero, List.set_cons_succ, Nat.reduceAdd]
  refine g_al (by decide +kernel) ?_
  refine g_bi (a := 15) (v := 15) (by decide +kernel) (by decide +kernel) ?_
  refine g_nI (N := 15) (by decide +kernel) wi_3 (by decide) (by decide +kernel) (by decide) (by decide) (by decide) (fun q22 => ?_)
  try dsimp only [List.cons_append, List.nil_append, List.append_assoc, List.set_cons_zero, List.set_cons_succ, Nat.reduceAdd]
  refine g_pF (ix := 78) (ci := 10) (sl := 38) (ty := tyX10 38) (by decide +kernel) rfl jX10 tyX10 tyX10_ok nmX10 (by decide) wi_117 rfl rfl (tyX10_ok 38 (by decide)) rfl rfl (Nat.le_of_ble_eq_true rfl) ?_
  try dsimp only [List.cons_append, List.nil_append, List.append_assoc, List.set_cons_zero, List.set_cons_succ, Nat.reduceAdd]
  refine g_al (by decide +kernel) ?_
  refine g_bi (a := 15) (v := 15) (by decide +kernel) (by decide +kernel) ?_
  refine g_nI (N := 15) (by decide +kernel) wi_3 (by decide) (by decide +kernel) (by decide) (by decide) (by decide) (fun q23 => ?_)
  try dsimp only [List.cons_append, List.nil_append, List.append_assoc, List.set_cons_zero, List.set_cons_succ, Nat.reduceAdd]
  refine g_pF (ix := 81) (ci := 10) (sl := 39) (ty := tyX10 39) (by decide +kernel) rfl jX10 tyX10 tyX10_ok nmX10 (by decide) wi_118 rfl rfl (tyX10_ok 39 (by decide)) rfl rfl (Nat.le_of_ble_eq_true rfl) ?_
  try dsimp only [List.cons_append, List.nil_append, List.append_assoc, List.set_cons_zero, List.set_cons_succ, Nat.reduceAdd]
  refine g_al (by decide +kernel) ?_
  refine g_bi (a := 66) (v := 66) (by decide +kernel) (by decide +kernel) ?_
  refine g_nI (N := 66) (by decide +kernel) wi_3 (by decide) (by decide +kernel) (by decide) (by decide) (by decide) (fun q24 => ?_)
  try dsimp only [List.cons_append, List.nil_append, List.append_assoc, List.set_cons_zero, List.set_cons_succ, Nat.reduceAdd]
  refine g_pF (ix := 84) (ci := 10) (sl := 40) (ty := tyX10 40) (by decide +kernel) rfl jX10 tyX10 tyX10_ok nmX10 (by decide) wi_119 rfl rfl (tyX10_ok 40 (by decide)) rfl rfl (Nat.le_of_ble_eq_true rfl) ?_
  try dsimp only [List.cons_append, List.nil_append, List.append_assoc, List.set_cons_zero, List.set_cons_succ, Nat.reduceAdd]
  refine g_al (by decide +kernel) ?_
  refine g_ic (a := (2)) (v := (2)) (by decide +kernel) (by decide +kernel) ?_
  refine g_nZ (N := 2) (by decide +kernel) wi_111 (by decide) (by decide +kernel) (by decide) (by decide) (by decide) (fun q25 => ?_)
  try dsimp only [List.cons_append, List.nil_append, List.append_assoc, List.set_cons_zero, List.set_cons_succ, Nat.reduceAdd]
  refine g_pF (ix := 87) (ci := 10) (sl := 41) (ty := tyX10 41) (by decide +kernel) rfl jX10 tyX10 tyX10_ok nmX10 (by decide) wi_120 rfl rfl (tyX10_ok 41 (by decide)) rfl rfl (Nat.le_of_ble_eq_true rfl) ?_
  try dsimp only [List.cons_append, List.nil_append, List.append_assoc, List.set_cons_zero, List.set_cons_succ, Nat.reduceAdd]
  refine g_al (by decide +kernel) ?_
  refine g_ic (a := (0)) (v := (0)) (by decide +kernel) (by decide +kernel) ?_
  refine g_p (ix := 90) (ci := 10) (sl := 0) (ty := tyX10 0) (by decide +kernel) rfl jX10 tyX10 tyX10_ok nmX10 (by decide) wi_121 rfl (tyX10_ok 0 (by decide)) rfl rfl (Nat.le_of_ble_eq_true rfl) ?_
  try dsimp only [List.cons_append, List.nil_append, List.append_assoc, List.set_cons_zero, List.set_cons_succ, Nat.reduceAdd]
  exact g_ret (by decide +kernel) rfl rfl rfl ⟨sgL [h0, q1, q2, q3, q4, q5, q6, q7, q8, q9, q10, q11, q12, q13, q14, q15, q16, q17, q18, q19, q20, q21, q22, q23, q24, q25] a0, rfl, rfl, wd_M0.symm⟩
