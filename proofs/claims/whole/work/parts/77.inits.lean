/-! the small constructors -/
def mX0_init : Mt := (yX0_init, cX0_init, 1, none)
def poX0 (ar : ClassId × ClassId × ClassId) (h0 : Nat) (_ : Nat → Prop) (ws : va_W) : Prop := ∃ q1 q2 : Nat, ws = [(h0, .inr (0, [.ref q1, .ref q2, .int 0])), (q1, .inl (ar.1, 64, .inl (fun _ => i32 0))), (q2, .inl (ar.1, 2, .inl (fun _ => i32 0)))]
set_option maxRecDepth 100000 in
theorem c_X0_init {l : Launch} {G : va_G} {ar : ClassId × ClassId × ClassId} {a0 : Nat} : GM l G ar a0 1 2 66 mX0_init 0 [.null, .null, .int 0] (poX0 ar) := by
  refine GM.intro (by decide +kernel) rfl (by decide) (fun h0 A => ?_)
  refine g_al (by decide +kernel) ?_
  refine g_oi (ix := 3) (by decide +kernel) wi_0 wi_1 wi_2 (by decide) ?_
  try dsimp only [List.cons_append, List.nil_append, List.append_assoc, List.set_cons_zero, List.set_cons_succ, Nat.reduceAdd]
  refine g_al (by decide +kernel) ?_
  refine g_bi (a := 64) (v := 64) (by decide +kernel) (by decide +kernel) ?_
  refine g_nI (N := 64) (by decide +kernel) wi_3 (by decide) (by decide +kernel) (by decide) (by decide) (by decide) (fun q1 => ?_)
  try dsimp only [List.cons_append, List.nil_append, List.append_assoc, List.set_cons_zero, List.set_cons_succ, Nat.reduceAdd]
  refine g_pF (ix := 11) (ci := 0) (sl := 0) (ty := tyX0 0) (by decide +kernel) rfl jX0 tyX0 tyX0_ok nmX0 (by decide) wi_4 rfl rfl (tyX0_ok 0 (by decide)) rfl rfl (Nat.le_of_ble_eq_true rfl) ?_
  try dsimp only [List.cons_append, List.nil_append, List.append_assoc, List.set_cons_zero, List.set_cons_succ, Nat.reduceAdd]
  refine g_al (by decide +kernel) ?_
  refine g_ic (a := (2)) (v := (2)) (by decide +kernel) (by decide +kernel) ?_
  refine g_nI (N := 2) (by decide +kernel) wi_3 (by decide) (by decide +kernel) (by decide) (by decide) (by decide) (fun q2 => ?_)
  try dsimp only [List.cons_append, List.nil_append, List.append_assoc, List.set_cons_zero, List.set_cons_succ, Nat.reduceAdd]
  refine g_pF (ix := 17) (ci := 0) (sl := 1) (ty := tyX0 1) (by decide +kernel) rfl jX0 tyX0 tyX0_ok nmX0 (by decide) wi_5 rfl rfl (tyX0_ok 1 (by decide)) rfl rfl (Nat.le_of_ble_eq_true rfl) ?_
  try dsimp only [List.cons_append, List.nil_append, List.append_assoc, List.set_cons_zero, List.set_cons_succ, Nat.reduceAdd]
  exact g_ret (by decide +kernel) rfl rfl rfl ⟨q1, q2, rfl⟩
def mX1_init : Mt := (yX1_init, cX1_init, 1, none)
def poX1 (ar : ClassId × ClassId × ClassId) (h0 : Nat) (_ : Nat → Prop) (ws : va_W) : Prop := ∃ q1 : Nat, ws = [(h0, .inr (1, [.ref q1])), (q1, .inl (ar.1, 7, .inl (fun _ => i32 0)))]
set_option maxRecDepth 100000 in
theorem c_X1_init {l : Launch} {G : va_G} {ar : ClassId × ClassId × ClassId} {a0 : Nat} : GM l G ar a0 1 1 7 mX1_init 1 [.null] (poX1 ar) := by
  refine GM.intro (by decide +kernel) rfl (by decide) (fun h0 A => ?_)
  refine g_al (by decide +kernel) ?_
  refine g_oi (ix := 3) (by decide +kernel) wi_6 wi_1 wi_2 (by decide) ?_
  try dsimp only [List.cons_append, List.nil_append, List.append_assoc, List.set_cons_zero, List.set_cons_succ, Nat.reduceAdd]
  refine g_al (by decide +kernel) ?_
  refine g_bi (a := 7) (v := 7) (by decide +kernel) (by decide +kernel) ?_
  refine g_nI (N := 7) (by decide +kernel) wi_3 (by decide) (by decide +kernel) (by decide) (by decide) (by decide) (fun q1 => ?_)
  try dsimp only [List.cons_append, List.nil_append, List.append_assoc, List.set_cons_zero, List.set_cons_succ, Nat.reduceAdd]
  refine g_pF (ix := 9) (ci := 1) (sl := 0) (ty := tyX1 0) (by decide +kernel) rfl jX1 tyX1 tyX1_ok nmX1 (by decide) wi_7 rfl rfl (tyX1_ok 0 (by decide)) rfl rfl (Nat.le_of_ble_eq_true rfl) ?_
  try dsimp only [List.cons_append, List.nil_append, List.append_assoc, List.set_cons_zero, List.set_cons_succ, Nat.reduceAdd]
  exact g_ret (by decide +kernel) rfl rfl rfl ⟨q1, rfl⟩
def mX2_init : Mt := (yX2_init, cX2_init, 1, none)
def poX2 (ar : ClassId × ClassId × ClassId) (h0 : Nat) (_ : Nat → Prop) (ws : va_W) : Prop := ∃ q1 q2 : Nat, ws = [(h0, .inr (2, [.ref q1, .ref q2, .int 0])), (q1, .inl (ar.1, 15, .inl (fun _ => i32 0))), (q2, .inl (ar.1, 15, .inl (fun _ => i32 0)))]
set_option maxRecDepth 100000 in
theorem c_X2_init {l : Launch} {G : va_G} {ar : ClassId × ClassId × ClassId} {a0 : Nat} : GM l G ar a0 1 2 30 mX2_init 2 [.null, .null, .int 0] (poX2 ar) := by
  refine GM.intro (by decide +kernel) rfl (by decide) (fun h0 A => ?_)
  refine g_al (by decide +kernel) ?_
  refine g_oi (ix := 3) (by decide +kernel) wi_8 wi_1 wi_2 (by decide) ?_
  try dsimp only [List.cons_append, List.nil_append, List.append_assoc, List.set_cons_zero, List.set_cons_succ, Nat.reduceAdd]
  refine g_al (by decide +kernel) ?_
  refine g_bi (a := 15) (v := 15) (by decide +kernel) (by decide +kernel) ?_
  refine g_nI (N := 15) (by decide +kernel) wi_3 (by decide) (by decide +kernel) (by decide) (by decide) (by decide) (fun q1 => ?_)
  try dsimp only [List.cons_append, List.nil_append, List.append_assoc, List.set_cons_zero, List.set_cons_succ, Nat.reduceAdd]
  refine g_pF (ix := 9) (ci := 2) (sl := 0) (ty := tyX2 0) (by decide +kernel) rfl jX2 tyX2 tyX2_ok nmX2 (by decide) wi_9 rfl rfl (tyX2_ok 0 (by decide)) rfl rfl (Nat.le_of_ble_eq_true rfl) ?_
  try dsimp only [List.cons_append, List.nil_append, List.append_assoc, List.set_cons_zero, List.set_cons_succ, Nat.reduceAdd]
  refine g_al (by decide +kernel) ?_
  refine g_bi (a := 15) (v := 15) (by decide +kernel) (by decide +kernel) ?_
  refine g_nI (N := 15) (by decide +kernel) wi_3 (by decide) (by decide +kernel) (by decide) (by decide) (by decide) (fun q2 => ?_)
  try dsimp only [List.cons_append, List.nil_append, List.append_assoc, List.set_cons_zero, List.set_cons_succ, Nat.reduceAdd]
  refine g_pF (ix := 15) (ci := 2) (sl := 1) (ty := tyX2 1) (by decide +kernel) rfl jX2 tyX2 tyX2_ok nmX2 (by decide) wi_10 rfl rfl (tyX2_ok 1 (by decide)) rfl rfl (Nat.le_of_ble_eq_true rfl) ?_
  try dsimp only [List.cons_append, List.nil_append, List.append_assoc, List.set_cons_zero, List.set_cons_succ, Nat.reduceAdd]
  exact g_ret (by decide +kernel) rfl rfl rfl ⟨q1, q2, rfl⟩
def mX3_init : Mt := (yX3_init, cX3_init, 1, none)
def poX3 (ar : ClassId × ClassId × ClassId) (h0 : Nat) (_ : Nat → Prop) (ws : va_W) : Prop := ∃ q1 : Nat, ws = [(h0, .inr (3, [.ref q1, .int 0, .int 0])), (q1, .inl (ar.1, 512, .inl (fun _ => i32 0)))]
set_option maxRecDepth 100000 in
theorem c_X3_init {l : Launch} {G : va_G} {ar : ClassId × ClassId × ClassId} {a0 : Nat} : GM l G ar a0 1 1 512 mX3_init 3 [.null, .int 0, .int 0] (poX3 ar) := by
  refine GM.intro (by decide +kernel) rfl (by decide) (fun h0 A => ?_)
  refine g_al (by decide +kernel) ?_
  refine g_oi (ix := 3) (by decide +kernel) wi_11 wi_1 wi_2 (by decide) ?_
  try dsimp only [List.cons_append, List.nil_append, List.append_assoc, List.set_cons_zero, List.set_cons_succ, Nat.reduceAdd]
  refine g_al (by decide +kernel) ?_
  refine g_si (a := 512) (v := 512) (by decide +kernel) (by decide +kernel) ?_
  refine g_nI (N := 512) (by decide +kernel) wi_3 (by decide) (by decide +kernel) (by decide) (by decide) (by decide) (fun q1 => ?_)
  try dsimp only [List.cons_append, List.nil_append, List.append_assoc, List.set_cons_zero, List.set_cons_succ, Nat.reduceAdd]
  refine g_pF (ix := 11) (ci := 3) (sl := 0) (ty := tyX3 0) (by decide +kernel) rfl jX3 tyX3 tyX3_ok nmX3 (by decide) wi_12 rfl rfl (tyX3_ok 0 (by decide)) rfl rfl (Nat.le_of_ble_eq_true rfl) ?_
  try dsimp only [List.cons_append, List.nil_append, List.append_assoc, List.set_cons_zero, List.set_cons_succ, Nat.reduceAdd]
  exact g_ret (by decide +kernel) rfl rfl rfl ⟨q1, rfl⟩
def mX4_init : Mt := (yX4_init, cX4_init, 1, none)
def poX4 (ar : ClassId × ClassId × ClassId) (h0 : Nat) (_ : Nat → Prop) (ws : va_W) : Prop := ∃ q1 q2 : Nat, ws = [(h0, .inr (4, [.ref q1, .ref q2])), (q1, .inl (ar.1, 512, .inl (fun _ => i32 0))), (q2, .inl (ar.1, 7, .inl (fun _ => i32 0)))]
set_option maxRecDepth 100000 in
theorem c_X4_init {l : Launch} {G : va_G} {ar : ClassId × ClassId × ClassId} {a0 : Nat} : GM l G ar a0 1 2 519 mX4_init 4 [.null, .null] (poX4 ar) := by
  refine GM.intro (by decide +kernel) rfl (by decide) (fun h0 A => ?_)
  refine g_al (by decide +kernel) ?_
  refine g_oi (ix := 3) (by decide +kernel) wi_13 wi_1 wi_2 (by decide) ?_
  try dsimp only [List.cons_append, List.nil_append, List.append_assoc, List.set_cons_zero, List.set_cons_succ, Nat.reduceAdd]
  refine g_al (by decide +kernel) ?_
  refine g_si (a := 512) (v := 512) (by decide +kernel) (by decide +kernel) ?_
  refine g_nI (N := 512) (by decide +kernel) wi_3 (by decide) (by decide +kernel) (by decide) (by decide) (by decide) (fun q1 => ?_)
  try dsimp only [List.cons_append, List.nil_append, List.append_assoc, List.set_cons_zero, List.set_cons_succ, Nat.reduceAdd]
  refine g_pF (ix := 11) (ci := 4) (sl := 0) (ty := tyX4 0) (by decide +kernel) rfl jX4 tyX4 tyX4_ok nmX4 (by decide) wi_14 rfl rfl (tyX4_ok 0 (by decide)) rfl rfl (Nat.le_of_ble_eq_true rfl) ?_
  try dsimp only [List.cons_append, List.nil_append, List.append_assoc, List.set_cons_zero, List.set_cons_succ, Nat.reduceAdd]
  refine g_al (by decide +kernel) ?_
  refine g_bi (a := 7) (v := 7) (by decide +kernel) (by decide +kernel) ?_
  refine g_nI (N := 7) (by decide +kernel) wi_3 (by decide) (by decide +kernel) (by decide) (by decide) (by decide) (fun q2 => ?_)
  try dsimp only [List.cons_append, List.nil_append, List.append_assoc, List.set_cons_zero, List.set_cons_succ, Nat.reduceAdd]
  refine g_pF (ix := 15) (ci := 4) (sl := 1) (ty := tyX4 1) (by decide +kernel) rfl jX4 tyX4 tyX4_ok nmX4 (by decide) wi_15 rfl rfl (tyX4_ok 1 (by decide)) rfl rfl (Nat.le_of_ble_eq_true rfl) ?_
  try dsimp only [List.cons_append, List.nil_append, List.append_assoc, List.set_cons_zero, List.set_cons_succ, Nat.reduceAdd]
  exact g_ret (by decide +kernel) rfl rfl rfl ⟨q1, q2, rfl⟩
def mX6_init : Mt := (yX6_init, cX6_init, 1, none)
def poX6 (ar : ClassId × ClassId × ClassId) (h0 : Nat) (_ : Nat → Prop) (ws : va_W) : Prop := ∃ q1 q2 q3 q4 q5 q6 : Nat, ws = [(h0, .inr (6, [.int 0, .int 0, .int 0, .ref q1, .ref q2, .ref q3, .ref q4, .ref q5, .ref q6])), (q1, .inl (ar.1, 7, .inl (fun _ => i32 0))), (q2, .inl (ar.1, 7, .inl (fun _ => i32 0))), (q3, .inl (ar.1, 7, .inl (fun _ => i32 0))), (q4, .inl (ar.1, 7, .inl (fun _ => i32 0))), (q5, .inl (ar.1, 7, .inl (fun _ => i32 0))), (q6, .inl (ar.1, 6, .inl (fun _ => i32 0)))]
set_option maxRecDepth 100000 in
theorem c_X6_init {l : Launch} {G : va_G} {ar : ClassId × ClassId × ClassId} {a0 : Nat} : GM l G ar a0 1 6 41 mX6_init 6 [.int 0, .int 0, .int 0, .null, .null, .null, .null, .null, .null] (poX6 ar) := by
  refine GM.intro (by decide +kernel) rfl (by decide) (fun h0 A => ?_)
  refine g_al (by decide +kernel) ?_
  refine g_oi (ix := 3) (by decide +kernel) wi_16 wi_1 wi_2 (by decide) ?_
  try dsimp only [List.cons_append, List.nil_append, List.append_assoc, List.set_cons_zero, List.set_cons_succ, Nat.reduceAdd]
  refine g_al (by decide +kernel) ?_
  refine g_bi (a := 7) (v := 7) (by decide +kernel) (by decide +kernel) ?_
  refine g_nI (N := 7) (by decide +kernel) wi_3 (by decide) (by decide +kernel) (by decide) (by decide) (by decide) (fun q1 => ?_)
  try dsimp only [List.cons_append, List.nil_append, List.append_assoc, List.set_cons_zero, List.set_cons_succ, Nat.reduceAdd]
  refine g_pF (ix := 9) (ci := 6) (sl := 3) (ty := tyX6 3) (by decide +kernel) rfl jX6 tyX6 tyX6_ok nmX6 (by decide) wi_17 rfl rfl (tyX6_ok 3 (by decide)) rfl rfl (Nat.le_of_ble_eq_true rfl) ?_
  try dsimp only [List.cons_append, List.nil_append, List.append_assoc, List.set_cons_zero, List.set_cons_succ, Nat.reduceAdd]
  refine g_al (by decide +kernel) ?_
  refine g_bi (a := 7) (v := 7) (by decide +kernel) (by decide +kernel) ?_
  refine g_nI (N := 7) (by decide +kernel) wi_3 (by decide) (by decide +kernel) (by decide) (by decide) (by decide) (fun q2 => ?_)
  try dsimp only [List.cons_append, List.nil_append, List.append_assoc, List.set_cons_zero, List.set_cons_succ, Nat.reduceAdd]
  refine g_pF (ix := 15) (ci := 6) (sl := 4) (ty := tyX6 4) (by decide +kernel) rfl jX6 tyX6 tyX6_ok nmX6 (by decide) wi_18 rfl rfl (tyX6_ok 4 (by decide)) rfl rfl (Nat.le_of_ble_eq_true rfl) ?_
  try dsimp only [List.cons_append, List.nil_append, List.append_assoc, List.set_cons_zero, List.set_cons_succ, Nat.reduceAdd]
  refine g_al (by decide +kernel) ?_
  refine g_bi (a := 7) (v := 7) (by decide +kernel) (by decide +kernel) ?_
  refine g_nI (N := 7) (by decide +kernel) wi_3 (by decide) (by decide +kernel) (by decide) (by decide) (by decide) (fun q3 => ?_)
  try dsimp only [List.cons_append, List.nil_append, List.append_assoc, List.set_cons_zero, List.set_cons_succ, Nat.reduceAdd]
  refine g_pF (ix := 18) (ci := 6) (sl := 5) (ty := tyX6 5) (by decide +kernel) rfl jX6 tyX6 tyX6_ok nmX6 (by decide) wi_19 rfl rfl (tyX6_ok 5 (by decide)) rfl rfl (Nat.le_of_ble_eq_true rfl) ?_
  try dsimp only [List.cons_append, List.nil_append, List.append_assoc, List.set_cons_zero, List.set_cons_succ, Nat.reduceAdd]
  refine g_al (by decide +kernel) ?_
  refine g_bi (a := 7) (v := 7) (by decide +kernel) (by decide +kernel) ?_
  refine g_nI (N := 7) (by decide +kernel) wi_3 (by decide) (by decide +kernel) (by decide) (by decide) (by decide) (fun q4 => ?_)
  try dsimp only [List.cons_append, List.nil_append, List.append_assoc, List.set_cons_zero, List.set_cons_succ, Nat.reduceAdd]
  refine g_pF (ix := 21) (ci := 6) (sl := 6) (ty := tyX6 6) (by decide +kernel) rfl jX6 tyX6 tyX6_ok nmX6 (by decide) wi_20 rfl rfl (tyX6_ok 6 (by decide)) rfl rfl (Nat.le_of_ble_eq_true rfl) ?_
  try dsimp only [List.cons_append, List.nil_append, List.append_assoc, List.set_cons_zero, List.set_cons_succ, Nat.reduceAdd]
  refine g_al (by decide +kernel) ?_
  refine g_bi (a := 7) (v := 7) (by decide +kernel) (by decide +kernel) ?_
  refine g_nI (N := 7) (by decide +kernel) wi_3 (by decide) (by decide +kernel) (by decide) (by decide) (by decide) (fun q5 => ?_)
  try dsimp only [List.cons_append, List.nil_append, List.append_assoc, List.set_cons_zero, List.set_cons_succ, Nat.reduceAdd]
  refine g_pF (ix := 24) (ci := 6) (sl := 7) (ty := tyX6 7) (by decide +kernel) rfl jX6 tyX6 tyX6_ok nmX6 (by decide) wi_21 rfl rfl (tyX6_ok 7 (by decide)) rfl rfl (Nat.le_of_ble_eq_true rfl) ?_
  try dsimp only [List.cons_append, List.nil_append, List.append_assoc, List.set_cons_zero, List.set_cons_succ, Nat.reduceAdd]
  refine g_al (by decide +kernel) ?_
  refine g_bi (a := 6) (v := 6) (by decide +kernel) (by decide +kernel) ?_
  refine g_nI (N := 6) (by decide +kernel) wi_3 (by decide) (by decide +kernel) (by decide) (by decide) (by decide) (fun q6 => ?_)
  try dsimp only [List.cons_append, List.nil_append, List.append_assoc, List.set_cons_zero, List.set_cons_succ, Nat.reduceAdd]
  refine g_pF (ix := 27) (ci := 6) (sl := 8) (ty := tyX6 8) (by decide +kernel) rfl jX6 tyX6 tyX6_ok nmX6 (by decide) wi_22 rfl rfl (tyX6_ok 8 (by decide)) rfl rfl (Nat.le_of_ble_eq_true rfl) ?_
  try dsimp only [List.cons_append, List.nil_append, List.append_assoc, List.set_cons_zero, List.set_cons_succ, Nat.reduceAdd]
  exact g_ret (by decide +kernel) rfl rfl rfl ⟨q1, q2, q3, q4, q5, q6, rfl⟩
def mX7_init : Mt := (yX7_init, cX7_init, 1, none)
def poX7 (ar : ClassId × ClassId × ClassId) (h0 : Nat) (_ : Nat → Prop) (ws : va_W) : Prop := ∃ q1 : Nat, ws = [(h0, .inr (7, [.ref q1])), (q1, .inl (ar.1, 32, .inl (fun _ => i32 0)))]
set_option maxRecDepth 100000 in
theorem c_X7_init {l : Launch} {G : va_G} {ar : ClassId × ClassId × ClassId} {a0 : Nat} : GM l G ar a0 1 1 32 mX7_init 7 [.null] (poX7 ar) := by
  refine GM.intro (by decide +kernel) rfl (by decide) (fun h0 A => ?_)
  refine g_al (by decide +kernel) ?_
  refine g_oi (ix := 5) (by decide +kernel) wi_23 wi_1 wi_2 (by decide) ?_
  try dsimp only [List.cons_append, List.nil_append, List.append_assoc, List.set_cons_zero, List.set_cons_succ, Nat.reduceAdd]
  refine g_al (by decide +kernel) ?_
  refine g_bi (a := 32) (v := 32) (by decide +kernel) (by decide +kernel) ?_
  refine g_nI (N := 32) (by decide +kernel) wi_3 (by decide) (by decide +kernel) (by decide) (by decide) (by decide) (fun q1 => ?_)
  try dsimp only [List.cons_append, List.nil_append, List.append_assoc, List.set_cons_zero, List.set_cons_succ, Nat.reduceAdd]
  refine g_pF (ix := 11) (ci := 7) (sl := 0) (ty := tyX7 0) (by decide +kernel) rfl jX7 tyX7 tyX7_ok nmX7 (by decide) wi_24 rfl rfl (tyX7_ok 0 (by decide)) rfl rfl (Nat.le_of_ble_eq_true rfl) ?_
  try dsimp only [List.cons_append, List.nil_append, List.append_assoc, List.set_cons_zero, List.set_cons_succ, Nat.reduceAdd]
  exact g_ret (by decide +kernel) rfl rfl rfl ⟨q1, rfl⟩
def mX8_init : Mt := (yX8_init, cX8_init, 1, none)
def poX8 (ar : ClassId × ClassId × ClassId) (h0 : Nat) (_ : Nat → Prop) (ws : va_W) : Prop := ∃ q1 : Nat, ws = [(h0, .inr (8, [.ref q1, .int 0, .int 0])), (q1, .inl (ar.1, 6, .inl (fun _ => i32 0)))]
set_option maxRecDepth 100000 in
theorem c_X8_init {l : Launch} {G : va_G} {ar : ClassId × ClassId × ClassId} {a0 : Nat} : GM l G ar a0 1 1 6 mX8_init 8 [.null, .int 0, .int 0] (poX8 ar) := by
  refine GM.intro (by decide +kernel) rfl (by decide) (fun h0 A => ?_)
  refine g_al (by decide +kernel) ?_
  refine g_oi (ix := 3) (by decide +kernel) wi_25 wi_1 wi_2 (by decide) ?_
  try dsimp only [List.cons_append, List.nil_append, List.append_assoc, List.set_cons_zero, List.set_cons_succ, Nat.reduceAdd]
  refine g_al (by decide +kernel) ?_
  refine g_bi (a := 6) (v := 6) (by decide +kernel) (by decide +kernel) ?_
  refine g_nI (N := 6) (by decide +kernel) wi_3 (by decide) (by decide +kernel) (by decide) (by decide) (by decide) (fun q1 => ?_)
  try dsimp only [List.cons_append, List.nil_append, List.append_assoc, List.set_cons_zero, List.set_cons_succ, Nat.reduceAdd]
  refine g_pF (ix := 9) (ci := 8) (sl := 0) (ty := tyX8 0) (by decide +kernel) rfl jX8 tyX8 tyX8_ok nmX8 (by decide) wi_26 rfl rfl (tyX8_ok 0 (by decide)) rfl rfl (Nat.le_of_ble_eq_true rfl) ?_
  try dsimp only [List.cons_append, List.nil_append, List.append_assoc, List.set_cons_zero, List.set_cons_succ, Nat.reduceAdd]
  exact g_ret (by decide +kernel) rfl rfl rfl ⟨q1, rfl⟩
def mX5_init : Mt := (yX5_init, cX5_init, 1, none)
def poX5 (ar : ClassId × ClassId × ClassId) (h0 : Nat) (_ : Nat → Prop) (ws : va_W) : Prop := ∃ q1 q2 q3 q4 q5 q6 q7 q8 : Nat, ws = [(h0, .inr (5, [.ref q1, .ref q8, .int 0, .int (-1), .int 0, .int 0, .int 0, .int 0])), (q1, .inr (6, [.int 0, .int 0, .int 0, .ref q2, .ref q3, .ref q4, .ref q5, .ref q6, .ref q7])), (q2, .inl (ar.1, 7, .inl (fun _ => i32 0))), (q3, .inl (ar.1, 7, .inl (fun _ => i32 0))), (q4, .inl (ar.1, 7, .inl (fun _ => i32 0))), (q5, .inl (ar.1, 7, .inl (fun _ => i32 0))), (q6, .inl (ar.1, 7, .inl (fun _ => i32 0))), (q7, .inl (ar.1, 6, .inl (fun _ => i32 0))), (q8, .inl (ar.1, 240, .inl (fun _ => i32 0)))]
set_option maxRecDepth 100000 in
theorem c_X5_init {l : Launch} {G : va_G} {ar : ClassId × ClassId × ClassId} {a0 : Nat} : GM l G ar a0 2 8 290 mX5_init 5 [.null, .null, .int 0, .int 0, .int 0, .int 0, .int 0, .int 0] (poX5 ar) := by
  refine GM.intro (by decide +kernel) rfl (by decide) (fun h0 A => ?_)
  refine g_al (by decide +kernel) ?_
  refine g_oi (ix := 3) (by decide +kernel) wi_27 wi_1 wi_2 (by decide) ?_
  try dsimp only [List.cons_append, List.nil_append, List.append_assoc, List.set_cons_zero, List.set_cons_succ, Nat.reduceAdd]
  refine g_al (by decide +kernel) ?_
  refine g_new (ix := 9) (ci := 6) (fs := [.int 0, .int 0, .int 0, .null, .null, .null, .null, .null, .null]) (by decide +kernel) rfl jX6 tyX6 tyX6_ok wi_28 wi_29 wi_30 (fun j hj => by rcases (show j = 0 ∨ j = 1 ∨ j = 2 ∨ j = 3 ∨ j = 4 ∨ j = 5 ∨ j = 6 ∨ j = 7 ∨ j = 8 by omega) with rfl | rfl | rfl | rfl | rfl | rfl | rfl | rfl | rfl <;> rfl) (by decide) (by decide) (fun q1 => ?_)
  refine g_dup (by decide +kernel) ?_
  refine g_call (ix := 11) (by decide +kernel) wi_31 wi_30 wi_32 rfl (by decide +kernel) (by decide +kernel) (by decide) (by decide) (by decide) (by decide) (Nat.le_of_ble_eq_true rfl) c_X6_init (fun B w1 hw => ?_)
  obtain ⟨q2, q3, q4, q5, q6, q7, rfl⟩ := hw
  try dsimp only [List.cons_append, List.nil_append, List.append_assoc, List.set_cons_zero, List.set_cons_succ, Nat.reduceAdd]
  refine g_pF (ix := 12) (ci := 5) (sl := 0) (ty := tyX5 0) (by decide +kernel) rfl jX5 tyX5 tyX5_ok nmX5 (by decide) wi_33 rfl rfl (tyX5_ok 0 (by decide)) rfl rfl (Nat.le_of_ble_eq_true rfl) ?_
  try dsimp only [List.cons_append, List.nil_append, List.append_assoc, List.set_cons_zero, List.set_cons_succ, Nat.reduceAdd]
  refine g_al (by decide +kernel) ?_
  refine g_si (a := 240) (v := 240) (by decide +kernel) (by decide +kernel) ?_
  refine g_nI (N := 240) (by decide +kernel) wi_3 (by decide) (by decide +kernel) (by decide) (by decide) (by decide) (fun q8 => ?_)
  try dsimp only [List.cons_append, List.nil_append, List.append_assoc, List.set_cons_zero, List.set_cons_succ, Nat.reduceAdd]
  refine g_pF (ix := 18) (ci := 5) (sl := 1) (ty := tyX5 1) (by decide +kernel) rfl jX5 tyX5 tyX5_ok nmX5 (by decide) wi_34 rfl rfl (tyX5_ok 1 (by decide)) rfl rfl (Nat.le_of_ble_eq_true rfl) ?_
  try dsimp only [List.cons_append, List.nil_append, List.append_assoc, List.set_cons_zero, List.set_cons_succ, Nat.reduceAdd]
  refine g_al (by decide +kernel) ?_
  refine g_ic (a := (-1)) (v := (-1)) (by decide +kernel) (by decide +kernel) ?_
  refine g_p (ix := 22) (ci := 5) (sl := 3) (ty := tyX5 3) (by decide +kernel) rfl jX5 tyX5 tyX5_ok nmX5 (by decide) wi_35 rfl (tyX5_ok 3 (by decide)) rfl rfl (Nat.le_of_ble_eq_true rfl) ?_
  try dsimp only [List.cons_append, List.nil_append, List.append_assoc, List.set_cons_zero, List.set_cons_succ, Nat.reduceAdd]
  exact g_ret (by decide +kernel) rfl rfl rfl ⟨q1, q2, q3, q4, q5, q6, q7, q8, rfl⟩
