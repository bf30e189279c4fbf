/-! THE OPERATIONS: for each kind of instruction what must hold ahead of it so that 'k' holds behind it, and the row that says so of the machine -/
def iand (x y : Int) : Int := (i32 x &&& i32 y).toInt
def ior (x y : Int) : Int := (i32 x ||| i32 y).toInt
def ixor (x y : Int) : Int := (i32 x ^^^ i32 y).toInt
def ishl (x y : Int) : Int := (i32 x <<< (i32 y &&& 31)).toInt
def ishr (x y : Int) : Int := (i32 x >>> (i32 y &&& 31)).toInt
def iushr (x y : Int) : Int := ((i32 x).toUInt32 >>> ((i32 y).toUInt32 &&& Int32.toUInt32 31)).toInt32.toInt
def lland (x y : Int) : Int := (i64 x &&& i64 y).toInt
def llor (x y : Int) : Int := (i64 x ||| i64 y).toInt
def llshl (x y : Int) : Int := (i64 x <<< ((i32 y).toInt64 &&& 63)).toInt
theorem i32_div {x y : Int} (hx : -2147483648 ≤ x ∧ x ≤ 2147483647) (hy : -2147483648 ≤ y ∧ y ≤ 2147483647) : i32 x / i32 y = i32 (x.tdiv y) := by
  apply Int32.toInt_inj.mp
  rw [Int32.toInt_div, i32_toInt hx.1 hx.2, i32_toInt hy.1 hy.2]
  unfold i32
  rw [Int32.toInt_ofInt]
theorem i64_div {x y : Int} (hx : -9223372036854775808 ≤ x ∧ x ≤ 9223372036854775807) (hy : -9223372036854775808 ≤ y ∧ y ≤ 9223372036854775807) : i64 x / i64 y = i64 (x.tdiv y) := by
  apply Int64.toInt_inj.mp
  rw [Int64.toInt_div, i64_toInt hx.1 hx.2, i64_toInt hy.1 hy.2]
  unfold i64
  rw [Int64.toInt_ofInt]
theorem i32_rem {x y : Int} (hx : -2147483648 ≤ x ∧ x ≤ 2147483647) (hy : -2147483648 ≤ y ∧ y ≤ 2147483647) : i32 x - i32 x / i32 y * i32 y = i32 (x.tmod y) := by
  rw [i32_div hx hy, ← i32_mul, ← i32_sub]
  congr 1
  have := Int.mul_tdiv_add_tmod x y
  rw [Int.mul_comm] at this
  omega
theorem i64_rem {x y : Int} (hx : -9223372036854775808 ≤ x ∧ x ≤ 9223372036854775807) (hy : -9223372036854775808 ≤ y ∧ y ≤ 9223372036854775807) : i64 x - i64 x / i64 y * i64 y = i64 (x.tmod y) := by
  rw [i64_div hx hy, ← i64_mul, ← i64_sub]
  congr 1
  have := Int.mul_tdiv_add_tmod x y
  rw [Int.mul_comm] at this
  omega
theorem i32_lt {x y : Int} (hx : -2147483648 ≤ x ∧ x ≤ 2147483647) (hy : -2147483648 ≤ y ∧ y ≤ 2147483647) : i32 x < i32 y ↔ x < y := by
  rw [Int32.lt_iff_toInt_lt, i32_toInt hx.1 hx.2, i32_toInt hy.1 hy.2]
theorem i32_le {x y : Int} (hx : -2147483648 ≤ x ∧ x ≤ 2147483647) (hy : -2147483648 ≤ y ∧ y ≤ 2147483647) : i32 x ≤ i32 y ↔ x ≤ y := by
  rw [Int32.le_iff_toInt_le, i32_toInt hx.1 hx.2, i32_toInt hy.1 hy.2]
theorem i32_eq {x y : Int} (hx : -2147483648 ≤ x ∧ x ≤ 2147483647) (hy : -2147483648 ≤ y ∧ y ≤ 2147483647) : i32 x = i32 y ↔ x = y := by
  rw [← Int32.toInt_inj, i32_toInt hx.1 hx.2, i32_toInt hy.1 hy.2]
theorem i64_lt {x y : Int} (hx : -9223372036854775808 ≤ x ∧ x ≤ 9223372036854775807) (hy : -9223372036854775808 ≤ y ∧ y ≤ 9223372036854775807) : i64 x < i64 y ↔ x < y := by
  rw [Int64.lt_iff_toInt_lt, i64_toInt hx.1 hx.2, i64_toInt hy.1 hy.2]
theorem i64_eq {x y : Int} (hx : -9223372036854775808 ≤ x ∧ x ≤ 9223372036854775807) (hy : -9223372036854775808 ≤ y ∧ y ≤ 9223372036854775807) : i64 x = i64 y ↔ x = y := by
  rw [← Int64.toInt_inj, i64_toInt hx.1 hx.2, i64_toInt hy.1 hy.2]
theorem i32_0 : i32 0 = 0 := by decide +kernel
theorem i64_0 : i64 0 = 0 := by decide +kernel
theorem i32_in {i : Int} {n : Nat} (h0 : 0 ≤ i) (h1 : i < n) (hn : n < 2147483648) : vp_in (i32 i) n ∧ (i32 i).toNatClampNeg = i.toNat := by
  have e := i32_toInt (x := i) (by omega) (by omega)
  refine ⟨vp_in_iff.mpr (by rw [e]; exact ⟨h0, h1⟩), ?_⟩
  show (i32 i).toInt.toNat = i.toNat
  rw [e]
theorem mt_ {a b : Prop} (h : a ↔ b) (n : ¬ a) : ¬ b := fun z => n (h.mpr z)
section OPS
variable {l : Launch} {X : Cx} {sh : List Sh} {n : Nat} {mt : Mt} {Q : Qt} {pc : Nat} {k : Kt}
def o_add (k : Kt) : Kt := fun lv st M => match st with
  | .inl y :: .inl x :: r => k lv (vI (x + y) :: r) M
  | _ => False
theorem rt_add (d : decode mt.2.1 pc = .ok (.iadd, 1)) (h : ∀ lv st M, k lv st M → Tf l X sh n mt Q (pc + 1) lv st M) : ∀ lv st M, o_add k lv st M → Tf l X sh n mt Q pc lv st M := by
  intro lv st M hk
  match st, hk with
  | .inl y :: .inl x :: r, hk =>
    intro p e s m args below meth c hF H locs ls hW hL
    have w := h lv _ M hk p e s m args below meth c hF H locs ls hW hL
    rw [List.map_cons] at w
    rw [show tr X.2.1 (vI (x + y)) = Value.int _ from congrArg Value.int (i32_add x y)] at w
    exact lv_iadd hF.1 hF.2.1 d w
def o_sub (k : Kt) : Kt := fun lv st M => match st with
  | .inl y :: .inl x :: r => k lv (vI (x - y) :: r) M
  | _ => False
theorem rt_sub (d : decode mt.2.1 pc = .ok (.isub, 1)) (h : ∀ lv st M, k lv st M → Tf l X sh n mt Q (pc + 1) lv st M) : ∀ lv st M, o_sub k lv st M → Tf l X sh n mt Q pc lv st M := by
  intro lv st M hk
  match st, hk with
  | .inl y :: .inl x :: r, hk =>
    intro p e s m args below meth c hF H locs ls hW hL
    have w := h lv _ M hk p e s m args below meth c hF H locs ls hW hL
    rw [List.map_cons] at w
    rw [show tr X.2.1 (vI (x - y)) = Value.int _ from congrArg Value.int (i32_sub x y)] at w
    exact lv_isub hF.1 hF.2.1 d w
def o_mul (k : Kt) : Kt := fun lv st M => match st with
  | .inl y :: .inl x :: r => k lv (vI (x * y) :: r) M
  | _ => False
theorem rt_mul (d : decode mt.2.1 pc = .ok (.imul, 1)) (h : ∀ lv st M, k lv st M → Tf l X sh n mt Q (pc + 1) lv st M) : ∀ lv st M, o_mul k lv st M → Tf l X sh n mt Q pc lv st M := by
  intro lv st M hk
  match st, hk with
  | .inl y :: .inl x :: r, hk =>
    intro p e s m args below meth c hF H locs ls hW hL
    have w := h lv _ M hk p e s m args below meth c hF H locs ls hW hL
    rw [List.map_cons] at w
    rw [show tr X.2.1 (vI (x * y)) = Value.int _ from congrArg Value.int (i32_mul x y)] at w
    exact lv_imul hF.1 hF.2.1 d w
def o_and (k : Kt) : Kt := fun lv st M => match st with
  | .inl y :: .inl x :: r => k lv (vI (iand x y) :: r) M
  | _ => False
theorem rt_and (d : decode mt.2.1 pc = .ok (.iand, 1)) (h : ∀ lv st M, k lv st M → Tf l X sh n mt Q (pc + 1) lv st M) : ∀ lv st M, o_and k lv st M → Tf l X sh n mt Q pc lv st M := by
  intro lv st M hk
  match st, hk with
  | .inl y :: .inl x :: r, hk =>
    intro p e s m args below meth c hF H locs ls hW hL
    have w := h lv _ M hk p e s m args below meth c hF H locs ls hW hL
    rw [List.map_cons] at w
    rw [show tr X.2.1 (vI (iand x y)) = Value.int _ from congrArg Value.int (i32_of _)] at w
    exact lv_iand hF.1 hF.2.1 d w
def o_or (k : Kt) : Kt := fun lv st M => match st with
  | .inl y :: .inl x :: r => k lv (vI (ior x y) :: r) M
  | _ => False
theorem rt_or (d : decode mt.2.1 pc = .ok (.ior, 1)) (h : ∀ lv st M, k lv st M → Tf l X sh n mt Q (pc + 1) lv st M) : ∀ lv st M, o_or k lv st M → Tf l X sh n mt Q pc lv st M := by
  intro lv st M hk
  match st, hk with
  | .inl y :: .inl x :: r, hk =>
    intro p e s m args below meth c hF H locs ls hW hL
    have w := h lv _ M hk p e s m args below meth c hF H locs ls hW hL
    rw [List.map_cons] at w
    rw [show tr X.2.1 (vI (ior x y)) = Value.int _ from congrArg Value.int (i32_of _)] at w
    exact lv_ior hF.1 hF.2.1 d w
def o_xor (k : Kt) : Kt := fun lv st M => match st with
  | .inl y :: .inl x :: r => k lv (vI (ixor x y) :: r) M
  | _ => False
theorem rt_xor (d : decode mt.2.1 pc = .ok (.ixor, 1)) (h : ∀ lv st M, k lv st M → Tf l X sh n mt Q (pc + 1) lv st M) : ∀ lv st M, o_xor k lv st M → Tf l X sh n mt Q pc lv st M := by
  intro lv st M hk
  match st, hk with
  | .inl y :: .inl x :: r, hk =>
    intro p e s m args below meth c hF H locs ls hW hL
    have w := h lv _ M hk p e s m args below meth c hF H locs ls hW hL
    rw [List.map_cons] at w
    rw [show tr X.2.1 (vI (ixor x y)) = Value.int _ from congrArg Value.int (i32_of _)] at w
    exact lv_ixor hF.1 hF.2.1 d w
def o_shl (k : Kt) : Kt := fun lv st M => match st with
  | .inl y :: .inl x :: r => k lv (vI (ishl x y) :: r) M
  | _ => False
theorem rt_shl (d : decode mt.2.1 pc = .ok (.ishl, 1)) (h : ∀ lv st M, k lv st M → Tf l X sh n mt Q (pc + 1) lv st M) : ∀ lv st M, o_shl k lv st M → Tf l X sh n mt Q pc lv st M := by
  intro lv st M hk
  match st, hk with
  | .inl y :: .inl x :: r, hk =>
    intro p e s m args below meth c hF H locs ls hW hL
    have w := h lv _ M hk p e s m args below meth c hF H locs ls hW hL
    rw [List.map_cons] at w
    rw [show tr X.2.1 (vI (ishl x y)) = Value.int _ from congrArg Value.int (i32_of _)] at w
    exact lv_ishl hF.1 hF.2.1 d w
def o_shr (k : Kt) : Kt := fun lv st M => match st with
  | .inl y :: .inl x :: r => k lv (vI (ishr x y) :: r) M
  | _ => False
theorem rt_shr (d : decode mt.2.1 pc = .ok (.ishr, 1)) (h : ∀ lv st M, k lv st M → Tf l X sh n mt Q (pc + 1) lv st M) : ∀ lv st M, o_shr k lv st M → Tf l X sh n mt Q pc lv st M := by
  intro lv st M hk
  match st, hk with
  | .inl y :: .inl x :: r, hk =>
    intro p e s m args below meth c hF H locs ls hW hL
    have w := h lv _ M hk p e s m args below meth c hF H locs ls hW hL
    rw [List.map_cons] at w
    rw [show tr X.2.1 (vI (ishr x y)) = Value.int _ from congrArg Value.int (i32_of _)] at w
    exact lv_ishr hF.1 hF.2.1 d w
def o_ushr (k : Kt) : Kt := fun lv st M => match st with
  | .inl y :: .inl x :: r => k lv (vI (iushr x y) :: r) M
  | _ => False
theorem rt_ushr (d : decode mt.2.1 pc = .ok (.iushr, 1)) (h : ∀ lv st M, k lv st M → Tf l X sh n mt Q (pc + 1) lv st M) : ∀ lv st M, o_ushr k lv st M → Tf l X sh n mt Q pc lv st M := by
  intro lv st M hk
  match st, hk with
  | .inl y :: .inl x :: r, hk =>
    intro p e s m args below meth c hF H locs ls hW hL
    have w := h lv _ M hk p e s m args below meth c hF H locs ls hW hL
    rw [List.map_cons] at w
    exact lv_iushr hF.1 hF.2.1 d (i32_of _).symm w
def o_div (k : Kt) : Kt := fun lv st M => match st with
  | .inl y :: .inl x :: r => (-2147483648 ≤ x ∧ x ≤ 2147483647) ∧ (-2147483648 ≤ y ∧ y ≤ 2147483647) ∧ y ≠ 0 ∧ k lv (vI (x.tdiv y) :: r) M
  | _ => False
theorem rt_div (d : decode mt.2.1 pc = .ok (.idiv, 1)) (h : ∀ lv st M, k lv st M → Tf l X sh n mt Q (pc + 1) lv st M) : ∀ lv st M, o_div k lv st M → Tf l X sh n mt Q pc lv st M := by
  intro lv st M hk
  match st, hk with
  | .inl y :: .inl x :: r, ⟨hx, hy, h0, hk⟩ =>
    intro p e s m args below meth c hF H locs ls hW hL
    have w := h lv _ M hk p e s m args below meth c hF H locs ls hW hL
    rw [List.map_cons, show tr X.2.1 (vI (x.tdiv y)) = Value.int _ from congrArg Value.int (i32_div hx hy).symm] at w
    exact lv_idiv hF.1 hF.2.1 d (fun z => h0 ((i32_eq hy ⟨by decide, by decide⟩).mp (z.trans i32_0.symm))) w
def o_rem (k : Kt) : Kt := fun lv st M => match st with
  | .inl y :: .inl x :: r => (-2147483648 ≤ x ∧ x ≤ 2147483647) ∧ (-2147483648 ≤ y ∧ y ≤ 2147483647) ∧ y ≠ 0 ∧ k lv (vI (x.tmod y) :: r) M
  | _ => False
theorem rt_rem (d : decode mt.2.1 pc = .ok (.irem, 1)) (h : ∀ lv st M, k lv st M → Tf l X sh n mt Q (pc + 1) lv st M) : ∀ lv st M, o_rem k lv st M → Tf l X sh n mt Q pc lv st M := by
  intro lv st M hk
  match st, hk with
  | .inl y :: .inl x :: r, ⟨hx, hy, h0, hk⟩ =>
    intro p e s m args below meth c hF H locs ls hW hL
    have w := h lv _ M hk p e s m args below meth c hF H locs ls hW hL
    rw [List.map_cons, show tr X.2.1 (vI (x.tmod y)) = Value.int _ from congrArg Value.int (i32_rem hx hy).symm] at w
    exact lv_irem hF.1 hF.2.1 d (fun z => h0 ((i32_eq hy ⟨by decide, by decide⟩).mp (z.trans i32_0.symm))) w
def o_ladd (k : Kt) : Kt := fun lv st M => match st with
  | .inr (.inl y) :: .inr (.inl x) :: r => k lv (vL (x + y) :: r) M
  | _ => False
theorem rt_ladd (d : decode mt.2.1 pc = .ok (.ladd, 1)) (h : ∀ lv st M, k lv st M → Tf l X sh n mt Q (pc + 1) lv st M) : ∀ lv st M, o_ladd k lv st M → Tf l X sh n mt Q pc lv st M := by
  intro lv st M hk
  match st, hk with
  | .inr (.inl y) :: .inr (.inl x) :: r, hk =>
    intro p e s m args below meth c hF H locs ls hW hL
    have w := h lv _ M hk p e s m args below meth c hF H locs ls hW hL
    rw [List.map_cons, show tr X.2.1 (vL (x + y)) = Value.long _ from congrArg Value.long (i64_add x y)] at w
    exact lv_ladd hF.1 hF.2.1 d w
def o_lmul (k : Kt) : Kt := fun lv st M => match st with
  | .inr (.inl y) :: .inr (.inl x) :: r => k lv (vL (x * y) :: r) M
  | _ => False
theorem rt_lmul (d : decode mt.2.1 pc = .ok (.lmul, 1)) (h : ∀ lv st M, k lv st M → Tf l X sh n mt Q (pc + 1) lv st M) : ∀ lv st M, o_lmul k lv st M → Tf l X sh n mt Q pc lv st M := by
  intro lv st M hk
  match st, hk with
  | .inr (.inl y) :: .inr (.inl x) :: r, hk =>
    intro p e s m args below meth c hF H locs ls hW hL
    have w := h lv _ M hk p e s m args below meth c hF H locs ls hW hL
    rw [List.map_cons, show tr X.2.1 (vL (x * y)) = Value.long _ from congrArg Value.long (i64_mul x y)] at w
    exact lv_lmul hF.1 hF.2.1 d w
def o_land (k : Kt) : Kt := fun lv st M => match st with
  | .inr (.inl y) :: .inr (.inl x) :: r => k lv (vL (lland x y) :: r) M
  | _ => False
theorem rt_land (d : decode mt.2.1 pc = .ok (.land, 1)) (h : ∀ lv st M, k lv st M → Tf l X sh n mt Q (pc + 1) lv st M) : ∀ lv st M, o_land k lv st M → Tf l X sh n mt Q pc lv st M := by
  intro lv st M hk
  match st, hk with
  | .inr (.inl y) :: .inr (.inl x) :: r, hk =>
    intro p e s m args below meth c hF H locs ls hW hL
    have w := h lv _ M hk p e s m args below meth c hF H locs ls hW hL
    rw [List.map_cons, show tr X.2.1 (vL (lland x y)) = Value.long _ from congrArg Value.long (i64_of _)] at w
    exact lv_land hF.1 hF.2.1 d w
def o_lor (k : Kt) : Kt := fun lv st M => match st with
  | .inr (.inl y) :: .inr (.inl x) :: r => k lv (vL (llor x y) :: r) M
  | _ => False
theorem rt_lor (d : decode mt.2.1 pc = .ok (.lor, 1)) (h : ∀ lv st M, k lv st M → Tf l X sh n mt Q (pc + 1) lv st M) : ∀ lv st M, o_lor k lv st M → Tf l X sh n mt Q pc lv st M := by
  intro lv st M hk
  match st, hk with
  | .inr (.inl y) :: .inr (.inl x) :: r, hk =>
    intro p e s m args below meth c hF H locs ls hW hL
    have w := h lv _ M hk p e s m args below meth c hF H locs ls hW hL
    rw [List.map_cons, show tr X.2.1 (vL (llor x y)) = Value.long _ from congrArg Value.long (i64_of _)] at w
    exact lv_lor hF.1 hF.2.1 d w
def o_ldiv (k : Kt) : Kt := fun lv st M => match st with
  | .inr (.inl y) :: .inr (.inl x) :: r => (-9223372036854775808 ≤ x ∧ x ≤ 9223372036854775807) ∧ (-9223372036854775808 ≤ y ∧ y ≤ 9223372036854775807) ∧ y ≠ 0 ∧ k lv (vL (x.tdiv y) :: r) M
  | _ => False
theorem rt_ldiv (d : decode mt.2.1 pc = .ok (.ldiv, 1)) (h : ∀ lv st M, k lv st M → Tf l X sh n mt Q (pc + 1) lv st M) : ∀ lv st M, o_ldiv k lv st M → Tf l X sh n mt Q pc lv st M := by
  intro lv st M hk
  match st, hk with
  | .inr (.inl y) :: .inr (.inl x) :: r, ⟨hx, hy, h0, hk⟩ =>
    intro p e s m args below meth c hF H locs ls hW hL
    have w := h lv _ M hk p e s m args below meth c hF H locs ls hW hL
    rw [List.map_cons, show tr X.2.1 (vL (x.tdiv y)) = Value.long _ from congrArg Value.long (i64_div hx hy).symm] at w
    exact lv_ldiv hF.1 hF.2.1 d (fun z => h0 ((i64_eq hy ⟨by decide, by decide⟩).mp (z.trans i64_0.symm))) w
def o_lrem (k : Kt) : Kt := fun lv st M => match st with
  | .inr (.inl y) :: .inr (.inl x) :: r => (-9223372036854775808 ≤ x ∧ x ≤ 9223372036854775807) ∧ (-9223372036854775808 ≤ y ∧ y ≤ 9223372036854775807) ∧ y ≠ 0 ∧ k lv (vL (x.tmod y) :: r) M
  | _ => False
theorem rt_lrem (d : decode mt.2.1 pc = .ok (.lrem, 1)) (h : ∀ lv st M, k lv st M → Tf l X sh n mt Q (pc + 1) lv st M) : ∀ lv st M, o_lrem k lv st M → Tf l X sh n mt Q pc lv st M := by
  intro lv st M hk
  match st, hk with
  | .inr (.inl y) :: .inr (.inl x) :: r, ⟨hx, hy, h0, hk⟩ =>
    intro p e s m args below meth c hF H locs ls hW hL
    have w := h lv _ M hk p e s m args below meth c hF H locs ls hW hL
    rw [List.map_cons, show tr X.2.1 (vL (x.tmod y)) = Value.long _ from congrArg Value.long (i64_rem hx hy).symm] at w
    exact lv_lrem hF.1 hF.2.1 d (fun z => h0 ((i64_eq hy ⟨by decide, by decide⟩).mp (z.trans i64_0.symm))) w
def o_lshl (k : Kt) : Kt := fun lv st M => match st with
  | .inl y :: .inr (.inl x) :: r => k lv (vL (llshl x y) :: r) M
  | _ => False
theorem rt_lshl (d : decode mt.2.1 pc = .ok (.lshl, 1)) (h : ∀ lv st M, k lv st M → Tf l X sh n mt Q (pc + 1) lv st M) : ∀ lv st M, o_lshl k lv st M → Tf l X sh n mt Q pc lv st M := by
  intro lv st M hk
  match st, hk with
  | .inl y :: .inr (.inl x) :: r, hk =>
    intro p e s m args below meth c hF H locs ls hW hL
    have w := h lv _ M hk p e s m args below meth c hF H locs ls hW hL
    rw [List.map_cons] at w
    exact lv_lshl hF.1 hF.2.1 d (i64_of _).symm w
def o_i2l (k : Kt) : Kt := fun lv st M => match st with
  | .inl x :: r => (-2147483648 ≤ x ∧ x ≤ 2147483647) ∧ k lv (vL x :: r) M
  | _ => False
theorem rt_i2l (d : decode mt.2.1 pc = .ok (.i2l, 1)) (h : ∀ lv st M, k lv st M → Tf l X sh n mt Q (pc + 1) lv st M) : ∀ lv st M, o_i2l k lv st M → Tf l X sh n mt Q pc lv st M := by
  intro lv st M hk
  match st, hk with
  | .inl x :: r, ⟨hx, hk⟩ =>
    intro p e s m args below meth c hF H locs ls hW hL
    have w := h lv _ M hk p e s m args below meth c hF H locs ls hW hL
    rw [List.map_cons] at w
    refine lv_i2l hF.1 hF.2.1 d ?_ w
    apply Int64.toInt_inj.mp
    rw [Int32.toInt_toInt64, i32_toInt hx.1 hx.2, i64_toInt (by omega) (by omega)]
def o_l2i (k : Kt) : Kt := fun lv st M => match st with
  | .inr (.inl x) :: r => k lv (vI x :: r) M
  | _ => False
theorem rt_l2i (d : decode mt.2.1 pc = .ok (.l2i, 1)) (h : ∀ lv st M, k lv st M → Tf l X sh n mt Q (pc + 1) lv st M) : ∀ lv st M, o_l2i k lv st M → Tf l X sh n mt Q pc lv st M := by
  intro lv st M hk
  match st, hk with
  | .inr (.inl x) :: r, hk =>
    intro p e s m args below meth c hF H locs ls hW hL
    have w := h lv _ M hk p e s m args below meth c hF H locs ls hW hL
    rw [List.map_cons] at w
    refine lv_l2i hF.1 hF.2.1 d ?_ w
    exact Int64.toInt32_ofInt
def o_lcmp (k : Kt) : Kt := fun lv st M => match st with
  | .inr (.inl y) :: .inr (.inl x) :: r => (-9223372036854775808 ≤ x ∧ x ≤ 9223372036854775807) ∧ (-9223372036854775808 ≤ y ∧ y ≤ 9223372036854775807) ∧ (x < y → k lv (vI (-1) :: r) M) ∧ (x = y → k lv (vI 0 :: r) M) ∧ (y < x → k lv (vI 1 :: r) M)
  | _ => False
theorem rt_lcmp (d : decode mt.2.1 pc = .ok (.lcmp, 1)) (h : ∀ lv st M, k lv st M → Tf l X sh n mt Q (pc + 1) lv st M) : ∀ lv st M, o_lcmp k lv st M → Tf l X sh n mt Q pc lv st M := by
  intro lv st M hk
  match st, hk with
  | .inr (.inl y) :: .inr (.inl x) :: r, ⟨hx, hy, k1, k2, k3⟩ =>
    intro p e s m args below meth c hF H locs ls hW hL
    have cmp : ∀ z : Int, lg_cmp (i64 x) (i64 y) = i32 z → Tf l X sh n mt Q (pc + 1) lv (vI z :: r) M → W p l e (rml n) s m args below meth c H locs 0 0 (MQ below (Qm X sh Q) args s 0 0 X.2.2.2) (F0 m pc ls (List.map (tr X.2.1) (.inr (.inl y) :: .inr (.inl x) :: r))) := by
      intro z hz w
      have w := w p e s m args below meth c hF H locs ls hW hL
      rw [List.map_cons, show tr X.2.1 (vI z) = Value.int _ from congrArg Value.int hz.symm] at w
      exact W.lcmp hF.1 hF.2.1 d w
    have e1 := i64_lt hy hx
    have e2 := i64_eq hx hy
    rcases Int.lt_trichotomy x y with q | q | q
    · have n1 : ¬ i64 x > i64 y := fun z => absurd (e1.mp z) (by omega)
      have n2 : ¬ i64 x = i64 y := fun z => absurd (e2.mp z) (by omega)
      exact cmp (-1) (by unfold lg_cmp; rw [if_neg n1, if_neg n2]; decide) (h _ _ _ (k1 q))
    · have n1 : ¬ i64 x > i64 y := fun z => absurd (e1.mp z) (by omega)
      exact cmp 0 (by unfold lg_cmp; rw [if_neg n1, if_pos (e2.mpr q)]; decide) (h _ _ _ (k2 q))
    · exact cmp 1 (by unfold lg_cmp; rw [if_pos (e1.mpr q)]; decide) (h _ _ _ (k3 q))
def o_ic (z : Int) (k : Kt) : Kt := fun lv st M => k lv (vI z :: st) M
def o_lc (z : Int) (k : Kt) : Kt := fun lv st M => k lv (vL z :: st) M
theorem rt_iconst {a z : Int} (d : decode mt.2.1 pc = .ok (.iconst a, 1)) (hz : Int32.ofInt a = i32 z) (h : ∀ lv st M, k lv st M → Tf l X sh n mt Q (pc + 1) lv st M) : ∀ lv st M, o_ic z k lv st M → Tf l X sh n mt Q pc lv st M := by
  intro lv st M hk p e s m args below meth c hF H locs ls hW hL
  have w := h lv _ M hk p e s m args below meth c hF H locs ls hW hL
  rw [List.map_cons] at w
  exact lv_iconst hF.1 hF.2.1 d hz w
theorem rt_bipush {a z : Int} (d : decode mt.2.1 pc = .ok (.bipush a, 2)) (hz : (Int8.ofInt a).toInt32 = i32 z) (h : ∀ lv st M, k lv st M → Tf l X sh n mt Q (pc + 2) lv st M) : ∀ lv st M, o_ic z k lv st M → Tf l X sh n mt Q pc lv st M := by
  intro lv st M hk p e s m args below meth c hF H locs ls hW hL
  have w := h lv _ M hk p e s m args below meth c hF H locs ls hW hL
  rw [List.map_cons] at w
  exact lv_bipush hF.1 hF.2.1 d hz w
theorem rt_sipush {a z : Int} (d : decode mt.2.1 pc = .ok (.sipush a, 3)) (hz : (Int16.ofInt a).toInt32 = i32 z) (h : ∀ lv st M, k lv st M → Tf l X sh n mt Q (pc + 3) lv st M) : ∀ lv st M, o_ic z k lv st M → Tf l X sh n mt Q pc lv st M := by
  intro lv st M hk p e s m args below meth c hF H locs ls hW hL
  have w := h lv _ M hk p e s m args below meth c hF H locs ls hW hL
  rw [List.map_cons] at w
  exact lv_sipush hF.1 hF.2.1 d hz w
theorem rt_lconst {a : Fin 2} {z : Int} (d : decode mt.2.1 pc = .ok (.lconst a, 1)) (hz : Int64.ofNat (a : Nat) = i64 z) (h : ∀ lv st M, k lv st M → Tf l X sh n mt Q (pc + 1) lv st M) : ∀ lv st M, o_lc z k lv st M → Tf l X sh n mt Q pc lv st M := by
  intro lv st M hk p e s m args below meth c hF H locs ls hW hL
  have w := h lv _ M hk p e s m args below meth c hF H locs ls hW hL
  rw [List.map_cons] at w
  exact lv_lconst hF.1 hF.2.1 d hz w
theorem rt_ldc {ix : Nat} {v : Int32} {z : Int} (d : decode mt.2.1 pc = .ok (.ldc ix, 2)) (hw : Cond.constant mt.1.cls ix v ∈ TB) (hz : v = i32 z) (h : ∀ lv st M, k lv st M → Tf l X sh n mt Q (pc + 2) lv st M) : ∀ lv st M, o_ic z k lv st M → Tf l X sh n mt Q pc lv st M := by
  intro lv st M hk p e s m args below meth c hF H locs ls hW hL
  have w := h lv _ M hk p e s m args below meth c hF H locs ls hW hL
  rw [List.map_cons, show tr X.2.1 (vI z) = Value.int v from congrArg Value.int hz.symm] at w
  exact lv_ldc hF.1 hF.2.1 hF.2.2.2.2.1 (hF.2.2.2.2.2.1 _ hw) d w
theorem rt_ldcw {ix : Nat} {v : Int32} {z : Int} (d : decode mt.2.1 pc = .ok (.ldc_w ix, 3)) (hw : Cond.constant mt.1.cls ix v ∈ TB) (hz : v = i32 z) (h : ∀ lv st M, k lv st M → Tf l X sh n mt Q (pc + 3) lv st M) : ∀ lv st M, o_ic z k lv st M → Tf l X sh n mt Q pc lv st M := by
  intro lv st M hk p e s m args below meth c hF H locs ls hW hL
  have w := h lv _ M hk p e s m args below meth c hF H locs ls hW hL
  rw [List.map_cons, show tr X.2.1 (vI z) = Value.int v from congrArg Value.int hz.symm] at w
  exact lv_ldcw hF.1 hF.2.1 hF.2.2.2.2.1 (hF.2.2.2.2.2.1 _ hw) d w
theorem rt_ldc2 {ix : Nat} {v : Int64} {z : Int} (d : decode mt.2.1 pc = .ok (.ldc2_w ix, 3)) (hw : Cond.constantLong mt.1.cls ix v ∈ TB) (hz : v = i64 z) (h : ∀ lv st M, k lv st M → Tf l X sh n mt Q (pc + 3) lv st M) : ∀ lv st M, o_lc z k lv st M → Tf l X sh n mt Q pc lv st M := by
  intro lv st M hk p e s m args below meth c hF H locs ls hW hL
  have w := h lv _ M hk p e s m args below meth c hF H locs ls hW hL
  rw [List.map_cons, show tr X.2.1 (vL z) = Value.long v from congrArg Value.long hz.symm] at w
  exact lv_ldc2 hF.1 hF.2.1 hF.2.2.2.2.1 (hF.2.2.2.2.2.1 _ hw) d w
def o_ild (i : Nat) (k : Kt) : Kt := fun lv st M => match lget lv i with
  | some (.inl x) => k lv (vI x :: st) M
  | _ => False
def o_lld (i : Nat) (k : Kt) : Kt := fun lv st M => match lget lv i with
  | some (.inr (.inl x)) => k lv (vL x :: st) M
  | _ => False
def o_ald (i : Nat) (k : Kt) : Kt := fun lv st M => match lget lv i with
  | some (.inr (.inr x)) => k lv (vR x :: st) M
  | _ => False
def o_ist (i : Nat) (k : Kt) : Kt := fun lv st M => match st with
  | .inl x :: r => k (lput (lkill lv i) i (some (vI x))) r M
  | _ => False
def o_lst (i : Nat) (k : Kt) : Kt := fun lv st M => match st with
  | .inr (.inl x) :: r => k (lput (lput (lkill lv i) (i + 1) none) i (some (vL x))) r M
  | _ => False
def o_inc (i : Nat) (z : Int) (k : Kt) : Kt := fun lv st M => match lget lv i with
  | some (.inl x) => k (lput (lkill lv i) i (some (vI (x + z)))) st M
  | _ => False
theorem rt_ildn {a : Fin 4} {i : Nat} (d : decode mt.2.1 pc = .ok (.iload_n a, 1)) (hi : (a : Nat) = i) (h : ∀ lv st M, k lv st M → Tf l X sh n mt Q (pc + 1) lv st M) : ∀ lv st M, o_ild i k lv st M → Tf l X sh n mt Q pc lv st M := by
  intro lv st M hk
  unfold o_ild at hk
  split at hk
  · rename_i x hg
    intro p e s m args below meth c hF H locs ls hW hL
    have w := h lv _ M hk p e s m args below meth c hF H locs ls hW hL
    rw [List.map_cons] at w
    exact lv_iload_n hF.1 hF.2.1 d hi (hL.2.2 i _ hg) w
  · exact hk.elim
theorem rt_ild {i : Nat} (d : decode mt.2.1 pc = .ok (.iload i, 2)) (h : ∀ lv st M, k lv st M → Tf l X sh n mt Q (pc + 2) lv st M) : ∀ lv st M, o_ild i k lv st M → Tf l X sh n mt Q pc lv st M := by
  intro lv st M hk
  unfold o_ild at hk
  split at hk
  · rename_i x hg
    intro p e s m args below meth c hF H locs ls hW hL
    have w := h lv _ M hk p e s m args below meth c hF H locs ls hW hL
    rw [List.map_cons] at w
    exact lv_iload hF.1 hF.2.1 d (hL.2.2 i _ hg) w
  · exact hk.elim
theorem rt_lldn {a : Fin 4} {i : Nat} (d : decode mt.2.1 pc = .ok (.lload_n a, 1)) (hi : (a : Nat) = i) (h : ∀ lv st M, k lv st M → Tf l X sh n mt Q (pc + 1) lv st M) : ∀ lv st M, o_lld i k lv st M → Tf l X sh n mt Q pc lv st M := by
  intro lv st M hk
  unfold o_lld at hk
  split at hk
  · rename_i x hg
    intro p e s m args below meth c hF H locs ls hW hL
    have w := h lv _ M hk p e s m args below meth c hF H locs ls hW hL
    rw [List.map_cons] at w
    exact lv_lload_n hF.1 hF.2.1 d hi (hL.2.2 i _ hg) w
  · exact hk.elim
theorem rt_lld {i : Nat} (d : decode mt.2.1 pc = .ok (.lload i, 2)) (h : ∀ lv st M, k lv st M → Tf l X sh n mt Q (pc + 2) lv st M) : ∀ lv st M, o_lld i k lv st M → Tf l X sh n mt Q pc lv st M := by
  intro lv st M hk
  unfold o_lld at hk
  split at hk
  · rename_i x hg
    intro p e s m args below meth c hF H locs ls hW hL
    have w := h lv _ M hk p e s m args below meth c hF H locs ls hW hL
    rw [List.map_cons] at w
    exact lv_lload hF.1 hF.2.1 d (hL.2.2 i _ hg) w
  · exact hk.elim
theorem rt_aldn {a : Fin 4} {i : Nat} (d : decode mt.2.1 pc = .ok (.aload_n a, 1)) (hi : (a : Nat) = i) (h : ∀ lv st M, k lv st M → Tf l X sh n mt Q (pc + 1) lv st M) : ∀ lv st M, o_ald i k lv st M → Tf l X sh n mt Q pc lv st M := by
  intro lv st M hk
  unfold o_ald at hk
  split at hk
  · rename_i x hg
    intro p e s m args below meth c hF H locs ls hW hL
    have w := h lv _ M hk p e s m args below meth c hF H locs ls hW hL
    rw [List.map_cons] at w
    exact lv_aload_n hF.1 hF.2.1 d hi (hL.2.2 i _ hg) w
  · exact hk.elim
theorem rt_ald {i : Nat} (d : decode mt.2.1 pc = .ok (.aload i, 2)) (h : ∀ lv st M, k lv st M → Tf l X sh n mt Q (pc + 2) lv st M) : ∀ lv st M, o_ald i k lv st M → Tf l X sh n mt Q pc lv st M := by
  intro lv st M hk
  unfold o_ald at hk
  split at hk
  · rename_i x hg
    intro p e s m args below meth c hF H locs ls hW hL
    have w := h lv _ M hk p e s m args below meth c hF H locs ls hW hL
    rw [List.map_cons] at w
    exact lv_aload hF.1 hF.2.1 d (hL.2.2 i _ hg) w
  · exact hk.elim
theorem rt_istn {a : Fin 4} {i : Nat} (d : decode mt.2.1 pc = .ok (.istore_n a, 1)) (hi : (a : Nat) = i) (hn : i < mt.2.2.1) (h : ∀ lv st M, k lv st M → Tf l X sh n mt Q (pc + 1) lv st M) : ∀ lv st M, o_ist i k lv st M → Tf l X sh n mt Q pc lv st M := by
  intro lv st M hk
  match st, hk with
  | .inl x :: r, hk =>
    intro p e s m args below meth c hF H locs ls hW hL
    exact lv_istore_n hF.1 hF.2.1 d hi hL.has hn rfl (fun ls' hl => h _ _ M hk p e s m args below meth c hF H locs ls' hW (hL.st1 (v := vI x) hl))
theorem rt_ist {i : Nat} (d : decode mt.2.1 pc = .ok (.istore i, 2)) (hn : i < mt.2.2.1) (h : ∀ lv st M, k lv st M → Tf l X sh n mt Q (pc + 2) lv st M) : ∀ lv st M, o_ist i k lv st M → Tf l X sh n mt Q pc lv st M := by
  intro lv st M hk
  match st, hk with
  | .inl x :: r, hk =>
    intro p e s m args below meth c hF H locs ls hW hL
    exact lv_istore hF.1 hF.2.1 d hL.has hn rfl (fun ls' hl => h _ _ M hk p e s m args below meth c hF H locs ls' hW (hL.st1 (v := vI x) hl))
theorem rt_lstn {a : Fin 4} {i : Nat} (d : decode mt.2.1 pc = .ok (.lstore_n a, 1)) (hi : (a : Nat) = i) (hn : i + 1 < mt.2.2.1) (h : ∀ lv st M, k lv st M → Tf l X sh n mt Q (pc + 1) lv st M) : ∀ lv st M, o_lst i k lv st M → Tf l X sh n mt Q pc lv st M := by
  intro lv st M hk
  match st, hk with
  | .inr (.inl x) :: r, hk =>
    intro p e s m args below meth c hF H locs ls hW hL
    exact lv_lstore_n hF.1 hF.2.1 d hi hL.has hn rfl (fun ls' hl => h _ _ M hk p e s m args below meth c hF H locs ls' hW (hL.st2 (v := vL x) hl))
theorem rt_lst {i : Nat} (d : decode mt.2.1 pc = .ok (.lstore i, 2)) (hn : i + 1 < mt.2.2.1) (h : ∀ lv st M, k lv st M → Tf l X sh n mt Q (pc + 2) lv st M) : ∀ lv st M, o_lst i k lv st M → Tf l X sh n mt Q pc lv st M := by
  intro lv st M hk
  match st, hk with
  | .inr (.inl x) :: r, hk =>
    intro p e s m args below meth c hF H locs ls hW hL
    exact lv_lstore hF.1 hF.2.1 d hL.has hn rfl (fun ls' hl => h _ _ M hk p e s m args below meth c hF H locs ls' hW (hL.st2 (v := vL x) hl))
theorem rt_inc {i : Nat} {z : Int} (d : decode mt.2.1 pc = .ok (.iinc i z, 3)) (hn : i < mt.2.2.1) (h : ∀ lv st M, k lv st M → Tf l X sh n mt Q (pc + 3) lv st M) : ∀ lv st M, o_inc i z k lv st M → Tf l X sh n mt Q pc lv st M := by
  intro lv st M hk
  unfold o_inc at hk
  split at hk
  · rename_i x hg
    intro p e s m args below meth c hF H locs ls hW hL
    obtain ⟨j, hj⟩ := List.getElem?_of_mem (lvas_mem (sg := X.2.1) (n := mt.2.2.1) (lv := lv) (q := (i, tr X.2.1 (vI x))) |>.mpr ⟨hn, _, hg, rfl⟩)
    exact lv_iinc (v := i32 (x + z)) hF.1 hF.2.1 d hL.has hj (i32_add x z).symm hn rfl (fun ls' hl => h _ _ M hk p e s m args below meth c hF H locs ls' hW (hL.st1 (v := vI (x + z)) hl))
  · exact hk.elim
def o_dup (k : Kt) : Kt := fun lv st M => match st with
  | .inl x :: r => k lv (vI x :: vI x :: r) M
  | .inr (.inr x) :: r => k lv (vR x :: vR x :: r) M
  | _ => False
theorem rt_dup (d : decode mt.2.1 pc = .ok (.dup, 1)) (h : ∀ lv st M, k lv st M → Tf l X sh n mt Q (pc + 1) lv st M) : ∀ lv st M, o_dup k lv st M → Tf l X sh n mt Q pc lv st M := by
  intro lv st M hk
  match st, hk with
  | .inl x :: r, hk =>
    intro p e s m args below meth c hF H locs ls hW hL
    have w := h lv _ M hk p e s m args below meth c hF H locs ls hW hL
    rw [List.map_cons, List.map_cons] at w
    exact lv_dup hF.1 hF.2.1 d rfl w
  | .inr (.inr x) :: r, hk =>
    intro p e s m args below meth c hF H locs ls hW hL
    have w := h lv _ M hk p e s m args below meth c hF H locs ls hW hL
    rw [List.map_cons, List.map_cons] at w
    exact lv_dup hF.1 hF.2.1 d rfl w
def o_pop (k : Kt) : Kt := fun lv st M => match st with
  | .inl _ :: r => k lv r M
  | _ => False
theorem rt_pop (d : decode mt.2.1 pc = .ok (.pop, 1)) (h : ∀ lv st M, k lv st M → Tf l X sh n mt Q (pc + 1) lv st M) : ∀ lv st M, o_pop k lv st M → Tf l X sh n mt Q pc lv st M := by
  intro lv st M hk
  match st, hk with
  | .inl x :: r, hk =>
    intro p e s m args below meth c hF H locs ls hW hL
    exact lv_pop hF.1 hF.2.1 d rfl (h lv _ M hk p e s m args below meth c hF H locs ls hW hL)
def o_dup2 (k : Kt) : Kt := fun lv st M => match st with
  | .inl x :: .inr (.inr y) :: r => k lv (vI x :: vR y :: vI x :: vR y :: r) M
  | _ => False
theorem rt_dup2 (d : decode mt.2.1 pc = .ok (.dup2, 1)) (h : ∀ lv st M, k lv st M → Tf l X sh n mt Q (pc + 1) lv st M) : ∀ lv st M, o_dup2 k lv st M → Tf l X sh n mt Q pc lv st M := by
  intro lv st M hk
  match st, hk with
  | .inl x :: .inr (.inr y) :: r, hk =>
    intro p e s m args below meth c hF H locs ls hW hL
    have w := h lv _ M hk p e s m args below meth c hF H locs ls hW hL
    rw [List.map_cons, List.map_cons, List.map_cons, List.map_cons] at w
    exact lv_dup2_11 hF.1 hF.2.1 d rfl rfl w
/-- at a place, with the locals that live there -/
def tk (m : List Bool) (f : Kt) : Kt := fun lv st M => f (lmask m lv) st M
theorem rt_mask (m : List Bool) : ∀ lv st M, tk m (Tf l X sh n mt Q pc) lv st M → Tf l X sh n mt Q pc lv st M := by
  intro lv st M h p e s mm args below meth c hF H locs ls hW hL
  exact h p e s mm args below meth c hF H locs ls hW ⟨hL.1, hL.2.1, fun i v hi => hL.2.2 i v (lmask_get m lv i v hi)⟩
theorem rt_goto {off : Int} {tgt : Nat} {b : Kt} (d : decode mt.2.1 pc = .ok (.goto off, 3)) (ht : (pc : Int) + off = (tgt : Int)) (h : ∀ lv st M, b lv st M → Tf l X sh n mt Q tgt lv st M) : ∀ lv st M, b lv st M → Tf l X sh n mt Q pc lv st M := by
  intro lv st M hk p e s m args below meth c hF H locs ls hW hL
  exact lv_goto hF.1 hF.2.1 d ht (h lv st M hk p e s m args below meth c hF H locs ls hW hL)
def o_ceq (b k : Kt) : Kt := fun lv st M => match st with
  | .inl y :: .inl x :: r => (-2147483648 ≤ x ∧ x ≤ 2147483647) ∧ (-2147483648 ≤ y ∧ y ≤ 2147483647) ∧ (x = y → b lv r M) ∧ (x ≠ y → k lv r M)
  | _ => False
theorem rt_ceq {off : Int} {tgt : Nat} {b : Kt} (d : decode mt.2.1 pc = .ok (.if_icmp .eq off, 3)) (ht : (pc : Int) + off = (tgt : Int)) (hb : ∀ lv st M, b lv st M → Tf l X sh n mt Q tgt lv st M) (h : ∀ lv st M, k lv st M → Tf l X sh n mt Q (pc + 3) lv st M) : ∀ lv st M, o_ceq b k lv st M → Tf l X sh n mt Q pc lv st M := by
  intro lv st M hk
  match st, hk with
  | .inl y :: .inl x :: r, ⟨hx, hy, hb1, hk1⟩ =>
    intro p e s m args below meth c hF H locs ls hW hL
    have b1 := fun z => hb lv r M (hb1 z) p e s m args below meth c hF H locs ls hW hL
    have k1 := fun z => h lv r M (hk1 z) p e s m args below meth c hF H locs ls hW hL
    exact lv_icmp_eq hF.1 hF.2.1 d ht (fun z => b1 ((i32_eq hx hy).mp z)) (fun z => k1 (fun q => z ((i32_eq hx hy).mpr q)))
def o_zeq (b k : Kt) : Kt := fun lv st M => match st with
  | .inl x :: r => (-2147483648 ≤ x ∧ x ≤ 2147483647) ∧ (x = 0 → b lv r M) ∧ (x ≠ 0 → k lv r M)
  | _ => False
theorem rt_zeq {off : Int} {tgt : Nat} {b : Kt} (d : decode mt.2.1 pc = .ok (.ifCond .eq off, 3)) (ht : (pc : Int) + off = (tgt : Int)) (hb : ∀ lv st M, b lv st M → Tf l X sh n mt Q tgt lv st M) (h : ∀ lv st M, k lv st M → Tf l X sh n mt Q (pc + 3) lv st M) : ∀ lv st M, o_zeq b k lv st M → Tf l X sh n mt Q pc lv st M := by
  intro lv st M hk
  match st, hk with
  | .inl x :: r, ⟨hx, hb1, hk1⟩ =>
    intro p e s m args below meth c hF H locs ls hW hL
    have h0 : -2147483648 ≤ (0 : Int) ∧ (0 : Int) ≤ 2147483647 := ⟨by decide, by decide⟩
    have b1 := fun z => hb lv r M (hb1 z) p e s m args below meth c hF H locs ls hW hL
    have k1 := fun z => h lv r M (hk1 z) p e s m args below meth c hF H locs ls hW hL
    exact lv_if_eq hF.1 hF.2.1 d ht (fun z => b1 ((i32_eq hx h0).mp (z.trans i32_0.symm))) (fun z => k1 (fun q => z (((i32_eq hx h0).mpr q).trans i32_0)))
def o_cne (b k : Kt) : Kt := fun lv st M => match st with
  | .inl y :: .inl x :: r => (-2147483648 ≤ x ∧ x ≤ 2147483647) ∧ (-2147483648 ≤ y ∧ y ≤ 2147483647) ∧ (x ≠ y → b lv r M) ∧ (x = y → k lv r M)
  | _ => False
theorem rt_cne {off : Int} {tgt : Nat} {b : Kt} (d : decode mt.2.1 pc = .ok (.if_icmp .ne off, 3)) (ht : (pc : Int) + off = (tgt : Int)) (hb : ∀ lv st M, b lv st M → Tf l X sh n mt Q tgt lv st M) (h : ∀ lv st M, k lv st M → Tf l X sh n mt Q (pc + 3) lv st M) : ∀ lv st M, o_cne b k lv st M → Tf l X sh n mt Q pc lv st M := by
  intro lv st M hk
  match st, hk with
  | .inl y :: .inl x :: r, ⟨hx, hy, hb1, hk1⟩ =>
    intro p e s m args below meth c hF H locs ls hW hL
    have b1 := fun z => hb lv r M (hb1 z) p e s m args below meth c hF H locs ls hW hL
    have k1 := fun z => h lv r M (hk1 z) p e s m args below meth c hF H locs ls hW hL
    exact lv_icmp_ne hF.1 hF.2.1 d ht (fun z => b1 (fun q => z ((i32_eq hx hy).mpr q))) (fun z => k1 ((i32_eq hx hy).mp z))
def o_zne (b k : Kt) : Kt := fun lv st M => match st with
  | .inl x :: r => (-2147483648 ≤ x ∧ x ≤ 2147483647) ∧ (x ≠ 0 → b lv r M) ∧ (x = 0 → k lv r M)
  | _ => False
theorem rt_zne {off : Int} {tgt : Nat} {b : Kt} (d : decode mt.2.1 pc = .ok (.ifCond .ne off, 3)) (ht : (pc : Int) + off = (tgt : Int)) (hb : ∀ lv st M, b lv st M → Tf l X sh n mt Q tgt lv st M) (h : ∀ lv st M, k lv st M → Tf l X sh n mt Q (pc + 3) lv st M) : ∀ lv st M, o_zne b k lv st M → Tf l X sh n mt Q pc lv st M := by
  intro lv st M hk
  match st, hk with
  | .inl x :: r, ⟨hx, hb1, hk1⟩ =>
    intro p e s m args below meth c hF H locs ls hW hL
    have h0 : -2147483648 ≤ (0 : Int) ∧ (0 : Int) ≤ 2147483647 := ⟨by decide, by decide⟩
    have b1 := fun z => hb lv r M (hb1 z) p e s m args below meth c hF H locs ls hW hL
    have k1 := fun z => h lv r M (hk1 z) p e s m args below meth c hF H locs ls hW hL
    exact lv_if_ne hF.1 hF.2.1 d ht (fun z => b1 (fun q => z (((i32_eq hx h0).mpr q).trans i32_0))) (fun z => k1 ((i32_eq hx h0).mp (z.trans i32_0.symm)))
def o_clt (b k : Kt) : Kt := fun lv st M => match st with
  | .inl y :: .inl x :: r => (-2147483648 ≤ x ∧ x ≤ 2147483647) ∧ (-2147483648 ≤ y ∧ y ≤ 2147483647) ∧ (x < y → b lv r M) ∧ (y ≤ x → k lv r M)
  | _ => False
theorem rt_clt {off : Int} {tgt : Nat} {b : Kt} (d : decode mt.2.1 pc = .ok (.if_icmp .lt off, 3)) (ht : (pc : Int) + off = (tgt : Int)) (hb : ∀ lv st M, b lv st M → Tf l X sh n mt Q tgt lv st M) (h : ∀ lv st M, k lv st M → Tf l X sh n mt Q (pc + 3) lv st M) : ∀ lv st M, o_clt b k lv st M → Tf l X sh n mt Q pc lv st M := by
  intro lv st M hk
  match st, hk with
  | .inl y :: .inl x :: r, ⟨hx, hy, hb1, hk1⟩ =>
    intro p e s m args below meth c hF H locs ls hW hL
    have b1 := fun z => hb lv r M (hb1 z) p e s m args below meth c hF H locs ls hW hL
    have k1 := fun z => h lv r M (hk1 z) p e s m args below meth c hF H locs ls hW hL
    exact lv_icmp_lt hF.1 hF.2.1 d ht (fun z => b1 ((i32_lt hx hy).mp z)) (fun z => k1 (by have := mt_ (i32_lt hx hy) z; omega))
def o_zlt (b k : Kt) : Kt := fun lv st M => match st with
  | .inl x :: r => (-2147483648 ≤ x ∧ x ≤ 2147483647) ∧ (x < 0 → b lv r M) ∧ (0 ≤ x → k lv r M)
  | _ => False
theorem rt_zlt {off : Int} {tgt : Nat} {b : Kt} (d : decode mt.2.1 pc = .ok (.ifCond .lt off, 3)) (ht : (pc : Int) + off = (tgt : Int)) (hb : ∀ lv st M, b lv st M → Tf l X sh n mt Q tgt lv st M) (h : ∀ lv st M, k lv st M → Tf l X sh n mt Q (pc + 3) lv st M) : ∀ lv st M, o_zlt b k lv st M → Tf l X sh n mt Q pc lv st M := by
  intro lv st M hk
  match st, hk with
  | .inl x :: r, ⟨hx, hb1, hk1⟩ =>
    intro p e s m args below meth c hF H locs ls hW hL
    have h0 : -2147483648 ≤ (0 : Int) ∧ (0 : Int) ≤ 2147483647 := ⟨by decide, by decide⟩
    have b1 := fun z => hb lv r M (hb1 z) p e s m args below meth c hF H locs ls hW hL
    have k1 := fun z => h lv r M (hk1 z) p e s m args below meth c hF H locs ls hW hL
    exact lv_if_lt hF.1 hF.2.1 d ht (fun z => b1 ((i32_lt hx h0).mp (by rw [i32_0]; exact z))) (fun z => k1 (by have := mt_ (i32_lt hx h0) (by rw [i32_0]; exact z); omega))
def o_cge (b k : Kt) : Kt := fun lv st M => match st with
  | .inl y :: .inl x :: r => (-2147483648 ≤ x ∧ x ≤ 2147483647) ∧ (-2147483648 ≤ y ∧ y ≤ 2147483647) ∧ (y ≤ x → b lv r M) ∧ (x < y → k lv r M)
  | _ => False
theorem rt_cge {off : Int} {tgt : Nat} {b : Kt} (d : decode mt.2.1 pc = .ok (.if_icmp .ge off, 3)) (ht : (pc : Int) + off = (tgt : Int)) (hb : ∀ lv st M, b lv st M → Tf l X sh n mt Q tgt lv st M) (h : ∀ lv st M, k lv st M → Tf l X sh n mt Q (pc + 3) lv st M) : ∀ lv st M, o_cge b k lv st M → Tf l X sh n mt Q pc lv st M := by
  intro lv st M hk
  match st, hk with
  | .inl y :: .inl x :: r, ⟨hx, hy, hb1, hk1⟩ =>
    intro p e s m args below meth c hF H locs ls hW hL
    have b1 := fun z => hb lv r M (hb1 z) p e s m args below meth c hF H locs ls hW hL
    have k1 := fun z => h lv r M (hk1 z) p e s m args below meth c hF H locs ls hW hL
    exact lv_icmp_ge hF.1 hF.2.1 d ht (fun z => b1 ((i32_le hy hx).mp z)) (fun z => k1 (by have := mt_ (i32_le hy hx) z; omega))
def o_zge (b k : Kt) : Kt := fun lv st M => match st with
  | .inl x :: r => (-2147483648 ≤ x ∧ x ≤ 2147483647) ∧ (0 ≤ x → b lv r M) ∧ (x < 0 → k lv r M)
  | _ => False
theorem rt_zge {off : Int} {tgt : Nat} {b : Kt} (d : decode mt.2.1 pc = .ok (.ifCond .ge off, 3)) (ht : (pc : Int) + off = (tgt : Int)) (hb : ∀ lv st M, b lv st M → Tf l X sh n mt Q tgt lv st M) (h : ∀ lv st M, k lv st M → Tf l X sh n mt Q (pc + 3) lv st M) : ∀ lv st M, o_zge b k lv st M → Tf l X sh n mt Q pc lv st M := by
  intro lv st M hk
  match st, hk with
  | .inl x :: r, ⟨hx, hb1, hk1⟩ =>
    intro p e s m args below meth c hF H locs ls hW hL
    have h0 : -2147483648 ≤ (0 : Int) ∧ (0 : Int) ≤ 2147483647 := ⟨by decide, by decide⟩
    have b1 := fun z => hb lv r M (hb1 z) p e s m args below meth c hF H locs ls hW hL
    have k1 := fun z => h lv r M (hk1 z) p e s m args below meth c hF H locs ls hW hL
    exact lv_if_ge hF.1 hF.2.1 d ht (fun z => b1 ((i32_le h0 hx).mp (by rw [i32_0]; exact z))) (fun z => k1 (by have := mt_ (i32_le h0 hx) (by rw [i32_0]; exact z); omega))
def o_cgt (b k : Kt) : Kt := fun lv st M => match st with
  | .inl y :: .inl x :: r => (-2147483648 ≤ x ∧ x ≤ 2147483647) ∧ (-2147483648 ≤ y ∧ y ≤ 2147483647) ∧ (y < x → b lv r M) ∧ (x ≤ y → k lv r M)
  | _ => False
theorem rt_cgt {off : Int} {tgt : Nat} {b : Kt} (d : decode mt.2.1 pc = .ok (.if_icmp .gt off, 3)) (ht : (pc : Int) + off = (tgt : Int)) (hb : ∀ lv st M, b lv st M → Tf l X sh n mt Q tgt lv st M) (h : ∀ lv st M, k lv st M → Tf l X sh n mt Q (pc + 3) lv st M) : ∀ lv st M, o_cgt b k lv st M → Tf l X sh n mt Q pc lv st M := by
  intro lv st M hk
  match st, hk with
  | .inl y :: .inl x :: r, ⟨hx, hy, hb1, hk1⟩ =>
    intro p e s m args below meth c hF H locs ls hW hL
    have b1 := fun z => hb lv r M (hb1 z) p e s m args below meth c hF H locs ls hW hL
    have k1 := fun z => h lv r M (hk1 z) p e s m args below meth c hF H locs ls hW hL
    exact lv_icmp_gt hF.1 hF.2.1 d ht (fun z => b1 ((i32_lt hy hx).mp z)) (fun z => k1 (by have := mt_ (i32_lt hy hx) z; omega))
def o_zgt (b k : Kt) : Kt := fun lv st M => match st with
  | .inl x :: r => (-2147483648 ≤ x ∧ x ≤ 2147483647) ∧ (0 < x → b lv r M) ∧ (x ≤ 0 → k lv r M)
  | _ => False
theorem rt_zgt {off : Int} {tgt : Nat} {b : Kt} (d : decode mt.2.1 pc = .ok (.ifCond .gt off, 3)) (ht : (pc : Int) + off = (tgt : Int)) (hb : ∀ lv st M, b lv st M → Tf l X sh n mt Q tgt lv st M) (h : ∀ lv st M, k lv st M → Tf l X sh n mt Q (pc + 3) lv st M) : ∀ lv st M, o_zgt b k lv st M → Tf l X sh n mt Q pc lv st M := by
  intro lv st M hk
  match st, hk with
  | .inl x :: r, ⟨hx, hb1, hk1⟩ =>
    intro p e s m args below meth c hF H locs ls hW hL
    have h0 : -2147483648 ≤ (0 : Int) ∧ (0 : Int) ≤ 2147483647 := ⟨by decide, by decide⟩
    have b1 := fun z => hb lv r M (hb1 z) p e s m args below meth c hF H locs ls hW hL
    have k1 := fun z => h lv r M (hk1 z) p e s m args below meth c hF H locs ls hW hL
    exact lv_if_gt hF.1 hF.2.1 d ht (fun z => b1 ((i32_lt h0 hx).mp (by rw [i32_0]; exact z))) (fun z => k1 (by have := mt_ (i32_lt h0 hx) (by rw [i32_0]; exact z); omega))
def o_cle (b k : Kt) : Kt := fun lv st M => match st with
  | .inl y :: .inl x :: r => (-2147483648 ≤ x ∧ x ≤ 2147483647) ∧ (-2147483648 ≤ y ∧ y ≤ 2147483647) ∧ (x ≤ y → b lv r M) ∧ (y < x → k lv r M)
  | _ => False
theorem rt_cle {off : Int} {tgt : Nat} {b : Kt} (d : decode mt.2.1 pc = .ok (.if_icmp .le off, 3)) (ht : (pc : Int) + off = (tgt : Int)) (hb : ∀ lv st M, b lv st M → Tf l X sh n mt Q tgt lv st M) (h : ∀ lv st M, k lv st M → Tf l X sh n mt Q (pc + 3) lv st M) : ∀ lv st M, o_cle b k lv st M → Tf l X sh n mt Q pc lv st M := by
  intro lv st M hk
  match st, hk with
  | .inl y :: .inl x :: r, ⟨hx, hy, hb1, hk1⟩ =>
    intro p e s m args below meth c hF H locs ls hW hL
    have b1 := fun z => hb lv r M (hb1 z) p e s m args below meth c hF H locs ls hW hL
    have k1 := fun z => h lv r M (hk1 z) p e s m args below meth c hF H locs ls hW hL
    exact lv_icmp_le hF.1 hF.2.1 d ht (fun z => b1 ((i32_le hx hy).mp z)) (fun z => k1 (by have := mt_ (i32_le hx hy) z; omega))
def o_zle (b k : Kt) : Kt := fun lv st M => match st with
  | .inl x :: r => (-2147483648 ≤ x ∧ x ≤ 2147483647) ∧ (x ≤ 0 → b lv r M) ∧ (0 < x → k lv r M)
  | _ => False
theorem rt_zle {off : Int} {tgt : Nat} {b : Kt} (d : decode mt.2.1 pc = .ok (.ifCond .le off, 3)) (ht : (pc : Int) + off = (tgt : Int)) (hb : ∀ lv st M, b lv st M → Tf l X sh n mt Q tgt lv st M) (h : ∀ lv st M, k lv st M → Tf l X sh n mt Q (pc + 3) lv st M) : ∀ lv st M, o_zle b k lv st M → Tf l X sh n mt Q pc lv st M := by
  intro lv st M hk
  match st, hk with
  | .inl x :: r, ⟨hx, hb1, hk1⟩ =>
    intro p e s m args below meth c hF H locs ls hW hL
    have h0 : -2147483648 ≤ (0 : Int) ∧ (0 : Int) ≤ 2147483647 := ⟨by decide, by decide⟩
    have b1 := fun z => hb lv r M (hb1 z) p e s m args below meth c hF H locs ls hW hL
    have k1 := fun z => h lv r M (hk1 z) p e s m args below meth c hF H locs ls hW hL
    exact lv_if_le hF.1 hF.2.1 d ht (fun z => b1 ((i32_le hx h0).mp (by rw [i32_0]; exact z))) (fun z => k1 (by have := mt_ (i32_le hx h0) (by rw [i32_0]; exact z); omega))
end OPS
