/-! the law: its state, its rows -/
def LwF (X Y : Cx) (s : State) : Prop := Y.1 = X.1 ∧ Y.2.2.1 = X.2.2.1 ∧ va_K X.1 vwCl (tyl X) s ∧ Sx X s ∧ Sx Y s ∧ (∀ q, X.2.2.2 q → Y.2.2.2 q → False) ∧ (∀ q, X.2.2.2 q → s.heap.size ≤ q) ∧ (∀ q, Y.2.2.2 q → s.heap.size ≤ q)
def LwS (X Y : Cx) (C f : Nat → Int → Int) (w u : Int → Int) (s : State) (H : Heap) (locs : List Loc) : Prop := va_P X.1 vwCl (wd X shC (C, w)) H ∧ va_P Y.1 vwCl (wd Y shM (f, u)) H ∧ va_D X.2.2.2 (wd X shC (C, w)) ∧ va_D Y.2.2.2 (wd Y shM (f, u)) ∧ va_S (fun q : Nat => s.heap.size ≤ q) s.heap H locs
def TL (l : Launch) (X Y : Cx) (b L : Nat) (xs : Nat → Int32) (i pc : Nat) (st : List Value) (C f : Nat → Int → Int) (w u : Int → Int) : Prop := ∀ (p : Program) (e : Env) (s : State) (m : MethodId) (below : List Frame) (meth : Method) (c : Code), lw_At p s m meth c b L xs → LwF X Y s → ∀ (H : Heap) (locs : List Loc) (ls : Array Slot), LwS X Y C f w u s H locs → lv_has ls 4 [(0, .ref b), (1, .ref (X.2.1 0)), (2, .ref (Y.2.1 0)), (3, .int (i32 (i : Int)))] → W p l e room_1 s m #[Value.ref b] below meth c H locs 600000 7302250 (lw_Z below #[Value.ref b] s) (F0 m pc ls st)
def mLaw : Mt := (⟨R_law, "law", "([I)Z"⟩, code, 4, some .boolean)
theorem PPs.pq {l : Launch} {X Y : Cx} {nc nm : Nat} {mc mm : Mt} {av : List Vl} {C f : Nat → Int → Int} (h : PPs l X Y nc nm mc mm av C f) : PQ l X Y nc nm mc mm av C f := by
  obtain ⟨r, f', hr, hc, hm⟩ := h
  exact ⟨r, fun C' => Inv C' f', fun g => Eqx g f', hr, hc, fun u Q hq => hm u Q (fun g hg => hq (g, u) hg), fun C' g hC hg => Inv_x hC hg⟩
theorem Sx.at {X : Cx} {s t : State} {H : Heap} (h : Sx X s) (hk : ∀ q : Nat, q < s.heap.size → ¬ X.2.2.2 q → H[q]? = s.heap[q]?) (ht : t.heap = H) (hv : s.vm.Alike t.vm) : Sx X t := by
  refine ⟨?_, ?_⟩
  · rw [ht]; exact va_Z.moved hv (h.1.kept hk)
  · rw [ht]; exact va_T.moved hv (h.2.kept hk)
theorem law_call {p : Program} {l : Launch} {e : Env} {s : State} {m : MethodId} {below : List Frame} {meth : Method} {c : Code} {b : Nat} {Z : Cx} {sh : List Sh} {H : Heap} {locs : List Loc} {Qf : State → Prop} {ls : Array Slot} {ix na n' ci pc : Nat} {mt' : Mt} {av : List Vl} {rest : List Value} {M : Me} {r : Int} {R : (Nat → Int → Int) → Prop} (hx : p.tables.exec = Jvm.exec) (hb : c.code = code) (hml : c.maxLocals = 4) (hown : s.vm.findClass R_law = some m.cls) (hts : ∀ w ∈ TB, w.before #[Value.ref b] s = true) (hP : va_P Z.1 vwCl (wd Z sh M) H) (hK : va_K Z.1 vwCl (tyl Z) s) (hD : va_D Z.2.2.2 (wd Z sh M)) (hSx : Sx Z s) (hS : va_S (fun q : Nat => s.heap.size ≤ q) s.heap H locs) (hA : ∀ q, Z.2.2.2 q → s.heap.size ≤ q) (d : decode code pc = .ok (.invokevirtual ix, 3)) (hv : vOk mLaw ix na ci mt') (hn : n' ≤ 100) (hid : cls sh 0 = some ci) (hav : av.length = na) (hls : ls.size = 4) (hrest : (rest.map fun v => v.category).sum ≤ 8) (ht : TM l Z sh n' mt' (vR 0 :: av) M (fun v M' => v = some (vI r) ∧ R M'.1))
    (kk : ∀ (M' : Me) (H1 : Heap) (locs1 : List Loc), R M'.1 → va_P Z.1 vwCl (wd Z sh M') H1 → va_D Z.2.2.2 (wd Z sh M') → (∀ q : Nat, q < H.size → ¬ Z.2.2.2 q → H1[q]? = H[q]?) → va_S (fun q : Nat => s.heap.size ≤ q) s.heap H1 locs1 → W p l e room_1 s m #[Value.ref b] below meth c H1 locs1 600000 7302250 Qf (F0 m (pc + 3) ls (.int (i32 r) :: rest))) : W p l e room_1 s m #[Value.ref b] below meth c H locs 600000 7302250 Qf (F0 m pc ls ((av.map (tr Z.2.1)).reverse ++ .ref (Z.2.1 0) :: rest)) := by
  obtain ⟨⟨T, N, hcl⟩, h1, h2, h3, h4, h5, h6, h7⟩ := hv
  obtain ⟨fl, hfl⟩ := cls_spec hid
  have hr := va_runV (e := e) (meth := meth) (R := room_1) (below := below) (locs := locs) (cells := 600000) (slots := 7302250) (g := F0 m pc ls ((av.map (tr Z.2.1)).reverse ++ .ref (Z.2.1 0) :: rest)) (C := mt'.1.cls) (b := Z.2.1 0) (As := av.map (tr Z.2.1)) (rest := rest) (n := na) ⟨hx, hb, hml, hown, hts⟩ ht ⟨callB_of na hts (wr_good h5) rfl rfl rfl (hts _ h4) (hts _ h1) h6 ⟨by show n' + 1 ≤ 2048; omega, by show 8 + (mt'.2.2.1 + 11) + 40 * n' ≤ 84000; omega⟩, hts _ h2, hts _ h3⟩ ⟨Wd.blind, va_recv hK hP hcl ((wd_at hfl).trans (by rw [ce_obj])), fun U hU hv => ⟨rfl, by rw [hU]; exact hP, va_K.moved hv.alike hK, hD, hSx.at (fun q q1 _ => hS.2.1 q q1 (Nat.not_le.mpr q1)) hU hv.alike⟩⟩ rfl (by rw [List.length_map]; exact hav) hls rfl (lv_room hrest) d ⟨Nat.le_refl _, Nat.le_refl _⟩
  intro T0 hT Y
  obtain ⟨v, st₀, t, T', L, z0, Y', hL2, e1, e2, ⟨⟨v', M', hv, ⟨hv0, hq⟩, hWd⟩, hz, hkk⟩, stp⟩ := hr T0 hT Y
  cases hv
  subst hv0
  rw [z0] at hz hkk
  obtain ⟨t2, a1, b1⟩ := kk M' T'.heap (locs ++ L) hq (by rw [e1]; exact hWd.1) hWd.2.2.1 (fun q h1 h2 => by rw [e1]; exact hkk q h1 h2) ⟨Nat.le_trans hS.1 (by rw [e1]; exact hz), fun q h1 h2 => by rw [e1, hkk q (Nat.lt_of_lt_of_le h1 hS.1) (fun z => h2 (hA q z))]; exact hS.2.1 q h1 h2, fun q hq => by
      rcases List.mem_append.mp hq with h | h
      · exact hS.2.2 q h
      · exact hA _ (hL2 q h)⟩ T' rfl Y'
  exact ⟨t2, stp t2 a1, b1⟩
section LAW
variable {l : Launch} {X Y : Cx} {b L : Nat} {xs : Nat → Int32} {i pc : Nat} {st : List Value} {C f : Nat → Int → Int} {w u : Int → Int}
theorem lw_TB {p : Program} {s : State} {m : MethodId} {meth : Method} {c : Code} (h : lw_At p s m meth c b L xs) : ∀ w ∈ TB, w.before #[Value.ref b] s = true := fun w hw => h.2.2.2.2.2.1 w (List.mem_filter.mp hw).1
theorem L_x (d : decode code pc = .ok (.aload_n 1, 1)) (h : TL l X Y b L xs i (pc + 1) (.ref (X.2.1 0) :: st) C f w u) : TL l X Y b L xs i pc st C f w u := fun p e s m below meth c h0 hF H locs ls hS hl => lv_aload_n h0.1 h0.2.1 d rfl (lv_at hl 1 rfl) (h p e s m below meth c h0 hF H locs ls hS hl)
theorem L_m (d : decode code pc = .ok (.aload_n 2, 1)) (h : TL l X Y b L xs i (pc + 1) (.ref (Y.2.1 0) :: st) C f w u) : TL l X Y b L xs i pc st C f w u := fun p e s m below meth c h0 hF H locs ls hS hl => lv_aload_n h0.1 h0.2.1 d rfl (lv_at hl 2 rfl) (h p e s m below meth c h0 hF H locs ls hS hl)
theorem lw_out {s : State} (h : b < s.heap.size) : ¬ (fun q : Nat => s.heap.size ≤ q) b := Nat.not_le.mpr h
theorem L_arg {k : Nat} {z : Int} (hL : L ≤ 192) (hi : i + k < L) (hz : Int32.ofInt z = i32 (k : Int)) (d0 : decode code pc = .ok (.aload_n 0, 1)) (d1 : decode code (pc + 1) = .ok (.iload_n 3, 1)) (d2 : decode code (pc + 2) = .ok (.iconst z, 1)) (d3 : decode code (pc + 3) = .ok (.iadd, 1)) (d4 : decode code (pc + 4) = .ok (.iaload, 1)) (h : TL l X Y b L xs i (pc + 5) (.int (i32 (xs (i + k)).toInt) :: st) C f w u) : TL l X Y b L xs i pc st C f w u := by
  intro p e s m below meth c h0 hF H locs ls hS hl
  obtain ⟨hx, hb, hr, hml, hown, hts, hX, hbl, hlocks, hgv⟩ := id h0
  have e1 : i32 (i : Int) + i32 (k : Int) = i32 ((i + k : Nat) : Int) := by rw [← i32_add, Int.natCast_add]
  obtain ⟨q1, q2⟩ := i32_in (i := ((i + k : Nat) : Int)) (n := L) (by omega) (by omega) (by omega)
  refine lv_aload_n hx hb d0 rfl (lv_at hl 0 rfl) ?_
  refine lv_iload_n hx hb d1 rfl (lv_at hl 3 rfl) ?_
  refine lv_iconst hx hb d2 hz ?_
  refine lv_iadd hx hb d3 ?_
  rw [e1]
  refine va_sld hx hb hX hbl (lw_out hbl) hS.2.2.2.2 q1 d4 ?_
  rw [q2, show (((i + k : Nat) : Int)).toNat = i + k by omega]
  have w1 := h p e s m below meth c h0 hF H locs ls hS hl
  rw [i32_of] at w1
  exact w1
theorem L_bool {v : Int32} (d0 : decode code pc = .ok (.ifCond .eq 7, 3)) (d1 : decode code (pc + 3) = .ok (.iconst 1, 1)) (d2 : decode code (pc + 4) = .ok (.goto 4, 3)) (d3 : decode code (pc + 7) = .ok (.iconst 0, 1)) (h : TL l X Y b L xs i (pc + 8) (.int (i32 (if v.toInt = 0 then 0 else 1)) :: st) C f w u) : TL l X Y b L xs i pc (.int (i32 v.toInt) :: st) C f w u := by
  intro p e s m below meth c h0 hF H locs ls hS hl
  obtain ⟨hx, hb, hr, hml, hown, hts, hX, hbl, hlocks, hgv⟩ := id h0
  have w1 := h p e s m below meth c h0 hF H locs ls hS hl
  rw [i32_of]
  refine lv_if_eq (tgt := pc + 7) hx hb d0 (by omega) (fun hv => ?_) (fun hv => ?_)
  · refine lv_iconst hx hb d3 (show Int32.ofInt 0 = i32 0 from rfl) ?_
    rw [if_pos (by rw [hv]; decide)] at w1
    exact w1
  · refine lv_iconst hx hb d1 (show Int32.ofInt 1 = i32 1 from rfl) ?_
    refine lv_goto (tgt := pc + 8) hx hb d2 (by omega) ?_
    rw [if_neg (fun q => hv (by rw [← i32_of v, q]; decide +kernel))] at w1
    exact w1
theorem L_cx {ix na n' : Nat} {mt' : Mt} {av : List Vl} {rest : List Value} {r : Int} {R : (Nat → Int → Int) → Prop} (d : decode code pc = .ok (.invokevirtual ix, 3)) (hv : vOk mLaw ix na 9 mt') (hn : n' ≤ 100) (hav : av.length = na) (hrest : (rest.map fun v => v.category).sum ≤ 8) (ht : TM l X shC n' mt' (vR 0 :: av) (C, w) (fun v M' => v = some (vI r) ∧ R M'.1)) (h : ∀ (C' : Nat → Int → Int) (w' : Int → Int), R C' → TL l X Y b L xs i (pc + 3) (.int (i32 r) :: rest) C' f w' u) : TL l X Y b L xs i pc ((av.map (tr X.2.1)).reverse ++ .ref (X.2.1 0) :: rest) C f w u := by
  intro p e s m below meth c h0 hF H locs ls hS hl
  refine law_call h0.1 h0.2.1 h0.2.2.2.1 h0.2.2.2.2.1 (lw_TB h0) hS.1 hF.2.2.1 hS.2.2.1 hF.2.2.2.1 hS.2.2.2.2 hF.2.2.2.2.2.2.1 d hv hn rfl hav hl.1 hrest ht (fun M' H1 locs1 hR hP1 hD1 hk1 hS1 => ?_)
  refine h M'.1 M'.2 hR p e s m below meth c h0 hF H1 locs1 ls ⟨hP1, hS.2.1.kept (fun k x hx => hk1 x.1 ((hS.2.1 k x hx).lt) (fun q => hF.2.2.2.2.2.1 _ q (hS.2.2.2.1.2 k x hx))), hD1, hS.2.2.2.1, hS1⟩ hl
theorem L_cm {ix na n' : Nat} {mt' : Mt} {av : List Vl} {rest : List Value} {r : Int} {R : (Nat → Int → Int) → Prop} (d : decode code pc = .ok (.invokevirtual ix, 3)) (hv : vOk mLaw ix na 10 mt') (hn : n' ≤ 100) (hav : av.length = na) (hrest : (rest.map fun v => v.category).sum ≤ 8) (ht : TM l Y shM n' mt' (vR 0 :: av) (f, u) (fun v M' => v = some (vI r) ∧ R M'.1)) (h : ∀ (f' : Nat → Int → Int) (u' : Int → Int), R f' → TL l X Y b L xs i (pc + 3) (.int (i32 r) :: rest) C f' w u') : TL l X Y b L xs i pc ((av.map (tr Y.2.1)).reverse ++ .ref (Y.2.1 0) :: rest) C f w u := by
  intro p e s m below meth c h0 hF H locs ls hS hl
  have hK : va_K Y.1 vwCl (tyl Y) s := by
    have := hF.2.2.1
    unfold tyl at this ⊢
    rw [hF.1, hF.2.1]
    exact this
  refine law_call h0.1 h0.2.1 h0.2.2.2.1 h0.2.2.2.2.1 (lw_TB h0) hS.2.1 hK hS.2.2.2.1 hF.2.2.2.2.1 hS.2.2.2.2 hF.2.2.2.2.2.2.2 d hv hn rfl hav hl.1 hrest ht (fun M' H1 locs1 hR hP1 hD1 hk1 hS1 => ?_)
  refine h M'.1 M'.2 hR p e s m below meth c h0 hF H1 locs1 ls ⟨hS.1.kept (fun k x hx => hk1 x.1 ((hS.1 k x hx).lt) (fun q => hF.2.2.2.2.2.1 _ (hS.2.2.1.2 k x hx) q)), hP1, hS.2.2.1, hD1, hS1⟩ hl
theorem L_eq {off : Int} {a : Int32} (d : decode code pc = .ok (.if_icmp .eq off, 3)) (ht : (pc : Int) + off = ((1068 : Nat) : Int)) (h : TL l X Y b L xs i 1068 [] C f w u) : TL l X Y b L xs i pc [.int a, .int a] C f w u := fun p e s m below meth c h0 hF H locs ls hS hl => lv_icmp_eq h0.1 h0.2.1 d ht (fun _ => h p e s m below meth c h0 hF H locs ls hS hl) (fun q => absurd rfl q)
theorem L_next (h : TL l X Y b L xs (i + 3) 18 [] C f w u) : TL l X Y b L xs i 1068 [] C f w u := by
  intro p e s m below meth c h0 hF H locs ls hS hl
  have e1 : i32 (i : Int) + Int32.ofInt 3 = i32 ((i + 3 : Nat) : Int) := by
    rw [show Int32.ofInt 3 = i32 3 from rfl, ← i32_add, Int.natCast_add]
    rfl
  refine lv_iinc (v := i32 ((i + 3 : Nat) : Int)) (lv' := [(3, .int (i32 ((i + 3 : Nat) : Int))), (0, .ref b), (1, .ref (X.2.1 0)), (2, .ref (Y.2.1 0))]) h0.1 h0.2.1 (show decode code 1068 = .ok (.iinc 3 3, 3) by decide +kernel) hl (k := 3) rfl e1 (by decide) rfl (fun ls hl => ?_)
  refine lv_goto (tgt := 18) h0.1 h0.2.1 (show decode code 1071 = .ok (.goto (-1053), 3) by decide +kernel) (by decide) ?_
  exact h p e s m below meth c h0 hF H locs ls hS (lv_sub hl [1, 2, 3, 0] rfl)
def tgts : List Nat := [184, 207, 220, 233, 256, 289, 322, 345, 378, 411, 434, 457, 480, 529, 552, 565, 588, 611, 644, 677, 710, 743, 766, 789, 812, 845, 894, 917, 940, 973, 986, 999, 1022, 1045]
theorem d_sw : decode code 32 = .ok (.tableswitch 1036 0 33 #[152, 175, 188, 201, 224, 257, 290, 313, 346, 379, 402, 425, 448, 497, 520, 533, 556, 579, 612, 645, 678, 711, 734, 757, 780, 813, 862, 885, 908, 941, 954, 967, 990, 1013], 152) := by decide +kernel
theorem L_head (hL : L ≤ 192) (hi : i ≤ 1000) (h : i + 2 < L → (∀ (k t : Nat), tgts[k]? = some t → TL l X Y b L xs i t [] C f w u) ∧ TL l X Y b L xs i 1068 [] C f w u) : TL l X Y b L xs i 18 [] C f w u := by
  intro p e s m below meth c h0 hF H locs ls hS hl
  obtain ⟨hx, hb, hr, hml, hown, hts, hX, hbl, hlocks, hgv⟩ := id h0
  refine lv_iload_n hx hb (show decode code 18 = .ok (.iload_n 3, 1) by decide +kernel) rfl (lv_at hl 3 rfl) ?_
  refine lv_aload_n hx hb (show decode code 19 = .ok (.aload_n 0, 1) by decide +kernel) rfl (lv_at hl 0 rfl) ?_
  refine va_slen hx hb hX hbl (lw_out hbl) hS.2.2.2.2 (show decode code 20 = .ok (.arraylength, 1) by decide +kernel) ?_
  refine lv_iconst (v := i32 3) hx hb (show decode code 21 = .ok (.iconst 3, 1) by decide +kernel) rfl ?_
  refine lv_isub hx hb (show decode code 22 = .ok (.isub, 1) by decide +kernel) ?_
  have e1 : Int32.ofNat L - i32 3 = i32 ((L : Int) - 3) := by
    rw [i32_sub, i32_n]
    rfl
  rw [e1]
  refine lv_icmp_gt (tgt := 1074) hx hb (show decode code 23 = .ok (.if_icmp .gt 1051, 3) by decide +kernel) (by decide) (fun hc => ?_) (fun hc => ?_)
  · refine lv_iconst (v := 1) hx hb (show decode code 1074 = .ok (.iconst 1, 1) by decide +kernel) (by decide) ?_
    refine va_forget hS.2.2.2.2.2.2 ?_
    exact lw_ret hx hb hr hlocks (by decide +kernel)
  · have hlt : i + 2 < L := by
      have := mt (i32_lt (x := (L : Int) - 3) (y := (i : Int)) (by omega) (by omega)).mpr hc
      omega
    obtain ⟨hk, hd⟩ := h hlt
    obtain ⟨q1, q2⟩ := i32_in (i := (i : Int)) (n := L) (by omega) (by omega) (by omega)
    refine lv_aload_n hx hb (show decode code 26 = .ok (.aload_n 0, 1) by decide +kernel) rfl (lv_at hl 0 rfl) ?_
    refine lv_iload_n hx hb (show decode code 27 = .ok (.iload_n 3, 1) by decide +kernel) rfl (lv_at hl 3 rfl) ?_
    refine va_sld hx hb hX hbl (lw_out hbl) hS.2.2.2.2 q1 (show decode code 28 = .ok (.iaload, 1) by decide +kernel) ?_
    refine lv_bipush (v := 63) hx hb (show decode code 29 = .ok (.bipush 63, 2) by decide +kernel) (by decide +kernel) ?_
    refine lv_iand hx hb (show decode code 31 = .ok (.iand, 1) by decide +kernel) ?_
    generalize xs (i32 (i : Int)).toNatClampNeg &&& 63 = v
    by_cases hin : v.toInt < 0 ∨ 33 < v.toInt
    · exact lv_tableOut (tgt := 1068) hx hb d_sw hin (by decide) (hd p e s m below meth c h0 hF H locs ls hS hl)
    · have hlt2 : v.toInt.toNat < tgts.length := by
        show v.toInt.toNat < 34
        omega
      obtain ⟨t, htm⟩ : ∃ t, tgts[v.toInt.toNat]? = some t := ⟨_, List.getElem?_eq_getElem hlt2⟩
      refine lv_tableIn (off := (t : Int) - 32) (tgt := t) hx hb d_sw (by omega) (by omega) ?_ (by omega) (hk _ t htm p e s m below meth c h0 hF H locs ls hS hl)
      rw [Int.sub_zero, ← Array.getElem?_toList, show (#[152, 175, 188, 201, 224, 257, 290, 313, 346, 379, 402, 425, 448, 497, 520, 533, 556, 579, 612, 645, 678, 711, 734, 757, 780, 813, 862, 885, 908, 941, 954, 967, 990, 1013] : Array Int).toList = tgts.map (fun (t : Nat) => (t : Int) - 32) by decide +kernel, List.getElem?_map, htm]
      rfl
theorem i32_rng (x : Int32) : -2147483648 ≤ x.toInt ∧ x.toInt ≤ 2147483647 := ⟨Int32.le_toInt _, by have := Int32.toInt_lt x; omega⟩
end LAW
