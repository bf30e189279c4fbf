/-! what is born agrees -/
theorem Inv_0 {c : Int → Int} (hc : ∀ i, 0 ≤ i → i < 32 → c i = if 21 ≤ i ∧ i < 27 then -1 else 0) : Inv (rp m0C.1 18 c) m0M.1 := by
  have hv : ∀ b : Int, 0 ≤ b → ¬ b < 0 := fun b h => by omega
  have h18 : rp m0C.1 18 c 18 = c := rp_k
  have hE : OkE m0M.1 := ⟨⟨by decide, by decide⟩, ⟨by decide, by decide⟩, ⟨by decide, by decide⟩, fun h => absurd h (by decide), fun h => absurd h (by decide), fun b b0 b1 => absurd b1 (hv b b0), fun b b0 b1 => absurd b1 (hv b b0)⟩
  have hS : SimE (rp m0C.1 18 c) m0M.1 := ⟨rfl, rfl, rfl, fun b b0 b1 => absurd b1 (hv b b0), fun b b0 b1 => absurd b1 (hv b b0)⟩
  have c0 : ∀ i, 0 ≤ i → i < 32 → ¬ (21 ≤ i ∧ i < 27) → c i = 0 := fun i i0 i1 h => by rw [hc i i0 i1, if_neg h]
  have hN : SimN m0M.1 c (m0M.1 7) := ⟨fun b b0 b1 => absurd b1 (hv b b0), fun b b0 b1 => absurd b1 (hv b b0), c0 27 (by decide) (by decide) (by decide), c0 28 (by decide) (by decide) (by decide), c0 29 (by decide) (by decide) (by decide), c0 30 (by decide) (by decide) (by decide), c0 31 (by decide) (by decide) (by decide), fun b b0 b1 => by
    have b0 : 0 ≤ b := b0
    exact c0 (7 + b) (by omega) (by omega) (by omega)⟩
  have hO : OkN m0M.1 (m0M.1 7) := ⟨⟨fun b b0 b1 => absurd b1 (hv b b0), fun b b0 b1 => absurd b1 (hv b b0), ⟨by decide, by decide⟩, ⟨by decide, by decide⟩, ⟨by decide, by decide⟩, ⟨by decide, by decide⟩⟩, ⟨by decide, by decide⟩, fun b b0 b1 => absurd b1 (hv b b0)⟩
  refine ⟨⟨hS, hE⟩, ⟨by rw [h18]; exact hN, hO⟩, ?_, ?_, ?_, ?_, ?_, ?_, ?_⟩
  · exact ⟨rfl, ⟨by decide, by decide⟩, fun i i0 i1 => absurd i1 (hv i i0)⟩
  · exact ⟨rfl, by decide, by decide⟩
  · exact ⟨rfl, by decide, by decide⟩
  · refine ⟨rfl, ⟨by decide, by decide⟩, ⟨Int.le_refl 0, show (0 : Int) < 64 by decide⟩, fun i i0 i1 => absurd i1 (hv i i0), fun i i0 i1 => ?_⟩
    have i0 : 0 ≤ i := i0
    exact bt_0 i0 (by omega)
  · exact ⟨rfl, ⟨by decide, by decide⟩, fun i i0 i1 => absurd i1 (hv i i0)⟩
  · exact ⟨rfl, ⟨by decide, by decide⟩, ⟨Int.le_refl 0, show (0 : Int) < 16 by decide⟩, fun i i0 i1 => absurd i1 (hv i i0)⟩
  · refine ⟨⟨Int.le_refl 0, show (0 : Int) ≤ 3 by decide⟩, fun i i0 i1 => ?_⟩
    have hb : bt (rp m0C.1 18 c 21 2) i = false := bt_0 i0 (by omega)
    rw [hb]
    exact ⟨rfl, fun h => by cases h⟩
/-- the law makes an object: new, dup, the constructor -/
theorem law_ctor {p : Program} {l : Launch} {e : Env} {s : State} {m : MethodId} {below : List Frame} {meth : Method} {c : Code} {b L : Nat} {xs : Nat → Int32} {G : va_G} {ar : ClassId × ClassId × ClassId} {a0 n' mc' ms' ci N ix0 ix1 pc k j : Nat} {Qf : State → Prop} {y : MethodName} {cc : ByteArray} {C : String} {T : u_T} {fs : List Value} {po : Nat → (Nat → Prop) → va_W → Prop} {ws : va_W} {H : Heap} {locs : List Loc} {ls : Array Slot} (C0 : lw_At p s m meth c b L xs) (hK : va_K G vwCl (tyA ar) s) (hZ : Sz a0 (fun q : Nat => s.heap.size ≤ q) s) (hN : Nx s) (hP : va_P G vwCl ws H) (hD : va_D (fun q : Nat => s.heap.size ≤ q) ws) (hS : va_S (fun q : Nat => s.heap.size ≤ q) s.heap H locs) (hls : ls.size = 4) (hc : vwCl[ci]? = some (C, T, N)) (hin : ∀ w ∈ u_ws C T N, w ∈ TB) (ty : Nat → FieldType) (hty : ∀ k, k < N → parseFieldDescriptor (T k).2.2.1 = some (ty k)) (h1 : Cond.classLink R_law ix0 C ∈ TB) (h2 : Cond.instantiable C N ∈ TB) (h3 : Cond.initialized C ∈ TB) (hfs : ∀ j, j < N → defaultValue (ty j) = vp_V fs j) (hk : k + 1 + mc' ≤ 600000) (hj : j + N + ms' ≤ 7302250) (d0 : decode code pc = .ok (.new ix0, 3)) (d1 : decode code (pc + 3) = .ok (.dup, 1)) (d2 : decode code (pc + 4) = .ok (.invokespecial ix1, 3)) (hcd : Cond.code y cc 1 none ∈ TB) (hini : Cond.initialized y.cls ∈ TB) (hm : Cond.instanceMethod y ∈ TB) (hl1 : Cond.methodLink R_law ix1 y ∈ TB) (hnm : y.name = "<init>") (hd : y.cls ≠ "java/lang/invoke/MethodHandle" ∧ y.cls ≠ "java/lang/invoke/VarHandle" ∧ (parseMethodDescriptor y.desc).map (fun d => d.parameters.length) = some 0) (hn : n' ≤ 100) (hG : GM l G ar a0 n' mc' ms' (y, cc, 1, none) ci fs po)
    (h : ∀ (q : Nat) (B : Nat → Prop) (w1 : va_W) (H1 : Heap) (locs1 : List Loc), po q B w1 → va_P G vwCl (ws ++ w1) H1 → va_D (fun q : Nat => s.heap.size ≤ q) (ws ++ w1) → va_S (fun q : Nat => s.heap.size ≤ q) s.heap H1 locs1 → W p l e room_1 s m #[Value.ref b] below meth c H1 locs1 (k + 1 + mc') (j + N + ms') Qf (F0 m (pc + 7) ls [.ref q])) : W p l e room_1 s m #[Value.ref b] below meth c H locs k j Qf (F0 m pc ls []) := by
  have hA : ∀ q : Nat, s.heap.size ≤ q → (fun q : Nat => s.heap.size ≤ q) q := fun _ h => h
  have hts := lw_TB C0
  obtain ⟨hx, hb, hr, hml, hown, -, hX, hbl, hlocks, hgv⟩ := id C0
  refine va_new hx hb hts hin ty hty hown (hts _ h1) (hts _ h2) (hts _ h3) hK hP hD hS hA hc hfs (by show k + 1 ≤ 600000; omega) (by show j + N ≤ 7302250; omega) d0 (fun q H hP hD hS => ?_)
  refine lv_dup hx hb d1 rfl ?_
  have hlast : (ws ++ [((q, .inr (ci, fs)) : Nat × va_E)])[ws.length]? = some (q, .inr (ci, fs)) := by
    rw [List.getElem?_append_right (Nat.le_refl _), Nat.sub_self]
    rfl
  have hC : [ws.length].map (fun i => (ws ++ [((q, .inr (ci, fs)) : Nat × va_E)])[i]?) = [((q, .inr (ci, fs)) : Nat × va_E)].map some := congrArg (fun x => [x]) hlast
  have hPc : va_P G vwCl [(q, .inr (ci, fs))] H := by
    intro i x hx
    have hz : i < 1 := (List.getElem?_eq_some_iff.mp hx).1
    rw [show i = 0 by omega] at hx
    cases hx
    exact hP _ _ hlast
  have hDc : va_D (fun _ => True) [((q, .inr (ci, fs)) : Nat × va_E)] := ⟨fun i1 j1 x y h1 h2 _ => by
    have z1 : i1 < 1 := (List.getElem?_eq_some_iff.mp h1).1
    have z2 : j1 < 1 := (List.getElem?_eq_some_iff.mp h2).1
    omega, fun _ _ _ => trivial⟩
  have hFc : ∀ q', va_A [((q, .inr (ci, fs)) : Nat × va_E)] H.size q' → (fun q : Nat => s.heap.size ≤ q) q' := va_free hD hS hA [ws.length] hC
  refine va_callv (va_runI (As := []) (rest := [.ref q]) (b := q) (n := 0) ⟨hx, hb, hml, hown, hts⟩ (hG q H.size) ⟨callB_of 0 hts (wr_good (mt' := (y, cc, 1, none)) hcd) rfl rfl rfl (hts _ hini) (hts _ hl1) hd ⟨by show n' + 1 ≤ 2048; omega, by show 8 + (1 + 11) + 40 * n' ≤ 84000; omega⟩, hnm, hts _ hm⟩ ⟨gpre.blind, fun U hU hW => ⟨rfl, by rw [hU], by rw [hU]; exact hPc, va_K.moved hW.alike hK, hDc, hZ.moved hS.2.1 hFc hU hW.alike, fun w hw => va_Nw.warmM hW (hN w hw)⟩⟩ rfl rfl hls rfl (lv_room (Nat.le_of_ble_eq_true rfl)) d2 ⟨by show k + 1 + mc' ≤ 600000; omega, by show j + N + ms' ≤ 7302250; omega⟩) hS (fun q' _ h => hFc q' h) hFc (fun u t H1 locs1 ht hvm hw hB hz1 hk1 hS1 => ?_)
  obtain ⟨hP1, hK1, hD1⟩ := hB
  rw [ht] at hP1
  obtain ⟨hP2, hD2⟩ := va_join (wr := ws) (w1 := u) hP hD [ws.length] (List.range ws.length) hC (rng_map ws _) (va_nd_of List.nodup_range) (fun i h1 h2 => by rw [List.mem_singleton] at h2; rw [List.mem_range] at h1; omega) hk1 hFc hP1 hD1
  exact h q _ u H1 locs1 hw hP2 hD2 hS1
