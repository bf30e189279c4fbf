/-! the class's least parting is the reference's -/
def Nb (v : Int) : Prop := ∃ n : Nat, v = (n : Int) ∧ n < 2 ^ 60
theorem Mk_nb {f : Nat → Int → Int} {b z v : Int} (h : Mk f b z v) : Nb v := by
  obtain ⟨n, h1, h2, -⟩ := h
  exact ⟨n, h1, h2⟩
theorem Nb_0 : Nb 0 := ⟨0, rfl, by decide⟩
theorem Nb_or {a b : Int} (ha : Nb a) (hb : Nb b) : Nb (llor a b) := by
  obtain ⟨n, rfl, h1⟩ := ha
  obtain ⟨m, rfl, h2⟩ := hb
  exact ⟨n ||| m, llor_n h1 h2, Nat.or_lt_two_pow h1 h2⟩
theorem nat_and_or {n t m : Nat} : n &&& (t ||| m) = 0 ↔ n &&& t = 0 ∧ n &&& m = 0 := by
  rw [Nat.and_or_distrib_left]
  exact Nat.or_eq_zero_iff
theorem lland_or {v t m : Int} (hv : Nb v) (ht : Nb t) (hm : Nb m) : lland v (llor t m) = 0 ↔ lland v t = 0 ∧ lland v m = 0 := by
  obtain ⟨n, rfl, h1⟩ := hv
  obtain ⟨k, rfl, h2⟩ := ht
  obtain ⟨j, rfl, h3⟩ := hm
  rw [llor_n h2 h3, lland_n h1 (Nat.or_lt_two_pow h2 h3), lland_n h1 h2, lland_n h1 h3]
  have := nat_and_or (n := n) (t := k) (m := j)
  omega
theorem lland_0 {v : Int} (hv : Nb v) : lland v 0 = 0 := by
  obtain ⟨n, rfl, h1⟩ := hv
  have := lland_n (b := 0) h1 (by decide)
  rw [Nat.and_zero] at this
  exact this
theorem lland_comm (a b : Int) : lland a b = lland b a := by
  unfold lland
  rw [Int64.and_comm]
theorem mk_dj {f : Nat → Int → Int} {a sa b sb v w : Int} (h1 : Mk f a (f 7 a + sa) v) (h2 : Mk f b (f 7 b + sb) w) : lland v w = 0 ↔ anm f a sa b sb 60 1 = false := by
  obtain ⟨n, rfl, n1, n2⟩ := h1
  obtain ⟨m, rfl, m1, m2⟩ := h2
  rw [lland_n n1 m1, anm_spec]
  constructor
  · intro h k k0 k1 q
    have hz : n &&& m = 0 := by omega
    have hb : (n &&& m).testBit (k - 1).toNat = false := by
      rw [hz]
      exact Nat.zero_testBit _
    rw [Nat.testBit_and, n2 _ (by omega), m2 _ (by omega), show (((k - 1).toNat : Nat) : Int) + 1 = k by omega, q.1, q.2] at hb
    cases hb
  · intro h
    have : n &&& m = 0 := by
      apply Nat.eq_of_testBit_eq
      intro i
      rw [Nat.zero_testBit, Nat.testBit_and]
      by_cases hi : i < 60
      · rw [n2 i hi, m2 i hi]
        have := h ((i : Int) + 1) (by omega) (by omega)
        cases q1 : catz f a (f 7 a + sa + ((i : Int) + 1)) with
        | false => rfl
        | true =>
          cases q2 : catz f b (f 7 b + sb + ((i : Int) + 1)) with
          | false => rfl
          | true => exact absurd ⟨q1, q2⟩ this
      · rw [Nat.testBit_lt_two_pow (Nat.lt_of_lt_of_le n1 (Nat.pow_le_pow_right (by decide) (by omega)))]
        rfl
    rw [this]
    rfl
def dg (i : Nat) (c : Int) : Int := fgl i c % 10
def dsm : Nat → Int → Int
  | 0, _ => 0
  | r + 1, c => dg r c + dsm r c
theorem dg_bd (i : Nat) (c : Int) : 0 ≤ dg i c ∧ dg i c < 10 := by
  unfold dg
  omega
theorem dg_hi {r : Nat} {s c : Int} (hr : r < 4) (s0 : 0 ≤ s) (s1 : s < 10) (c0 : 0 ≤ c) (c1 : c < p10 r) : dg r (s * p10 r + c) = s := by
  rcases (show r = 0 ∨ r = 1 ∨ r = 2 ∨ r = 3 by omega) with rfl | rfl | rfl | rfl
  · have c1 : c < 1 := c1
    show (s * 1 + c) % 10 = s
    omega
  · have c1 : c < 10 := c1
    show (s * 10 + c) / 10 % 10 = s
    omega
  · have c1 : c < 100 := c1
    show (s * 100 + c) / 10 / 10 % 10 = s
    omega
  · have c1 : c < 1000 := c1
    show (s * 1000 + c) / 10 / 10 / 10 % 10 = s
    omega
theorem dg_lo {r i : Nat} {s c : Int} (hr : r < 4) (hi : i < r) (s0 : 0 ≤ s) (c0 : 0 ≤ c) (c1 : c < p10 r) : dg i (s * p10 r + c) = dg i c := by
  rcases (show r = 1 ∨ r = 2 ∨ r = 3 by omega) with rfl | rfl | rfl
  · have : i = 0 := by omega
    subst this
    show (s * 10 + c) % 10 = c % 10
    omega
  · rcases (show i = 0 ∨ i = 1 by omega) with rfl | rfl
    · show (s * 100 + c) % 10 = c % 10
      omega
    · show (s * 100 + c) / 10 % 10 = c / 10 % 10
      omega
  · rcases (show i = 0 ∨ i = 1 ∨ i = 2 by omega) with rfl | rfl | rfl
    · show (s * 1000 + c) % 10 = c % 10
      omega
    · show (s * 1000 + c) / 10 % 10 = c / 10 % 10
      omega
    · show (s * 1000 + c) / 10 / 10 % 10 = c / 10 / 10 % 10
      omega
theorem dsm_lo {r : Nat} {s c : Int} (hr : r < 4) (s0 : 0 ≤ s) (c0 : 0 ≤ c) (c1 : c < p10 r) : ∀ i : Nat, i ≤ r → dsm i (s * p10 r + c) = dsm i c
  | 0, _ => rfl
  | i + 1, h => by
    show dg i (s * p10 r + c) + dsm i (s * p10 r + c) = dg i c + dsm i c
    rw [dg_lo hr (by omega) s0 c0 c1, dsm_lo hr s0 c0 c1 i (by omega)]
theorem fig_p {r : Nat} (hr : r < 4) : fig (r : Int) = p10 r := by
  rcases (show r = 0 ∨ r = 1 ∨ r = 2 ∨ r = 3 by omega) with rfl | rfl | rfl | rfl <;> rfl
theorem Rch_code {W : Int → Int} : ∀ (r : Nat) (T cost v : Int), r ≤ 4 → Nb T → (∀ i : Nat, i < r → ∀ s, 0 ≤ s → s < 10 → Nb (W ((i : Int) * 10 + s))) → (Rch W r T cost v ↔ ∃ c : Int, (0 ≤ c ∧ c < p10 r) ∧ (∀ i : Nat, i < r → lland (W ((i : Int) * 10 + dg i c)) T = 0) ∧ (∀ i j : Nat, i < j → j < r → lland (W ((i : Int) * 10 + dg i c)) (W ((j : Int) * 10 + dg j c)) = 0) ∧ v = cost + 10000 * dsm r c + c)
  | 0, T, cost, v, _, _, _ => by
    constructor
    · intro h
      have h : v = cost := h
      exact ⟨0, ⟨by omega, by decide⟩, fun i hi => by omega, fun i j _ hj => by omega, by show v = cost + 10000 * 0 + 0; omega⟩
    · rintro ⟨c, ⟨c0, c1⟩, -, -, h⟩
      have c1 : c < 1 := c1
      have h : v = cost + 10000 * 0 + c := h
      show v = cost
      omega
  | r + 1, T, cost, v, hr, hT, hW => by
    have hp := p10_pos r
    have key : ∀ s c : Int, 0 ≤ s → s < 10 → 0 ≤ c → c < p10 r → (((∀ i : Nat, i < r + 1 → lland (W ((i : Int) * 10 + dg i (s * p10 r + c))) T = 0) ∧ (∀ i j : Nat, i < j → j < r + 1 → lland (W ((i : Int) * 10 + dg i (s * p10 r + c))) (W ((j : Int) * 10 + dg j (s * p10 r + c))) = 0)) ↔ (lland (W ((r : Int) * 10 + s)) T = 0 ∧ (∀ i : Nat, i < r → lland (W ((i : Int) * 10 + dg i c)) (llor T (W ((r : Int) * 10 + s))) = 0) ∧ (∀ i j : Nat, i < j → j < r → lland (W ((i : Int) * 10 + dg i c)) (W ((j : Int) * 10 + dg j c)) = 0))) := by
      intro s c s0 s1 c0 c1
      have eh := dg_hi (r := r) (by omega) s0 s1 c0 c1
      have el : ∀ i : Nat, i < r → dg i (s * p10 r + c) = dg i c := fun i hi => dg_lo (by omega) hi s0 c0 c1
      have hor : ∀ i : Nat, i < r → (lland (W ((i : Int) * 10 + dg i c)) (llor T (W ((r : Int) * 10 + s))) = 0 ↔ lland (W ((i : Int) * 10 + dg i c)) T = 0 ∧ lland (W ((i : Int) * 10 + dg i c)) (W ((r : Int) * 10 + s)) = 0) := fun i hi => lland_or (hW i (by omega) _ (dg_bd i c).1 (dg_bd i c).2) hT (hW r (by omega) s s0 s1)
      constructor
      · rintro ⟨q1, q2⟩
        refine ⟨by have := q1 r (by omega); rw [eh] at this; exact this, fun i hi => (hor i hi).mpr ⟨?_, ?_⟩, fun i j hij hj => ?_⟩
        · have := q1 i (by omega)
          rw [el i hi] at this
          exact this
        · have := q2 i r hi (by omega)
          rw [el i hi, eh] at this
          exact this
        · have := q2 i j hij (by omega)
          rw [el i (by omega), el j hj] at this
          exact this
      · rintro ⟨q0, q1, q2⟩
        refine ⟨fun i hi => ?_, fun i j hij hj => ?_⟩
        · by_cases h : i = r
          · rw [h, eh]
            exact q0
          · rw [el i (by omega)]
            exact ((hor i (by omega)).mp (q1 i (by omega))).1
        · by_cases h : j = r
          · rw [h, eh, el i (by omega)]
            exact ((hor i (by omega)).mp (q1 i (by omega))).2
          · rw [el i (by omega), el j (by omega)]
            exact q2 i j hij (by omega)
    have ev : ∀ s c : Int, 0 ≤ s → s < 10 → 0 ≤ c → c < p10 r → cost + s * (10000 + fig (r : Int)) + 10000 * dsm r c + c = cost + 10000 * dsm (r + 1) (s * p10 r + c) + (s * p10 r + c) := by
      intro s c s0 s1 c0 c1
      rw [fig_p (by omega), Int.mul_add]
      show _ = cost + 10000 * (dg r (s * p10 r + c) + dsm r (s * p10 r + c)) + (s * p10 r + c)
      rw [dg_hi (by omega) s0 s1 c0 c1, dsm_lo (by omega) s0 c0 c1 r (by omega)]
      omega
    constructor
    · rintro ⟨s, ⟨s0, s1⟩, h1, h2⟩
      obtain ⟨c, ⟨c0, c1⟩, q1, q2, q3⟩ := (Rch_code r _ _ v (by omega) (Nb_or hT (hW r (by omega) s s0 s1)) (fun i hi => hW i (by omega))).mp h2
      have k := (key s c s0 s1 c0 c1).mpr ⟨h1, q1, q2⟩
      have b1 : 0 ≤ s * p10 r := Int.mul_nonneg s0 (by omega)
      have b2 : s * p10 r ≤ 9 * p10 r := Int.mul_le_mul_of_nonneg_right (by omega) (by omega)
      refine ⟨s * p10 r + c, ⟨by omega, ?_⟩, k.1, k.2, by rw [← ev s c s0 s1 c0 c1]; exact q3⟩
      show s * p10 r + c < 10 * p10 r
      omega
    · rintro ⟨d, ⟨d0, d1⟩, q1, q2, q3⟩
      have d1 : d < 10 * p10 r := d1
      have hd := Int.ediv_mul_add_emod d (p10 r)
      have c0 := Int.emod_nonneg d (show p10 r ≠ 0 by omega)
      have c1 := Int.emod_lt_of_pos d (show 0 < p10 r by omega)
      have s0 : 0 ≤ d / p10 r := Int.ediv_nonneg d0 (by omega)
      have s1 : d / p10 r < 10 := Int.ediv_lt_of_lt_mul (by omega) d1
      generalize d / p10 r = s at hd s0 s1
      generalize d % p10 r = c at hd c0 c1
      subst hd
      have k := (key s c s0 s1 c0 c1).mp ⟨q1, q2⟩
      refine ⟨s, ⟨s0, s1⟩, k.1, ?_⟩
      refine (Rch_code r _ _ v (by omega) (Nb_or hT (hW r (by omega) s s0 s1)) (fun i hi => hW i (by omega))).mpr ⟨c, ⟨c0, c1⟩, k.2.1, k.2.2, ?_⟩
      rw [ev s c s0 s1 c0 c1]
      exact q3
theorem mtv_at {F : Nat → Int → Int} {n x y sx sy : Int} (hn : 2 ≤ n ∧ n ≤ 4) (x0 : 0 ≤ x) (xy : x < y) (y1 : y < n) (a0 : 0 ≤ sx) (a1 : sx < 10) (b0 : 0 ≤ sy) (b1 : sy < 10) : mtv F n (100 * (n * x + y) + 10 * sx + sy) = if anm F (F 18 x) sx (F 18 y) sy 60 1 = true then 1 else 0 := by
  have e1 : (100 * (n * x + y) + 10 * sx + sy) / 100 = n * x + y := by omega
  have e2 : (n * x + y) / n = x ∧ (n * x + y) % n = y := by
    rcases (show n = 2 ∨ n = 3 ∨ n = 4 by omega) with rfl | rfl | rfl <;> omega
  have e4 : (100 * (n * x + y) + 10 * sx + sy) / 10 % 10 = sx := by omega
  have e5 : (100 * (n * x + y) + 10 * sx + sy) % 10 = sy := by omega
  unfold mtv
  rw [e1, e2.1, e2.2, e4, e5]
  by_cases h : anm F (F 18 x) sx (F 18 y) sy 60 1 = true
  · rw [if_pos ⟨xy, h⟩, if_pos h]
  · rw [if_neg (fun q => h q.2), if_neg h]
theorem apt_rows {F : Nat → Int → Int} {g W : Int → Int} {n c : Int} (hn : 2 ≤ n ∧ n ≤ 4) (hg : ∀ i, 0 ≤ i → i < 100 * (n * n) → g i = mtv F n i) (hM : ∀ i t, 0 ≤ i → i < n → 0 ≤ t → t < 10 → Mk F (F 18 i) (F 7 (F 18 i) + t) (W ((n - 1 - i) * 10 + t))) : Apt g n c ↔ ∀ i j : Nat, i < j → j < n.toNat → lland (W ((i : Int) * 10 + dg i c)) (W ((j : Int) * 10 + dg j c)) = 0 := by
  have key : ∀ x y : Int, 0 ≤ x → x < y → y < n → (Aok g c n x y ↔ lland (W ((((n - 1 - y).toNat : Nat) : Int) * 10 + dg (n - 1 - y).toNat c)) (W ((((n - 1 - x).toNat : Nat) : Int) * 10 + dg (n - 1 - x).toNat c)) = 0) := by
    intro x y x0 xy y1
    have hi := idx_bd hn x0 (show x < n by omega) (show 0 ≤ y by omega) y1
    have f1 := dg_bd (n - 1 - x).toNat c
    have f2 := dg_bd (n - 1 - y).toNat c
    have m1 := hM x (dg (n - 1 - x).toNat c) x0 (by omega) f1.1 f1.2
    have m2 := hM y (dg (n - 1 - y).toNat c) (by omega) y1 f2.1 f2.2
    have e1 : (((n - 1 - x).toNat : Nat) : Int) = n - 1 - x := by omega
    have e2 : (((n - 1 - y).toNat : Nat) : Int) = n - 1 - y := by omega
    rw [e1, e2, lland_comm, mk_dj m1 m2]
    show g (100 * (n * x + y) + 10 * dg (n - 1 - x).toNat c + dg (n - 1 - y).toNat c) = 0 ↔ _
    rw [hg _ (by omega) (by omega), mtv_at hn x0 xy y1 f1.1 f1.2 f2.1 f2.2]
    cases anm F (F 18 x) (dg (n - 1 - x).toNat c) (F 18 y) (dg (n - 1 - y).toNat c) 60 1 with
    | true => simp
    | false => simp
  constructor
  · intro h i j hij hj
    have q := (key (n - 1 - j) (n - 1 - i) (by omega) (by omega) (by omega)).mp (h _ _ (by omega) (by omega) (by omega))
    rw [show (n - 1 - (n - 1 - (i : Int))).toNat = i by omega, show (n - 1 - (n - 1 - (j : Int))).toNat = j by omega] at q
    exact q
  · intro h x y x0 xy y1
    exact (key x y x0 xy y1).mpr (h _ _ (by omega) (by omega))
def BS (g : Int → Int) (n code best least : Int) : Prop := (best = -1 ∧ least = 1000000 ∧ ∀ c, 0 ≤ c → c < code → ¬ Apt g n c) ∨ ((0 ≤ best ∧ best < code) ∧ Apt g n best ∧ least = smo 4 best 0 ∧ ∀ c, 0 ≤ c → c < code → Apt g n c → smo 4 best 0 < smo 4 c 0 ∨ (smo 4 best 0 = smo 4 c 0 ∧ best ≤ c))
theorem smo_bd {c : Int} (h0 : 0 ≤ c) (h1 : c < 10000) : 0 ≤ smo 4 c 0 ∧ smo 4 c 0 ≤ 36 := by
  rw [smo_eq h0 h1]
  omega
theorem BS_t {g : Int → Int} {n code best least : Int} (c0 : 0 ≤ code) (c1 : code < 10000) (h : BS g n code best least) (ha : Apt g n code) (hl : smo 4 code 0 < least) : BS g n (code + 1) code (smo 4 code 0) := by
  refine Or.inr ⟨by omega, ha, rfl, fun c q0 q1 q2 => ?_⟩
  by_cases hc : c = code
  · rw [hc]
    exact Or.inr ⟨rfl, by omega⟩
  · rcases h with ⟨-, -, z⟩ | ⟨z1, z2, z3, z4⟩
    · exact absurd q2 (z c q0 (by omega))
    · have := z4 c q0 (by omega) q2
      omega
theorem BS_f {g : Int → Int} {n code best least : Int} (c0 : 0 ≤ code) (c1 : code < 10000) (h : BS g n code best least) (hn : ¬ (smo 4 code 0 < least ∧ Apt g n code)) : BS g n (code + 1) best least := by
  have hs := smo_bd c0 c1
  rcases h with ⟨z0, z1, z⟩ | ⟨z1, z2, z3, z4⟩
  · refine Or.inl ⟨z0, z1, fun c q0 q1 => ?_⟩
    by_cases hc : c = code
    · rw [hc]
      exact fun q => hn ⟨by omega, q⟩
    · exact z c q0 (by omega)
  · refine Or.inr ⟨by omega, z2, z3, fun c q0 q1 q2 => ?_⟩
    by_cases hc : c = code
    · rw [hc] at q2 ⊢
      have : ¬ smo 4 code 0 < least := fun q => hn ⟨q, q2⟩
      omega
    · exact z4 c q0 (by omega) q2
theorem BS_ex {g : Int → Int} {n : Int} : ∀ j : Nat, j ≤ 10000 → ∃ best least, BS g n (j : Int) best least
  | 0, _ => ⟨-1, 1000000, Or.inl ⟨rfl, rfl, fun c c0 c1 => by omega⟩⟩
  | j + 1, hj => by
    obtain ⟨b, le, h⟩ := BS_ex (g := g) (n := n) j (by omega)
    rw [show ((j + 1 : Nat) : Int) = (j : Int) + 1 by omega]
    rcases Classical.em (smo 4 (j : Int) 0 < le ∧ Apt g n (j : Int)) with q | q
    · exact ⟨_, _, BS_t (by omega) (by omega) h q.2 q.1⟩
    · exact ⟨_, _, BS_f (by omega) (by omega) h q⟩
theorem BS_u {g : Int → Int} {n code b le b' le' : Int} (h : BS g n code b le) (h' : BS g n code b' le') : b = b' ∧ le = le' := by
  rcases h with ⟨z0, z1, z⟩ | ⟨z1, z2, z3, z4⟩
  · rcases h' with ⟨y0, y1, y⟩ | ⟨y1, y2, y3, y4⟩
    · omega
    · exact absurd y2 (z b' y1.1 y1.2)
  · rcases h' with ⟨y0, y1, y⟩ | ⟨y1, y2, y3, y4⟩
    · exact absurd z2 (y b z1.1 z1.2)
    · have q1 := z4 b' y1.1 y1.2 y2
      have q2 := y4 b z1.1 z1.2 z2
      have : b = b' := by omega
      subst this
      exact ⟨rfl, by omega⟩
theorem dsm_smo {n c : Int} (hn : 2 ≤ n ∧ n ≤ 4) (c0 : 0 ≤ c) (c1 : c < p10 n.toNat) : dsm n.toNat c = smo 4 c 0 ∧ c < 10000 := by
  rcases (show n = 2 ∨ n = 3 ∨ n = 4 by omega) with rfl | rfl | rfl
  · have c1 : c < 100 := c1
    rw [smo_eq c0 (by omega)]
    show c / 10 % 10 + (c % 10 + 0) = _ ∧ _
    omega
  · have c1 : c < 1000 := c1
    rw [smo_eq c0 (by omega)]
    show c / 10 / 10 % 10 + (c / 10 % 10 + (c % 10 + 0)) = _ ∧ _
    omega
  · have c1 : c < 10000 := c1
    rw [smo_eq c0 (by omega)]
    show c / 10 / 10 / 10 % 10 + (c / 10 / 10 % 10 + (c / 10 % 10 + (c % 10 + 0))) = _ ∧ _
    omega
theorem parted_eq {F : Nat → Int → Int} {g W : Int → Int} {n best least : Int} (hn : 2 ≤ n ∧ n ≤ 4) (hg : ∀ i, 0 ≤ i → i < 100 * (n * n) → g i = mtv F n i) (hM : ∀ i t, 0 ≤ i → i < n → 0 ≤ t → t < 10 → Mk F (F 18 i) (F 7 (F 18 i) + t) (W ((n - 1 - i) * 10 + t))) (hb : BS g n (p10 n.toNat) best least) : (best = -1 → lpa W n.toNat 0 0 10000000 = 10000000) ∧ (best ≠ -1 → lpa W n.toNat 0 0 10000000 = 10000 * least + best ∧ (0 ≤ best ∧ best < 10000) ∧ (0 ≤ least ∧ least ≤ 36)) := by
  have hW : ∀ i : Nat, i < n.toNat → ∀ s, 0 ≤ s → s < 10 → Nb (W ((i : Int) * 10 + s)) := by
    intro i hi s s0 s1
    have := hM (n - 1 - i) s (by omega) (by omega) s0 s1
    rw [show n - 1 - (n - 1 - (i : Int)) = (i : Int) by omega] at this
    exact Mk_nb this
  have hR : ∀ v, Rch W n.toNat 0 0 v ↔ ∃ c : Int, (0 ≤ c ∧ c < p10 n.toNat) ∧ Apt g n c ∧ v = 10000 * smo 4 c 0 + c := by
    intro v
    rw [Rch_code n.toNat 0 0 v (by omega) Nb_0 hW]
    constructor
    · rintro ⟨c, q0, q1, q2, q3⟩
      refine ⟨c, q0, (apt_rows hn hg hM).mpr q2, ?_⟩
      rw [q3, (dsm_smo hn q0.1 q0.2).1]
      omega
    · rintro ⟨c, q0, q1, q2⟩
      refine ⟨c, q0, fun i hi => lland_0 (hW i hi _ (dg_bd i c).1 (dg_bd i c).2), (apt_rows hn hg hM).mp q1, ?_⟩
      rw [q2, (dsm_smo hn q0.1 q0.2).1]
      omega
  obtain ⟨a1, a2, a3⟩ := lpa_spec (W := W) n.toNat 0 0 10000000
  generalize lpa W n.toNat 0 0 10000000 = L at a1 a2 a3 ⊢
  rcases hb with ⟨z0, z1, z⟩ | ⟨z1, z2, z3, z4⟩
  · refine ⟨fun _ => ?_, fun q => absurd z0 q⟩
    rcases a1 with a1 | a1
    · exact a1
    · obtain ⟨c, q0, q1, -⟩ := (hR L).mp a1.1
      exact absurd q1 (z c q0.1 q0.2)
  · refine ⟨fun q => by omega, fun _ => ?_⟩
    have hd := dsm_smo hn z1.1 z1.2
    have hs := smo_bd z1.1 hd.2
    have h1 := a3 _ ((hR _).mpr ⟨best, z1, z2, rfl⟩)
    rcases a1 with a1 | a1
    · omega
    · obtain ⟨c, q0, q1, q2⟩ := (hR L).mp a1.1
      have hd2 := dsm_smo hn q0.1 q0.2
      have := z4 c q0.1 q0.2 q1
      omega
def mml (s : Int) : Nat → Int → Int → (Int → Int) → Int → Int
  | 0, _, _, g => g
  | j + 1, b, k, g => if bt s b = true then mml s j (b + 1) (k + 1) (sf g k b) else mml s j (b + 1) k g
theorem mml_spec {s B n : Int} : ∀ (j : Nat) (b k : Int) (g : Int → Int), b + j = B → k = n - bsum s j b → (∀ i, i < k → mml s j b k g i = g i) ∧ ∀ i, k ≤ i → i < n → ∃ c, (b ≤ c ∧ c < B) ∧ bt s c = true ∧ bsum s (B - c).toNat c = n - i ∧ mml s j b k g i = c
  | 0, b, k, g, e0, e1 => by
    have e1 : k = n - 0 := e1
    exact ⟨fun _ _ => rfl, fun i i0 i1 => by omega⟩
  | j + 1, b, k, g, e0, e1 => by
    cases hb : bt s b with
    | true =>
      have em : mml s (j + 1) b k g = mml s j (b + 1) (k + 1) (sf g k b) := by
        show (if bt s b = true then _ else _) = _
        rw [if_pos hb]
      have e1' := e1
      rw [bsum_t hb] at e1
      obtain ⟨i1, i2⟩ := mml_spec (s := s) (B := B) (n := n) j (b + 1) (k + 1) (sf g k b) (by omega) (by omega)
      rw [em]
      refine ⟨fun i hi => ?_, fun i i0 i3 => ?_⟩
      · rw [i1 i (by omega)]
        exact if_neg (by omega)
      · by_cases hk : i = k
        · refine ⟨b, by omega, hb, ?_, ?_⟩
          · rw [show (B - b).toNat = j + 1 by omega]
            omega
          · rw [i1 i (by omega), hk]
            exact if_pos rfl
        · obtain ⟨c, q0, q1⟩ := i2 i (by omega) i3
          exact ⟨c, by omega, q1⟩
    | false =>
      have em : mml s (j + 1) b k g = mml s j (b + 1) k g := by
        show (if bt s b = true then _ else _) = _
        rw [if_neg (by rw [hb]; decide)]
      rw [bsum_f hb] at e1
      obtain ⟨i1, i2⟩ := mml_spec (s := s) (B := B) (n := n) j (b + 1) k g (by omega) (by omega)
      rw [em]
      refine ⟨i1, fun i i0 i3 => ?_⟩
      obtain ⟨c, q0, q1⟩ := i2 i (by omega) i3
      exact ⟨c, by omega, q1⟩
theorem bsum_z {s : Int} : ∀ (j : Nat) (k : Int), (∀ c, k ≤ c → c < k + j → bt s c = false) → bsum s j k = 0
  | 0, _, _ => rfl
  | j + 1, k, h => by
    rw [bsum_f (h k (by omega) (by omega))]
    exact bsum_z j (k + 1) (fun c c0 c1 => h c (by omega) (by omega))
theorem bsum_add {s : Int} : ∀ (i j : Nat) (k : Int), bsum s (i + j) k = bsum s i k + bsum s j (k + i)
  | 0, j, k => by
    rw [Nat.zero_add, show k + ((0 : Nat) : Int) = k by omega]
    show _ = 0 + _
    omega
  | i + 1, j, k => by
    rw [show i + 1 + j = (i + j) + 1 by omega]
    show iand (ishr s k) 1 + bsum s (i + j) (k + 1) = iand (ishr s k) 1 + bsum s i (k + 1) + bsum s j (k + ((i + 1 : Nat) : Int))
    rw [bsum_add i j (k + 1), show k + 1 + (i : Int) = k + ((i + 1 : Nat) : Int) by omega]
    omega
theorem bsum_cut {s B : Int} (hB : 0 ≤ B ∧ B ≤ 7) (h0 : 0 ≤ s) (h1 : s < ishl 1 B) : bsum s 30 0 = bsum s B.toNat 0 ∧ s < 128 := by
  have e := shl1_n ⟨B.toNat, by omega⟩
  dsimp only at e
  rw [show ((B.toNat : Nat) : Int) = B by omega] at e
  rw [e] at h1
  have hp : 2 ^ B.toNat ≤ 2 ^ 7 := Nat.pow_le_pow_right (by decide) (by omega)
  have hs : s.toNat < 2 ^ B.toNat := by omega
  refine ⟨?_, by omega⟩
  have hb : ∀ c, B ≤ c → c < 30 → bt s c = false := by
    intro c c0 c1
    have := bt_n (n := s.toNat) (k := c.toNat) (by omega) (by omega)
    rw [show ((s.toNat : Nat) : Int) = s by omega, show ((c.toNat : Nat) : Int) = c by omega] at this
    rw [this]
    exact Nat.testBit_lt_two_pow (Nat.lt_of_lt_of_le hs (Nat.pow_le_pow_right (by decide) (by omega)))
  have ha := bsum_add (s := s) B.toNat (30 - B.toNat) 0
  rw [show B.toNat + (30 - B.toNat) = 30 by omega] at ha
  rw [ha, bsum_z (30 - B.toNat) _ (fun c c0 c1 => hb c (by omega) (by omega))]
  omega
