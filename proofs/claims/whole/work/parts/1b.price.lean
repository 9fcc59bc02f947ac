/-! house; BALES and PRICES -/
theorem ix11 {k j : Nat} : (11 : Int32) * nI k + nI j = nI (11 * k + j) := by
  show nI 11 * nI k + nI j = _
  rw [pk_mul, nI_add]
theorem op_house {N : Nat} {g : Nat × Nat} {s u : St} (h : Rel N g s u) (a b : Int32) : Same N g (F_X10_house g a b s) (F_X11_house g a b u) := by
  obtain ⟨h0, h1, h2, h3⟩ := h.2.2.2.2.2.2.2.2.2.1
  unfold F_X10_house F_X11_house
  simp only [F_within, in_0w, in_0_10, bd_so, bI_if, h1, h2]
  by_cases q1 : bw a 0 (nI g.2 - 1) = true
  · by_cases q2 : bw b 0 10 = true
    · obtain ⟨k, hk, rfl⟩ := bw_lt (by omega) q1
      obtain ⟨j, hj, rfl⟩ := bw_of (n := 10) rfl q2
      obtain ⟨e0, e1, e2, e3, e4, e5, e9, e10, -⟩ := h3 k hk
      have hR := h.read
      simp only [q1, q2, if_true, ix11, gd_of (inb_nI (show k < 12 by omega) (by omega)), gd_of (ltb_nI hk (by omega)), gd_of (inb_nI (show 11 * k + j < 132 by omega) (by omega)), nI_clamp (show k < 2 ^ 31 by omega), nI_clamp (show 11 * k + j < 2 ^ 31 by omega)]
      rcases (show j = 0 ∨ j = 1 ∨ j = 2 ∨ j = 3 ∨ j = 4 ∨ j = 5 ∨ j = 6 ∨ j = 7 ∨ j = 8 ∨ j = 9 ∨ j = 10 by omega) with rfl | rfl | rfl | rfl | rfl | rfl | rfl | rfl | rfl | rfl | rfl
      · exact ⟨s 26 k 0, _, _, rfl, by rw [← e0]; rfl, hR⟩
      · exact ⟨s 26 k 1, _, _, rfl, by rw [← e1]; rfl, hR⟩
      · exact ⟨s 26 k 2, _, _, rfl, by rw [← e2]; rfl, hR⟩
      · exact ⟨s 26 k 5, _, _, rfl, by rw [← e3]; rfl, hR⟩
      · exact ⟨s 26 k 3, _, _, rfl, by rw [← e4]; rfl, hR⟩
      · exact ⟨s 27 k 0, _, _, rfl, by rw [← e5 0 (by omega)]; rfl, hR⟩
      · exact ⟨s 27 k 1, _, _, rfl, by rw [← e5 1 (by omega)]; rfl, hR⟩
      · exact ⟨s 27 k 2, _, _, rfl, by rw [← e5 2 (by omega)]; rfl, hR⟩
      · exact ⟨s 27 k 3, _, _, rfl, by rw [← e5 3 (by omega)]; rfl, hR⟩
      · exact ⟨s 26 k 6, _, _, rfl, by rw [← e9]; rfl, hR⟩
      · exact ⟨s 26 k 7, _, _, rfl, by rw [← e10]; rfl, hR⟩
    · simp only [q1, q2, if_true]
      exact ⟨_, _, _, rfl, rfl, h.read⟩
  · simp only [q1]
    exact ⟨_, _, _, rfl, rfl, h.read⟩
/-- v and the numbers f i, f (i + 1) .. (m of them) -/
def smI (f : Nat → Int32) : Nat → Nat → Int32 → Int32
  | _, 0, v => v
  | i, m + 1, v => smI f (i + 1) m (v + f i)
theorem smI_congr {f h : Nat → Int32} : ∀ (m i : Nat) (v : Int32), (∀ j, j < i + m → f j = h j) → smI f i m v = smI h i m v
  | 0, _, _, _ => rfl
  | m + 1, i, v, e => by
    rw [smI, smI, e i (by omega)]
    exact smI_congr m (i + 1) _ (fun j hj => e j (by omega))
theorem smI_nat {f : Nat → Int32} {B : Nat} : ∀ (m i V : Nat), (∀ j, j < i + m → ∃ n : Nat, n ≤ B ∧ f j = nI n) → ∃ W : Nat, W ≤ V + B * m ∧ smI f i m (nI V) = nI W
  | 0, _, V, _ => ⟨V, by omega, rfl⟩
  | m + 1, i, V, e => by
    obtain ⟨n, hn, e1⟩ := e i (by omega)
    rw [smI, e1, nI_add]
    obtain ⟨W, hW, e2⟩ := smI_nat m (i + 1) (V + n) (fun j hj => e j (by omega))
    refine ⟨W, ?_, e2⟩
    rw [Nat.mul_succ]
    omega
theorem X_bales_loop (g : Nat × Nat) (j : Nat) (hj : j < 4) (s : St) (h0 : g.1 ≤ 6) (h1 : s 4 0 12 = nI g.1) : ∀ (m i n : Nat) (v : Int32), i + m = g.1 → m < n → F_X1_balesOf_9 g (nI j) n v (nI i) s = some (smI (fun k => s 15 k j) i m v, s)
  | 0, i, n + 1, v, hi, _ => by
    rw [F_X1_balesOf_9, h1, if_pos (nI_le (by omega) (by omega))]
    rfl
  | m + 1, i, n + 1, v, hi, hn => by
    rw [F_X1_balesOf_9, h1, if_neg (nI_ge (by omega) (by omega)), gd_of (inb_nI (by omega) (by omega)), gd_of (ltb_nI (by omega) (by omega)), gd_of (inb_nI (by omega) (by omega)), nI_clamp (by omega), nI_clamp (by omega), nI_1]
    exact X_bales_loop g j hj s h0 h1 m (i + 1) n _ (by omega) (by omega)
theorem M_bales_loop (g : Nat × Nat) (j : Nat) (hj : j < 4) (u : St) (h0 : g.1 ≤ 6) (h1 : u 60 0 15 = nI g.1) : ∀ (m i n : Nat) (v : Int32), i + m = g.1 → m < n → F_X11_balesOf_9 g (nI j) n v (nI i) u = some (smI (fun k => u 74 0 (4 * k + j)) i m v, u)
  | 0, i, n + 1, v, hi, _ => by
    rw [F_X11_balesOf_9, h1, if_pos (nI_le (by omega) (by omega))]
    rfl
  | m + 1, i, n + 1, v, hi, hn => by
    rw [F_X11_balesOf_9, h1, if_neg (nI_ge (by omega) (by omega)), ix4, gd_of (inb_nI (by omega) (by omega)), nI_clamp (by omega), nI_1]
    exact M_bales_loop g j hj u h0 h1 m (i + 1) n _ (by omega) (by omega)
/-- both sides' BALES of a SORT: one number, not below 0, not too large -/
theorem bales_same {N nM : Nat} {s u : St} (hN : N ≤ 600) (hD : RPo N nM (s 7 0) (s 15) (u 66 0) (u 74 0)) (h0 : nM ≤ 6) (h1 : s 4 0 12 = nI nM) (h2 : u 60 0 15 = nI nM) {j : Nat} (hj : j < 4) (nH : Nat) : ∃ B : Nat, B ≤ 1000000000 ∧ F_X1_balesOf (nM, nH) (nI j) s = some (nI B, s) ∧ F_X11_balesOf (nM, nH) (nI j) u = some (nI B, u) := by
  obtain ⟨g1, ⟨n, g2, g3⟩, g4, -⟩ := hD j hj
  have e1 := X_bales_loop (nM, nH) j hj s h0 h1 nM 0 fu (s 7 0 j) (by show 0 + nM = nM; omega) (lt_fu (by omega))
  have e2 := M_bales_loop (nM, nH) j hj u h0 h2 nM 0 fu (u 66 0 j) (by show 0 + nM = nM; omega) (lt_fu (by omega))
  rw [nI_0] at e1 e2
  rw [g1, smI_congr nM 0 _ (fun i hi => (g4 i (by omega)).1)] at e2
  obtain ⟨W, hW, e3⟩ := smI_nat (f := fun k => s 15 k j) (B := 9999) nM 0 n (fun i hi => (g4 i (by omega)).2)
  rw [g3] at e1 e2
  rw [e3] at e1 e2
  refine ⟨W, ?_, ?_, ?_⟩
  · have : 9999 * nM ≤ 9999 * 6 := Nat.mul_le_mul_left _ h0
    omega
  · unfold F_X1_balesOf
    rw [gd_of (inb_nI hj (by omega)), nI_clamp (by omega), g3]
    exact e1
  · unfold F_X11_balesOf
    rw [gd_of (inb_nI hj (by omega)), nI_clamp (by omega), g1, g3]
    exact e2
def ndI (f h : Nat → Int32) (j : Nat) : Nat → Nat → Int32 → Int32
  | _, 0, v => v
  | i, m + 1, v => ndI f h j (i + 1) m (if ((h i) >>> (nI j &&& 31)) &&& 1 = 1 then v + f i else v)
theorem ndI_congr {f h f' h' : Nat → Int32} {j : Nat} : ∀ (m i : Nat) (v : Int32), (∀ k, k < i + m → f k = f' k ∧ h k = h' k) → ndI f h j i m v = ndI f' h' j i m v
  | 0, _, _, _ => rfl
  | m + 1, i, v, e => by
    obtain ⟨e1, e2⟩ := e i (by omega)
    rw [ndI, ndI, e1, e2]
    exact ndI_congr m (i + 1) _ (fun k hk => e k (by omega))
theorem X_need_loop (g : Nat × Nat) (j : Nat) (s : St) (h0 : g.1 ≤ 6) (h1 : s 4 0 12 = nI g.1) (kx : Int32 → St → Option (Int32 × St)) : ∀ (m i n : Nat) (v : Int32), i + m = g.1 → m < n → F_X1_priceNow_4 g (nI j) kx n v (nI i) s = kx (ndI (fun k => s 14 k 0) (fun k => s 14 k 1) j i m v) s
  | 0, i, n + 1, v, hi, _ => by
    rw [F_X1_priceNow_4, h1, if_pos (nI_le (by omega) (by omega))]
    rfl
  | m + 1, i, n + 1, v, hi, hn => by
    rw [F_X1_priceNow_4, h1, if_neg (nI_ge (by omega) (by omega))]
    simp only [F_X1_priceNow_37, F_X4_canUse, gd_of (inb_nI (show i < 6 by omega) (by omega)), gd_of (ltb_nI (show i < g.1 by omega) (by omega)), nI_clamp (show i < 2 ^ 31 by omega), nI_1, bd_ite, bd_so, i10, if_true, if_false, X_need_loop g j s h0 h1 kx m (i + 1) n _ (by omega) (by omega)]
    rw [ndI]
    by_cases e : ((s 14 i 1) >>> (nI j &&& 31)) &&& 1 = 1
    · rw [if_pos e, if_pos e]
    · rw [if_neg e, if_neg e]
theorem M_need_loop (g : Nat × Nat) (j : Nat) (u : St) (h0 : g.1 ≤ 6) (h1 : u 60 0 15 = nI g.1) (fe : Int32) (kx : Int32 → St → Option (Int32 × St)) : ∀ (m i n : Nat) (v : Int32), i + m = g.1 → m < n → F_X11_priceOf_7 g (nI j) kx n (4 * v + fe) (nI i) u = kx (4 * (ndI (u 70 0) (u 71 0) j i m v) + fe) u
  | 0, i, n + 1, v, hi, _ => by
    rw [F_X11_priceOf_7, h1, if_pos (nI_le (by omega) (by omega))]
    rfl
  | m + 1, i, n + 1, v, hi, hn => by
    rw [F_X11_priceOf_7, h1, if_neg (nI_ge (by omega) (by omega))]
    have e4 : ∀ x : Int32, 4 * v + fe + 4 * x = 4 * (v + x) + fe := fun x => by rw [Int32.mul_add]; ac_rfl
    simp only [F_X11_priceOf_42, gd_of (inb_nI (show i < 6 by omega) (by omega)), nI_clamp (show i < 2 ^ 31 by omega), nI_1, e4, Int32.add_zero, M_need_loop g j u h0 h1 fe kx m (i + 1) n _ (by omega) (by omega)]
    rw [ndI]
    by_cases e : ((u 71 0 i) >>> (nI j &&& 31)) &&& 1 = 1
    · rw [if_pos e, if_pos e]
    · rw [if_neg e, if_neg e]
def prc (q : Int32) : Int32 := if 1 ≤ q then (if q ≤ 5000 then q else 5000) else 1
theorem prc_x (q : Int32) : (if (if (1 : Int32) < q then q else 1) < 5000 then (if (1 : Int32) < q then q else 1) else 5000) = prc q := by
  unfold prc
  by_cases h1 : 1 < q
  · have h2 : (1 : Int32) ≤ q := Int32.le_of_lt h1
    rw [if_pos h1, if_pos h2]
    by_cases h3 : q < 5000
    · rw [if_pos h3, if_pos (Int32.le_of_lt h3)]
    · rw [if_neg h3]
      by_cases h4 : q ≤ 5000
      · rw [if_pos h4]
        exact Int32.le_antisymm (Int32.not_lt.mp h3) h4
      · rw [if_neg h4]
  · rw [if_neg h1, if_pos (by decide)]
    by_cases h2 : (1 : Int32) ≤ q
    · have : q = 1 := Int32.le_antisymm (Int32.not_lt.mp h1) h2
      subst this
      decide
    · rw [if_neg h2]
theorem prc_in (q : Int32) : ∃ n : Nat, 1 ≤ n ∧ n ≤ 5000 ∧ prc q = nI n := by
  unfold prc
  by_cases h1 : 1 ≤ q
  · rw [if_pos h1]
    by_cases h2 : q ≤ 5000
    · rw [if_pos h2]
      exact bw_of1 (x := q) (L := 1) (M := 5000) (a := 1) (n := 5000) rfl (by omega) rfl (by simp [bw, h1, h2])
    · rw [if_neg h2]
      exact ⟨5000, by omega, by omega, rfl⟩
  · rw [if_neg h1]
    exact ⟨1, by omega, by omega, rfl⟩
/-- both sides' PRICE of a SORT just now -/
theorem price_same {N nM nH : Nat} {s u : St} (hN : N ≤ 600) (hC : RCo (s 4 0 4) (s 4 0 5) (s 4 0 13) (s 5 0) (s 6 0) (u 60 0 8) (u 60 0 9) (u 60 0 10) (u 64 0) (u 65 0)) (hD : RPo N nM (s 7 0) (s 15) (u 66 0) (u 74 0)) (hG : RMi nM (s 4 0 12) (s 4 0 13) (s 14) (s 16) (u 60 0 15) (u 70 0) (u 71 0) (u 72 0) (u 73 0) (u 75 0) (u 76 0)) {j : Nat} (hj : j < 4) :
    ∃ n : Nat, 1 ≤ n ∧ n ≤ 5000 ∧ F_X1_priceNow (nM, nH) (nI j) s = some (nI n, s) ∧ F_X11_priceOf (nM, nH) (nI j) u = some (nI n, u) := by
  obtain ⟨h0, h1, h2, h3, -⟩ := hG
  obtain ⟨B, hB, b1, b2⟩ := bales_same hN hD h0 h1 h2 hj nH
  obtain ⟨-, -, -, c4, -, -, c7⟩ := hC
  have c8 := (c7 j hj).1
  have e1 := X_need_loop (nM, nH) j s h0 h1 (F_X1_priceNow_43 (nM, nH) (nI j)) nM 0 fu 0 (by show 0 + nM = nM; omega) (lt_fu (by omega))
  have e2 := M_need_loop (nM, nH) j u h0 h2 (u 60 0 9) (F_X11_priceOf_50 (nM, nH) (nI j)) nM 0 fu 0 (by show 0 + nM = nM; omega) (lt_fu (by omega))
  rw [nI_0] at e1 e2
  have z : (4 : Int32) * 0 + u 60 0 9 = u 60 0 9 := by
    rw [show (4 : Int32) * 0 = 0 from rfl, Int32.zero_add]
  rw [z, ndI_congr nM 0 0 (f' := fun k => s 14 k 0) (h' := fun k => s 14 k 1) (fun k hk => ⟨(h3 k (by omega)).1, (h3 k (by omega)).2.1⟩)] at e2
  generalize hw : ndI (fun k => s 14 k 0) (fun k => s 14 k 1) j 0 nM 0 = w at e1 e2
  have hb1 : (1 : Int32) + nI B = nI (B + 1) := by
    show nI 1 + nI B = _
    rw [nI_add, Nat.add_comm]
  have hmax : (if (1 : Int32) < nI (B + 1) then nI (B + 1) else 1) = nI (B + 1) := by
    by_cases q : (1 : Int32) < nI (B + 1)
    · rw [if_pos q]
    · rw [if_neg q]
      have : ¬ 1 < B + 1 := fun q2 => q (nI_lt (a := 1) q2 (by omega))
      have : B = 0 := by omega
      subst this
      rfl
  have hne : ne0 (nI (B + 1)) = true := by
    have : ¬ nI (B + 1) = 0 := nI_ne0 (by omega) (by omega)
    simp [ne0, this]
  obtain ⟨n, n1, n2, n3⟩ := prc_in (s 5 0 j * (4 * w + s 4 0 5) / nI (B + 1))
  refine ⟨n, n1, n2, ?_, ?_⟩
  · unfold F_X1_priceNow
    rw [e1]
    unfold F_X1_priceNow_43
    simp only [gd_of (inb_nI hj (by omega)), b1, bd_so, hb1, hmax, gd_of hne, nI_clamp (show j < 2 ^ 31 by omega), prc_x, n3]
  · unfold F_X11_priceOf
    rw [e2]
    unfold F_X11_priceOf_50
    simp only [gd_of (inb_nI hj (by omega)), b2, bd_so, hb1, gd_of hne, nI_clamp (show j < 2 ^ 31 by omega), c8, c4]
    rw [← n3]
    unfold prc
    by_cases q1 : 1 ≤ s 5 0 j * (4 * w + s 4 0 5) / nI (B + 1)
    · by_cases q2 : s 5 0 j * (4 * w + s 4 0 5) / nI (B + 1) ≤ 5000
      · rw [if_pos q1, if_pos q2, if_pos q1, if_pos q2]
      · rw [if_pos q1, if_neg q2, if_pos q1, if_neg q2]
    · rw [if_neg q1, if_neg q1]
theorem op_price {N : Nat} {g : Nat × Nat} {s u : St} (hN : N < 600) (h : Rel N g s u) (a b : Int32) : Same N g (F_X10_price g a b s) (F_X11_price g a b u) := by
  obtain ⟨nM, nH⟩ := g
  have hR := h.read
  obtain ⟨hA, hB, hC, hD, hE, hF, hG, hH⟩ := id hR
  unfold F_X10_price F_X11_price
  simp only [F_isSort, F_within, in_0_1, G_isSort, bd_so, bI_if]
  by_cases q1 : bw a 0 3 = true
  · by_cases q2 : bw b 0 1 = true
    · obtain ⟨j, hj, rfl⟩ := bw_of (n := 3) rfl q1
      obtain ⟨k, hk, rfl⟩ := bw_of (n := 1) rfl q2
      simp only [q1, q2, if_true]
      rcases (show k = 0 ∨ k = 1 by omega) with rfl | rfl
      · rw [if_pos (show nI 0 = (0 : Int32) from rfl), if_pos (show nI 0 = (0 : Int32) from rfl)]
        obtain ⟨n, -, -, p1, p2⟩ := price_same (nH := nH) (by omega) hC hD hG (show j < 4 by omega)
        rw [p1, p2, bd_so, bd_so]
        exact ⟨_, _, _, rfl, rfl, hR⟩
      · rw [if_neg (show ¬ nI 1 = (0 : Int32) by decide), if_neg (show ¬ nI 1 = (0 : Int32) by decide), gd_of (inb_nI (show j < 4 by omega) (by omega)), gd_of (inb_nI (show j < 4 by omega) (by omega)), nI_clamp (show j < 2 ^ 31 by omega)]
        obtain ⟨p1, p2⟩ := hE j (by omega)
        by_cases q3 : s 4 0 13 = 0
        · rw [if_pos q3]
          exact ⟨_, _, _, rfl, by rw [p1 q3], hR⟩
        · rw [if_neg q3]
          exact ⟨_, _, _, rfl, by rw [p2 q3], hR⟩
    · simp only [q1, q2, if_true]
      exact ⟨_, _, _, rfl, rfl, hR⟩
  · simp only [q1]
    exact ⟨_, _, _, rfl, rfl, hR⟩
