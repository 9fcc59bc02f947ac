/-! step: the ships and the prices of a week -/
def PoR (B : Nat) (s u : St) : Prop := ∀ i, i < 4 → u 66 0 i = s 7 0 i ∧ ∃ n : Nat, n ≤ B ∧ s 7 0 i = nI n
theorem land_same (g : Nat × Nat) (hk : St → Option (Unit × St)) {B c : Nat} {s u : St} (hc : c ≤ 30) (h1 : s 4 0 10 = nI c) (h2 : u 60 0 11 = nI c) (hw : u 60 0 10 = s 4 0 13) (h3 : ∀ i, i < c → u 67 0 i = s 9 0 i ∧ u 68 0 i = s 10 0 i ∧ (∃ n : Nat, n < 4 ∧ s 10 0 i = nI n) ∧ (∃ b : Nat, b ≤ 500 ∧ s 11 0 i = nI b) ∧ ((s 12 0 i = 0 ∧ u 69 0 i = 0) ∨ (s 12 0 i = 1 ∧ u 69 0 i = s 11 0 i))) : ∀ (m i n n' : Nat) (s' u' : St), (∀ t, t ≠ 7 → s' t = s t) → (∀ t, t ≠ 66 → u' t = u t) → PoR (B + 500 * i) s' u' → i + m = c → m < n → m < n' → ∃ s'' u'' : St, F_X1_landShips_2 g n (nI i) s' = some ((), s'') ∧ F_X11_stepOnce_2 g hk n' (nI i) u' = hk u'' ∧ (∀ t, t ≠ 7 → s'' t = s t) ∧ (∀ t, t ≠ 66 → u'' t = u t) ∧ PoR (B + 500 * c) s'' u''
  | 0, i, n + 1, n' + 1, s', u', fs, fu', hp, hi, _, _ => by
    have : i = c := by omega
    subst this
    refine ⟨s', u', ?_, ?_, fs, fu', hp⟩
    · rw [F_X1_landShips_2, fs 4 (by decide), h1, if_pos (nI_le (by omega) (by omega))]
    · rw [F_X11_stepOnce_2, fu' 60 (by decide), h2, if_pos (nI_le (by omega) (by omega))]
  | m + 1, i, n + 1, n' + 1, s', u', fs, fu', hp, hi, hn, hn' => by
    obtain ⟨e1, e2, ⟨j, hj, e3⟩, ⟨b, hb, e4⟩, e5⟩ := h3 i (by omega)
    have b1 : inb (nI i) 30 = true := inb_nI (by omega) (by omega)
    have b2 : inb (nI j) 4 = true := inb_nI hj (by omega)
    obtain ⟨p1, P, p2, p3⟩ := hp j hj
    rw [F_X1_landShips_2, fs 4 (by decide), h1, if_neg (nI_ge (by omega) (by omega)), gd_of b1, gd_of b1, gd_of b1, gd_of b1, fs 9 (by decide), fs 12 (by decide), fs 10 (by decide), fs 11 (by decide), nI_clamp (show i < 2 ^ 31 by omega), e3, gd_of b2, gd_of b2, nI_clamp (show j < 2 ^ 31 by omega), e4, p3, nI_add, F_X1_landShips_53, F_X1_landShips_53, nI_1]
    rw [F_X11_stepOnce_2, fu' 60 (by decide), h2, if_neg (nI_ge (by omega) (by omega)), gd_of b1, gd_of b1, gd_of b1, fu' 68 (by decide), fu' 67 (by decide), fu' 69 (by decide), nI_clamp (show i < 2 ^ 31 by omega), e2, e3, gd_of b2, nI_clamp (show j < 2 ^ 31 by omega), p1, p3, F_X11_stepOnce_45, F_X11_stepOnce_45, gd_of b2, gd_of b2, nI_clamp (show j < 2 ^ 31 by omega), e1, hw, nI_1, show nI P + 0 = nI P from Int32.add_zero _]
    have same : ∃ s'' u'' : St, F_X1_landShips_2 g n (nI (i + 1)) s' = some ((), s'') ∧ F_X11_stepOnce_2 g hk n' (nI (i + 1)) (up u' 66 0 j (nI P)) = hk u'' ∧ (∀ t, t ≠ 7 → s'' t = s t) ∧ (∀ t, t ≠ 66 → u'' t = u t) ∧ PoR (B + 500 * c) s'' u'' := by
      rw [up_id (show u' 66 0 j = nI P by rw [p1, p3])]
      refine land_same g hk hc h1 h2 hw h3 m (i + 1) n n' s' u' fs fu' (fun q hq => ?_) (by omega) (by omega) (by omega)
      obtain ⟨x1, X, x2, x3⟩ := hp q hq
      exact ⟨x1, X, by omega, x3⟩
    by_cases q : s 9 0 i = s 4 0 13
    · rw [if_pos q, if_pos q]
      rcases e5 with ⟨e6, e7⟩ | ⟨e6, e7⟩
      · rw [e6, e7, if_neg (show ¬ (0 : Int32) = 1 by decide), show nI P + 0 = nI P from Int32.add_zero _]
        exact same
      · rw [e6, e7, if_pos rfl, e4, nI_add]
        refine land_same g hk hc h1 h2 hw h3 m (i + 1) n n' _ _ (fun t ht => ?_) (fun t ht => ?_) (fun q hq => ?_) (by omega) (by omega) (by omega)
        · rw [← fs t ht]
          funext x y
          simp [up, ht]
        · rw [← fu' t ht]
          funext x y
          simp [up, ht]
        · obtain ⟨x1, X, x2, x3⟩ := hp q hq
          by_cases e : q = j
          · subst e
            exact ⟨by simp [up], P + b, by omega, by simp [up]⟩
          · exact ⟨by simpa [up, e] using x1, X, by omega, by simpa [up, e] using x3⟩
    · rw [if_neg q, if_neg q]
      exact same
theorem fix_same {nM nH : Nat} (hk : St → Option (Unit × St)) {s u : St} (hC : RCo (s 4 0 4) (s 4 0 5) (s 4 0 13) (s 5 0) (s 6 0) (u 60 0 8) (u 60 0 9) (u 60 0 10) (u 64 0) (u 65 0)) (hD : RPo 600 nM (s 7 0) (s 15) (u 66 0) (u 74 0)) (hG : RMi nM (s 4 0 12) (s 4 0 13) (s 14) (s 16) (u 60 0 15) (u 70 0) (u 71 0) (u 72 0) (u 73 0) (u 75 0) (u 76 0)) : ∀ (m i n n' : Nat) (s' u' : St), (∀ t, t ≠ 8 → s' t = s t) → (∀ t, t ≠ 77 → u' t = u t) → (∀ j, j < i → u' 77 0 j = s' 8 0 j ∧ ∃ n : Nat, 1 ≤ n ∧ n ≤ 5000 ∧ s' 8 0 j = nI n) → i + m = 4 → m < n → m < n' → ∃ s'' u'' : St, F_X1_fixPrices_2 (nM, nH) n (nI i) s' = some ((), s'') ∧ F_X11_stepOnce_55 (nM, nH) hk n' (nI i) u' = hk u'' ∧ (∀ t, t ≠ 8 → s'' t = s t) ∧ (∀ t, t ≠ 77 → u'' t = u t) ∧ ∀ j, j < 4 → u'' 77 0 j = s'' 8 0 j ∧ ∃ n : Nat, 1 ≤ n ∧ n ≤ 5000 ∧ s'' 8 0 j = nI n
  | 0, i, n + 1, n' + 1, s', u', fs, fu', hp, hi, _, _ => by
    have : i = 4 := by omega
    subst this
    refine ⟨s', u', ?_, ?_, fs, fu', hp⟩
    · rw [F_X1_fixPrices_2, if_pos (show (4 : Int32) ≤ nI 4 by decide)]
    · rw [F_X11_stepOnce_55, if_pos (show (4 : Int32) ≤ nI 4 by decide)]
  | m + 1, i, n + 1, n' + 1, s', u', fs, fu', hp, hi, hn, hn' => by
    have b1 : inb (nI i) 4 = true := inb_nI (by omega) (by omega)
    obtain ⟨p, hp1, hp2, e1, e2⟩ := price_same (nH := nH) (s := s') (u := u') (nM := nM) (N := 600) (by omega) (by
      rw [fs 4 (by decide), fs 5 (by decide), fs 6 (by decide), fu' 60 (by decide), fu' 64 (by decide), fu' 65 (by decide)]
      exact hC) (by
      rw [fs 7 (by decide), fs 15 (by decide), fu' 66 (by decide), fu' 74 (by decide)]
      exact hD) (by
      rw [fs 4 (by decide), fs 14 (by decide), fs 16 (by decide), fu' 60 (by decide), fu' 70 (by decide), fu' 71 (by decide), fu' 72 (by decide), fu' 73 (by decide), fu' 75 (by decide), fu' 76 (by decide)]
      exact hG) (show i < 4 by omega)
    rw [F_X1_fixPrices_2, if_neg (show ¬ (4 : Int32) ≤ nI i from nI_ge (b := 4) (by omega) (by omega)), e1, bd_so, gd_of b1, nI_clamp (by omega), nI_1, F_X11_stepOnce_55, if_neg (show ¬ (4 : Int32) ≤ nI i from nI_ge (b := 4) (by omega) (by omega)), e2, bd_so, gd_of b1, nI_clamp (by omega), nI_1]
    refine fix_same hk hC hD hG m (i + 1) n n' _ _ (fun t ht => ?_) (fun t ht => ?_) (fun q hq => ?_) (by omega) (by omega) (by omega)
    · rw [← fs t ht]
      funext x y
      simp [up, ht]
    · rw [← fu' t ht]
      funext x y
      simp [up, ht]
    · by_cases e : q = i
      · subst e
        exact ⟨by simp [up], p, hp1, hp2, by simp [up]⟩
      · obtain ⟨x1, X, x2, x3, x4⟩ := hp q (by omega)
        exact ⟨by simpa [up, e] using x1, X, x2, x3, by simpa [up, e] using x4⟩
/-! coins -/
theorem big_n : (2000000000 : Int64) = lN 2000000000 := rfl
theorem gain_n {K G : Nat} (hK : K ≤ 2000000000) (hG : G ≤ 2000000000) : (if lN K + lN G < (2000000000 : Int64) then lN K + lN G else (2000000000 : Int64)).toInt32 = nI (min (K + G) 2000000000) := by
  rw [big_n, lN_add]
  by_cases q : K + G < 2000000000
  · rw [if_pos ((pk_lLT (by omega) (by omega)).mpr q), lN_i]
    congr 1
    omega
  · rw [if_neg (fun e => q ((pk_lLT (by omega) (by omega)).mp e)), lN_i]
    congr 1
    omega
theorem earn_n (g : Nat × Nat) {k K G : Nat} (hk : k < 6) (hK : K ≤ 2000000000) (hG : G ≤ 2000000000) {u : St} (h : u 75 0 k = nI K) : F_X11_earnCoin g (nI k) (nI G) u = some ((), up u 75 0 k (nI (min (K + G) 2000000000))) := by
  unfold F_X11_earnCoin F_X11_earnCoin_31
  have b1 : inb (nI k) 6 = true := inb_nI hk (by omega)
  rw [gd_of b1, gd_of b1, nI_clamp (by omega), h, nI_l (by omega), nI_l (by omega), lN_add, lN_i, big_n]
  by_cases q : K + G ≤ 2000000000
  · rw [if_pos ((lg_le _ _).mpr ((pk_lLE (by omega) (by omega)).mpr q))]
    congr 3
    rw [Nat.min_eq_left q]
  · rw [if_neg (fun e => q ((pk_lLE (by omega) (by omega)).mp ((lg_le _ _).mp e))), gd_of b1]
    congr 3
    rw [Nat.min_eq_right (by omega)]
    rfl
theorem l_of_i {x : Int64} {v : Int} (h : x.toInt = v) (h1 : -1000000 ≤ v) (h2 : v ≤ 2000000000) : x.toInt32.toInt64 = x := by
  apply Int64.toInt_inj.mp
  rw [Int32.toInt_toInt64, Int64.toInt_toInt32, h, Int.bmod_eq_of_le (by omega) (by omega)]
theorem l_sub {K C : Nat} (hK : K ≤ 2000000000) (hC : C ≤ 1000000) : (lN K - lN C).toInt = (K : Int) - C := by
  rw [Int64.toInt_sub, pk_lT (by omega), pk_lT (by omega), Int.bmod_eq_of_le (by omega) (by omega)]
theorem pay_n {K C G : Nat} (hK : K ≤ 2000000000) (hC : C ≤ 1000000) (hG : G ≤ 1000000) (hCG : C ≤ G) : (if lN K - lN C < (2000000000 : Int64) then lN K - lN C else (2000000000 : Int64)).toInt32.toInt64 + lN G = lN (K + (G - C)) := by
  have e : (if lN K - lN C < (2000000000 : Int64) then lN K - lN C else (2000000000 : Int64)) = lN K - lN C := by
    by_cases q : lN K - lN C < (2000000000 : Int64)
    · rw [if_pos q]
    · rw [if_neg q]
      rw [Int64.lt_iff_toInt_lt, l_sub hK hC] at q
      have z : (2000000000 : Int64).toInt = 2000000000 := by decide
      rw [z] at q
      apply Int64.toInt_inj.mp
      rw [l_sub hK hC, z]
      omega
  rw [e, l_of_i (l_sub hK hC) (by omega) (by omega)]
  apply Int64.toInt_inj.mp
  rw [Int64.toInt_add, l_sub hK hC, pk_lT (by omega), pk_lT (by omega), Int.bmod_eq_of_le (by omega) (by omega)]
  omega
