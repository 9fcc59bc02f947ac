/-! the county: ship, stock, ran, told -/
theorem bw_of1 {x L M : Int32} {a n : Nat} (hL : L = nI a) (ha : a < 2 ^ 31) (hM : M.toInt = n) (h : bw x L M = true) : ∃ j : Nat, a ≤ j ∧ j ≤ n ∧ x = nI j := by
  unfold bw at h
  simp only [Bool.and_eq_true, decide_eq_true_eq] at h
  subst hL
  have h0 : ¬ x < 0 := Int32.not_lt.mpr (Int32.le_trans (nI_pos' ha) h.1)
  obtain ⟨j, hj, rfl⟩ := nI_of2 hM h0 h.2
  refine ⟨j, ?_, hj, rfl⟩
  obtain ⟨j2, hj2, e⟩ := nI_of h0
  have h2 := h.1
  rw [e] at h2
  have h3 := (nI_leI ha hj2).mp h2
  by_cases hb : j < 2 ^ 31
  · have := (nI_eq hb hj2).mp e
    omega
  · have hn : (n : Int) < 2147483648 := by
      have := Int32.toInt_lt M
      omega
    omega
theorem F_hasMill (g : Nat × Nat) (x : Int32) (s : St) : F_X1_hasMill g x s = some (bI (bw x 0 (s 4 0 12 - 1)), s) := by
  unfold F_X1_hasMill
  rw [F_within, bd_so, gd_of (isb_bI _)]
theorem G_isMill (g : Nat × Nat) (x : Int32) (s : St) : F_X11_isMill g x s = some (bI (bw x 0 (s 60 0 15 - 1)), s) := by
  unfold F_X11_isMill
  rw [in_0w, bd_so, gd_of (isb_bI _)]
theorem ltb_nI {k n : Nat} (h : k < n) (hk : k < 2 ^ 31) : ltb (nI k) n = true := by
  unfold ltb
  rw [nI_clamp hk]
  exact decide_eq_true h
theorem ix4 {k j : Nat} : (4 : Int32) * nI k + nI j = nI (4 * k + j) := by
  show nI 4 * nI k + nI j = _
  rw [pk_mul, nI_add]
theorem ix100 {k j : Nat} : (100 : Int32) * nI k + nI j = nI (100 * k + j) := by
  show nI 100 * nI k + nI j = _
  rw [pk_mul, nI_add]
theorem op_ship {N : Nat} {g : Nat × Nat} {s u : St} (h : Rel N g s u) (a b c d : Int32) : Same N g (F_X10_ship g a b c d s) (F_X11_ship g a b c d u) := by
  have hR := h.read
  obtain ⟨hA, hB, hC, hD, hE, hF, hG, hH, hI, hJ, hK, hL, hM⟩ := hR
  obtain ⟨n, hn, h1, h2, h3⟩ := id hF
  unfold F_X10_ship F_X11_ship F_X1_addShip
  simp only [F_within, F_isWeek, F_isSort, in_1_500, in_0_1, G_isWeek, G_isSort, bd_so, bI_if]
  by_cases q1 : bw a 0 99 = true
  · by_cases q2 : bw b 0 3 = true
    · by_cases q3 : bw c 1 500 = true
      · by_cases q4 : bw d 0 1 = true
        · simp only [q1, q2, q3, q4, if_true, h1, h2]
          by_cases q5 : n < 30
          · have e1 : nI n < (30 : Int32) := nI_lt (b := 30) q5 (by omega)
            have e2 : ¬ nI n = (30 : Int32) := nI_ne (b := 30) (by omega) (by omega) (by omega)
            have hb : inb (nI n) 30 = true := inb_nI q5 (by omega)
            rw [if_pos e1, if_neg e2]
            simp only [gd_of hb, nI_clamp (show n < 2 ^ 31 by omega)]
            refine ⟨_, _, _, rfl, rfl, hA, hB, hC, hD, hE, ?_, hG, hH, hI, hJ, hK, hL, hM⟩
            refine ⟨n + 1, by omega, nI_1 n, nI_1 n, fun i hi => ?_⟩
            by_cases e : i = n
            · subst e
              obtain ⟨b', hb', rfl⟩ := bw_of (n := 3) rfl q2
              obtain ⟨c', hc', hc2, rfl⟩ := bw_of1 (a := 1) (n := 500) rfl (by omega) rfl q3
              obtain ⟨d', hd', rfl⟩ := bw_of (n := 1) rfl q4
              refine ⟨by simp [up], by simp [up], ⟨b', by omega, by simp [up]⟩, ⟨c', hc2, by simp [up]⟩, ?_⟩
              rcases (show d' = 0 ∨ d' = 1 by omega) with rfl | rfl
              · refine Or.inl ⟨by simp [up, nI_0], ?_⟩
                simp [up, nI_0]
              · refine Or.inr ⟨by simp [up]; rfl, ?_⟩
                have : nI 1 * nI c' = nI c' := by rw [pk_mul, Nat.one_mul]
                simp [up, this]
            · have := h3 i (by omega)
              simpa [up, e] using this
          · have e : n = 30 := by omega
            subst e
            rw [if_neg (by decide), if_pos (by decide)]
            exact ⟨_, _, _, rfl, rfl, h.read⟩
        · simp only [q1, q2, q3, q4, if_true]
          exact ⟨_, _, _, rfl, rfl, h.read⟩
      · simp only [q1, q2, q3, if_true]
        exact ⟨_, _, _, rfl, rfl, h.read⟩
    · simp only [q1, q2, if_true]
      exact ⟨_, _, _, rfl, rfl, h.read⟩
  · simp only [q1]
    exact ⟨_, _, _, rfl, rfl, h.read⟩
theorem op_ran {N : Nat} {g : Nat × Nat} {s u : St} (h : Rel N g s u) (a b : Int32) : Same N g (F_X10_ran g a b s) (F_X11_ran g a b u) := by
  obtain ⟨h0, h1, h2, h3, h4⟩ := h.2.2.2.2.2.2.1
  unfold F_X10_ran F_X11_ran F_X1_sortRun
  simp only [F_within, F_isWeek, F_hasMill, in_0_5, G_isWeek, bd_so, bI_if, h1]
  by_cases q1 : bw a 0 5 = true
  · by_cases q2 : bw b 0 99 = true
    · obtain ⟨k, hk, rfl⟩ := bw_of (n := 5) rfl q1
      obtain ⟨w, hw, rfl⟩ := bw_of (n := 99) rfl q2
      simp only [q1, q2, if_true, ix100, gd_of (inb_nI (show 100 * k + w < 600 by omega) (by omega)), nI_clamp (show 100 * k + w < 2 ^ 31 by omega)]
      by_cases q3 : bw (nI k) 0 (nI g.1 - 1) = true
      · obtain ⟨k2, hk2, e⟩ := bw_lt (by omega) q3
        have : k = k2 := (nI_eq (by omega) (by omega)).mp e
        subst this
        simp only [q3, if_true, gd_of (inb_nI (show k < 6 by omega) (by omega)), gd_of (ltb_nI hk2 (by omega)), gd_of (inb_nI (show w < 100 by omega) (by omega)), nI_clamp (show k < 2 ^ 31 by omega), nI_clamp (show w < 2 ^ 31 by omega), bd_so]
        have e9 : u 76 0 (100 * k + w) = s 16 k w := ((h3 k hk2).2.2.2.2.2.2.2.2.2.2.2 w (by omega)).1
        refine ⟨_, _, _, rfl, ?_, h.read⟩
        rw [← e9]
        rfl
      · simp only [q3]
        have hk2 : g.1 ≤ k := Nat.not_lt.mp (fun z => q3 (by
          unfold bw
          simp only [Bool.and_eq_true, decide_eq_true_eq]
          refine ⟨nI_pos' (by omega), ?_⟩
          cases hg : g.1 with
          | zero => omega
          | succ m => rw [nI_pred]; exact nI_le (by omega) (by omega)))
        have e9 : u 76 0 (100 * k + w) = -1000000 := (h4 k hk2 (by omega)).2 w (by omega)
        refine ⟨_, _, _, rfl, ?_, h.read⟩
        rw [← e9]
        rfl
    · simp only [q1, q2, if_true]
      exact ⟨_, _, _, rfl, rfl, h.read⟩
  · simp only [q1]
    exact ⟨_, _, _, rfl, rfl, h.read⟩
theorem op_stock {N : Nat} {g : Nat × Nat} {s u : St} (h : Rel N g s u) (a b c : Int32) : Same N g (F_X10_stock g a b c s) (F_X11_stock g a b c u) := by
  have hR := h.read
  obtain ⟨hA, hB, hC, hD, hE, hF, hG, hH, hI, hJ, hK, hL, hM⟩ := hR
  obtain ⟨h0, h1, h2, h3, h4⟩ := id hG
  unfold F_X10_stock F_X11_stock F_X10_changed
  simp only [F_within, F_isSort, F_hasMill, G_isMill, in_0_9999, G_isSort, bd_so, bI_if, h1, h2]
  by_cases q1 : bw a 0 (nI g.1 - 1) = true
  · by_cases q2 : bw b 0 3 = true
    · by_cases q3 : bw c 0 9999 = true
      · obtain ⟨k, hk, rfl⟩ := bw_lt (by omega) q1
        obtain ⟨j, hj, rfl⟩ := bw_of (n := 3) rfl q2
        obtain ⟨v, hv, rfl⟩ := bw_of (n := 9999) rfl q3
        have e3 : lna 15 = 4 := rfl
        simp only [q1, q2, q3, if_true, e3, ix4, gd_of (inb_nI (show k < 6 by omega) (by omega)), gd_of (ltb_nI hk (by omega)), gd_of (inb_nI (show j < 4 by omega) (by omega)), gd_of (inb_nI (show 4 * k + j < 24 by omega) (by omega)), nI_clamp (show 4 * k + j < 2 ^ 31 by omega), nI_clamp (show k < 2 ^ 31 by omega), nI_clamp (show j < 2 ^ 31 by omega), bd_so]
        have e9 : up u 60 0 0 0 74 0 (4 * k + j) = s 15 k j := ((hD j (by omega)).2.2.1 k hk).1
        refine ⟨s 15 k j, up s 15 k j (nI v), up (up u 60 0 0 0) 74 0 (4 * k + j) (nI v), rfl, by rw [e9], hA, hB, hC, ?_, hE, hF, hG, hH, hI, hJ, hK, hL, hM⟩
        intro i hi
        obtain ⟨g1, g2, g3, g4⟩ := hD i hi
        refine ⟨g1, g2, ?_, ?_⟩
        · intro k' hk'
          by_cases e : k' = k ∧ i = j
          · obtain ⟨rfl, rfl⟩ := e
            exact ⟨by simp [up], v, hv, by simp [up]⟩
          · have e5 : ¬ 4 * k' + i = 4 * k + j := by omega
            have e6 : up s 15 k j (nI v) 15 k' i = s 15 k' i := by
              by_cases z : k' = k
              · have : i ≠ j := fun z2 => e ⟨z, z2⟩
                simp [up, z, this]
              · simp [up, z]
            rw [e6]
            have := g3 k' hk'
            simpa [up, e5] using this
        · intro k' hk' hk6
          have e5 : ¬ 4 * k' + i = 4 * k + j := by omega
          have := g4 k' hk' hk6
          simpa [up, e5] using this
      · simp only [q1, q2, q3, if_true]
        exact ⟨_, _, _, rfl, rfl, h.read⟩
    · simp only [q1, q2, if_true]
      exact ⟨_, _, _, rfl, rfl, h.read⟩
  · simp only [q1]
    exact ⟨_, _, _, rfl, rfl, h.read⟩
