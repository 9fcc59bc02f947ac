/-! told, stuff -/
theorem cnR_congr {f h : Nat → Int32} : ∀ n : Nat, (∀ i, i < n → f i = h i) → cnR f n = cnR h n
  | 0, _ => rfl
  | n + 1, e => by rw [cnR, cnR, cnR_congr n (fun i hi => e i (by omega)), e n (by omega)]
theorem cnR_le (f : Nat → Int32) : ∀ n : Nat, cnR f n ≤ n
  | 0 => Nat.le_refl 0
  | n + 1 => by
    have := cnR_le f n
    rw [cnR]
    split <;> omega
theorem M_told_loop (g : Nat × Nat) (k : Nat) (hk : k < 6) (b : Int32) (u : St) : ∀ (m i n : Nat), i + m = 100 → m < n → F_X11_told_39 g (nI k) b n (nI (cnR (fun w => u 76 0 (100 * k + w)) i)) (nI i) u = some (nI (cnR (fun w => u 76 0 (100 * k + w)) 100), u)
  | 0, i, n + 1, hi, _ => by
    have : i = 100 := by omega
    subst this
    rw [F_X11_told_39, if_pos (by decide)]
  | m + 1, i, n + 1, hi, hn => by
    rw [F_X11_told_39, if_neg (show ¬ (100 : Int32) ≤ nI i from nI_ge (b := 100) (by omega) (by omega)), ix100, gd_of (inb_nI (by omega) (by omega)), nI_clamp (by omega)]
    have ih := M_told_loop g k hk b u m (i + 1) n (by omega) (by omega)
    simp only [F_X11_told_69, nI_1]
    by_cases e : u 76 0 (100 * k + i) = -1000000
    · rw [if_pos e]
      rw [cnR, if_pos e, Nat.add_zero] at ih
      have : nI (cnR (fun w => u 76 0 (100 * k + w)) i) + 0 = nI (cnR (fun w => u 76 0 (100 * k + w)) i) := Int32.add_zero _
      rw [this]
      exact ih
    · rw [if_neg e]
      rw [cnR, if_neg e] at ih
      exact ih
theorem ix4m {k j : Nat} (h : 4 ≤ j) : (4 : Int32) * nI k + nI j - 4 = nI (4 * k + (j - 4)) := by
  rw [ix4]
  show nI (4 * k + j) - nI 4 = _
  rw [pk_sub (by omega)]
  congr 1
  omega
theorem op_told {N : Nat} {g : Nat × Nat} {s u : St} (h : Rel N g s u) (a b : Int32) : Same N g (F_X10_told g a b s) (F_X11_told g a b u) := by
  obtain ⟨h0, h1, h2, h3, h4⟩ := h.2.2.2.2.2.2.1
  have hD := h.2.2.2.1
  have h2' : up u 60 0 0 0 60 0 15 = nI g.1 := h2
  unfold F_X10_told F_X11_told
  simp only [F_within, F_hasMill, G_isMill, in_0_9, bd_so, bI_if, h1, h2']
  by_cases q1 : bw a 0 (nI g.1 - 1) = true
  · by_cases q2 : bw b 0 9 = true
    · obtain ⟨k, hk, rfl⟩ := bw_lt (by omega) q1
      obtain ⟨j, hj, rfl⟩ := bw_of (n := 9) rfl q2
      obtain ⟨e0, e1, e2, e3, e8, -, -, -, -, -, e9, e10⟩ := h3 k hk
      have hb6 : inb (nI k) 6 = true := inb_nI (by omega) (by omega)
      simp only [q1, q2, if_true, gd_of hb6, gd_of (ltb_nI hk (by omega)), nI_clamp (show k < 2 ^ 31 by omega)]
      have bal : ∀ i : Nat, i < 4 → u 74 0 (4 * k + i) = s 15 k i := fun i hi => ((hD i hi).2.2.1 k hk).1
      have hR := h.read
      rcases (show j = 0 ∨ j = 1 ∨ j = 2 ∨ j = 3 ∨ j = 8 ∨ j = 9 ∨ (4 ≤ j ∧ j ≤ 7) by omega) with rfl | rfl | rfl | rfl | rfl | rfl | ⟨j1, j2⟩
      · exact ⟨s 14 k 0, _, _, rfl, by rw [← e0]; rfl, hR⟩
      · exact ⟨s 14 k 1, _, _, rfl, by rw [← e1]; rfl, hR⟩
      · exact ⟨s 14 k 2, _, _, rfl, by rw [← e2]; rfl, hR⟩
      · exact ⟨s 14 k 3, _, _, rfl, by rw [← e3]; rfl, hR⟩
      · exact ⟨s 14 k 6, _, _, rfl, by rw [← e8]; rfl, hR⟩
      · have e := M_told_loop g k (by omega) (nI 9) (up u 60 0 0 0) 100 0 fu (by omega) (lt_fu (by omega))
        have e7 : cnR (fun w => up u 60 0 0 0 76 0 (100 * k + w)) 100 = cnR (s 16 k) 100 := cnR_congr 100 (fun i hi => (e10 i hi).1)
        rw [e7, ← e9] at e
        rw [if_pos (show nI 9 = (9 : Int32) by decide)]
        exact ⟨s 14 k 7, _, _, rfl, e, hR⟩
      · have f1 : ¬ nI j = (9 : Int32) := nI_ne (b := 9) (by omega) (by omega) (by omega)
        have f2 : ¬ nI j = (0 : Int32) := nI_ne (b := 0) (by omega) (by omega) (by omega)
        have f3 : ¬ nI j = (1 : Int32) := nI_ne (b := 1) (by omega) (by omega) (by omega)
        have f4 : ¬ nI j = (2 : Int32) := nI_ne (b := 2) (by omega) (by omega) (by omega)
        have f5 : ¬ nI j = (3 : Int32) := nI_ne (b := 3) (by omega) (by omega) (by omega)
        have f6 : ¬ nI j = (8 : Int32) := nI_ne (b := 8) (by omega) (by omega) (by omega)
        rw [if_neg f1, if_neg f2, if_neg f3, if_neg f4, if_neg f5, if_neg f6, ix4m j1, gd_of (inb_nI (show 4 * k + (j - 4) < 24 by omega) (by omega)), nI_clamp (show 4 * k + (j - 4) < 2 ^ 31 by omega)]
        have e5 : F_X4_tells g k (nI j) s = some (s 15 k (j - 4), s) := by
          rcases (show j = 4 ∨ j = 5 ∨ j = 6 ∨ j = 7 by omega) with rfl | rfl | rfl | rfl <;> rfl
        rw [e5, bd_so]
        refine ⟨_, _, _, rfl, ?_, hR⟩
        rw [← bal (j - 4) (by omega)]
        rfl
    · simp only [q1, q2, if_true]
      exact ⟨_, _, _, rfl, rfl, h.read⟩
  · simp only [q1]
    exact ⟨_, _, _, rfl, rfl, h.read⟩
