/-! holds and first -/
theorem Rel.first {N : Nat} {g : Nat × Nat} {s u s' u' : St} {R : Nat → Nat} {T : Nat} {v : Int32} (h : Rel N g s u) (hs : ∀ t, t ≠ 21 → t ≠ 22 → s' t = s t) (hu : FI R u T v u') : Rel N g s' u' := by
  obtain ⟨h1, h2, -⟩ := hu
  unfold Rel at h ⊢
  rw [hs 2 (by decide) (by decide), hs 3 (by decide) (by decide), hs 0 (by decide) (by decide), hs 4 (by decide) (by decide), hs 5 (by decide) (by decide), hs 6 (by decide) (by decide), hs 7 (by decide) (by decide), hs 15 (by decide) (by decide), hs 8 (by decide) (by decide), hs 9 (by decide) (by decide), hs 10 (by decide) (by decide), hs 11 (by decide) (by decide), hs 12 (by decide) (by decide), hs 14 (by decide) (by decide), hs 16 (by decide) (by decide), hs 17 (by decide) (by decide), hs 18 (by decide) (by decide), hs 19 (by decide) (by decide), hs 20 (by decide) (by decide), hs 23 (by decide) (by decide), hs 24 (by decide) (by decide), hs 26 (by decide) (by decide), hs 27 (by decide) (by decide), hs 38 (by decide) (by decide), hs 39 (by decide) (by decide), hs 40 (by decide) (by decide), hs 41 (by decide) (by decide), hs 42 (by decide) (by decide), hs 43 (by decide) (by decide), hs 44 (by decide) (by decide), hs 45 (by decide) (by decide), hs 46 (by decide) (by decide),
    h1 61 (by decide) (by decide), h1 62 (by decide) (by decide), h1 63 (by decide) (by decide), h1 64 (by decide) (by decide), h1 65 (by decide) (by decide), h1 66 (by decide) (by decide), h1 67 (by decide) (by decide), h1 68 (by decide) (by decide), h1 69 (by decide) (by decide), h1 70 (by decide) (by decide), h1 71 (by decide) (by decide), h1 72 (by decide) (by decide), h1 73 (by decide) (by decide), h1 74 (by decide) (by decide), h1 75 (by decide) (by decide), h1 76 (by decide) (by decide), h1 77 (by decide) (by decide), h1 78 (by decide) (by decide), h1 79 (by decide) (by decide), h1 80 (by decide) (by decide), h1 81 (by decide) (by decide), h1 82 (by decide) (by decide), h1 84 (by decide) (by decide), h1 88 (by decide) (by decide), h1 89 (by decide) (by decide), h1 90 (by decide) (by decide), h1 91 (by decide) (by decide), h1 92 (by decide) (by decide), h1 93 (by decide) (by decide), h1 94 (by decide) (by decide),
    h2 1 (by decide), h2 8 (by decide), h2 9 (by decide), h2 10 (by decide), h2 11 (by decide), h2 15 (by decide), h2 24 (by decide), h2 31 (by decide), h2 32 (by decide), h2 42 (by decide), h2 47 (by decide), h2 51 (by decide), h2 56 (by decide)]
  exact h
theorem X_set_loop (g : Nat × Nat) (a : Int32) (s : St) {N : Nat} (hN : N ≤ 4) : ∀ (m i n : Nat), i + m = N → m < n → F_X6_firstSet_11 g a n (nI N) (orr (s 21 0) i) (nI i) s = some (orr (s 21 0) N, s)
  | 0, i, n + 1, hi, _ => by
    have : i = N := by omega
    subst this
    rw [F_X6_firstSet_11, if_pos (nI_le (Nat.le_refl _) (by omega))]
  | m + 1, i, n + 1, hi, hn => by
    have ih := X_set_loop g a s hN m (i + 1) n (by omega) (by omega)
    rw [F_X6_firstSet_11, if_neg (nI_ge (by omega) (by omega)), gd_of (inb_nI (by omega) (by omega)), nI_clamp (by omega), nI_1]
    exact ih
theorem rkC_le4 (R : Nat → Nat) (T : Nat) : rkC R T ≤ 4 := cnB_n _ 4
theorem op_first {N : Nat} {g : Nat × Nat} {s u : St} (h : Rel N g s u) (a b : Int32) : Same N g (F_X10_first g a b s) (F_X11_first g a b u) := by
  have hR := h.read
  unfold F_X10_first F_X11_first
  simp only [F_isWeek, G_isWeek, bd_so, bI_if]
  by_cases q : bw a 0 99 = true
  · obtain ⟨w, hw, rfl⟩ := bw_of (n := 99) rfl q
    obtain ⟨R, v, s', u', e1, e2, e3, e4, e5, e6, e7⟩ := first_same (g := g) hR.2.2.2.2.2.2.2.1 hw
    have hR2 := hR.first e3 e5
    have n4 := rkC_le4 R 1000000
    simp only [q, if_true, e1, e2, bd_so, F_within, in_0w, bI_if, e5.2.2.1]
    by_cases q2 : bw b 0 (nI (rkC R 1000000) - 1) = true
    · obtain ⟨j, hj, rfl⟩ := bw_lt (by omega) q2
      obtain ⟨x, x1, x2, x3, x4⟩ := e5.2.2.2.1 j hj
      have hb2 : inb (nI j) 4 = true := inb_nI (by omega) (by omega)
      simp only [q2, if_true, gd_of hb2, nI_clamp (show j < 2 ^ 31 by omega), x2]
      refine ⟨nI x, s', u', ?_, rfl, hR2⟩
      rw [← x4, e4 x x1]
    · simp only [q2]
      exact ⟨_, _, _, rfl, rfl, hR2⟩
  · simp only [q]
    exact ⟨_, _, _, rfl, rfl, hR⟩
theorem op_holds {N : Nat} {g : Nat × Nat} {s u : St} (h : Rel N g s u) (a b : Int32) : Same N g (F_X10_holds g a b s) (F_X11_holds g a b u) := by
  have hR := h.read
  unfold F_X10_holds F_X11_holds
  simp only [F_isWeek, G_isWeek, F_within, in_0_3, in_10_13, bd_so, bI_if]
  by_cases q : bw a 0 99 = true
  · obtain ⟨w, hw, rfl⟩ := bw_of (n := 99) rfl q
    have hH := hR.2.2.2.2.2.2.2.1
    simp only [q, if_true]
    by_cases q1 : bw b 10 13 = true
    · obtain ⟨j, j1, j2, rfl⟩ := bw_of1 (a := 10) (n := 13) rfl (by omega) rfl q1
      obtain ⟨i, rfl⟩ : ∃ i, j = 10 + i := ⟨j - 10, by omega⟩
      have e0 : nI (10 + i) - 10 = nI i := by
        show nI (10 + i) - nI 10 = _
        rw [pk_sub (by omega)]
        congr 1
        omega
      obtain ⟨r, r1, r2⟩ := earn_same (g := g) hR.2.2.1 hH (show i < 4 by omega) (nI w)
      have n3 : ¬ bw (nI (10 + i)) 0 3 = true := fun z => by
        obtain ⟨x, x1, x2⟩ := bw_of (n := 3) rfl z
        have := (nI_eq (by omega) (by omega)).mp x2
        omega
      have n4 : ∀ y, y < 10 → ¬ nI (10 + i) = nI y := fun y hy z => by
        have := (nI_eq (by omega) (by omega)).mp z
        omega
      simp only [q1, n3, if_true, e0, r1, r2, bd_so]
      rw [if_neg (show ¬ false = true by decide), if_neg (show ¬ nI (10 + i) = 4 from n4 4 (by omega)), if_neg (show ¬ nI (10 + i) = 5 from n4 5 (by omega)), if_neg (show ¬ nI (10 + i) = 6 from n4 6 (by omega)), if_neg (show ¬ nI (10 + i) = 7 from n4 7 (by omega))]
      exact ⟨_, _, _, rfl, rfl, hR⟩
    · simp only [q1]
      by_cases q2 : b = 7
      · subst q2
        obtain ⟨R, v, s', u', e1, e2, e3, e4, e5, e6, e7⟩ := first_same (g := g) hH hw
        have hR2 := hR.first e3 e5
        have n4 := rkC_le4 R 1000000
        have n3 : ¬ bw 7 0 3 = true := by decide
        have f4 := e5.2.2.2.1
        have f7 := e5.2.2.2.2.2.2
        clear e5
        generalize rkC R 1000000 = nn at n4 e1 f4 f7
        have e8 := X_set_loop g (nI w) s' n4 nn 0 fu (by omega) (lt_fu (by omega))
        rw [nI_0] at e8
        have e9 : orr (s' 21 0) nn = v := by
          rw [f7]
          exact orr_congr _ (fun i hi => by
            obtain ⟨x, x1, x2, x3, x4⟩ := f4 i hi
            rw [x2, ← x4, e4 x x1])
        have z0 : orr (s' 21 0) 0 = 0 := rfl
        rw [z0] at e8
        have e10 : F_X6_firstSet g (nI w) s = some (v, s') := by
          unfold F_X6_firstSet
          rw [e1, bd_so, ← e9]
          exact e8
        simp only [n3, if_true, e10, e2, bd_so]
        rw [if_neg (show ¬ (7 : Int32) = 4 by decide), if_neg (show ¬ (7 : Int32) = 5 by decide), if_neg (show ¬ (7 : Int32) = 6 by decide)]
        exact ⟨_, _, _, rfl, rfl, hR2⟩
      · rw [if_neg q2]
        by_cases q3 : bw b 0 6 = true
        · obtain ⟨t, ht, rfl⟩ := bw_of (n := 6) rfl q3
          obtain ⟨r, r1, r2⟩ := rule_same (g := g) hH ht (nI w)
          simp only [q3, if_true, r1, bd_so]
          rcases (show t ≤ 3 ∨ t = 4 ∨ t = 5 ∨ t = 6 by omega) with z | rfl | rfl | rfl
          · have z2 : bw (nI t) 0 3 = true := by
              rcases (show t = 0 ∨ t = 1 ∨ t = 2 ∨ t = 3 by omega) with rfl | rfl | rfl | rfl <;> decide
            have ek : rkey t = (0, nI t) := by
              rcases (show t = 0 ∨ t = 1 ∨ t = 2 ∨ t = 3 by omega) with rfl | rfl | rfl | rfl <;> rfl
            rw [ek] at r2
            simp only [z2, if_true, r2, bd_so]
            exact ⟨_, _, _, rfl, rfl, hR⟩
          · have r2' : F_X11_numberFor g (nI w) 1 0 (up u 60 0 0 0) = some (r, up u 60 0 0 0) := r2
            rw [if_neg (show ¬ bw (nI 4) 0 3 = true by decide), if_pos (show nI 4 = 4 from rfl), r2', bd_so]
            exact ⟨_, _, _, rfl, rfl, hR⟩
          · have r2' : F_X11_numberFor g (nI w) 2 0 (up u 60 0 0 0) = some (r, up u 60 0 0 0) := r2
            rw [if_neg (show ¬ bw (nI 5) 0 3 = true by decide), if_neg (show ¬ nI 5 = 4 by decide), if_pos (show nI 5 = 5 from rfl), r2', bd_so]
            exact ⟨_, _, _, rfl, rfl, hR⟩
          · have r2' : F_X11_numberFor g (nI w) 3 0 (up u 60 0 0 0) = some (r, up u 60 0 0 0) := r2
            rw [if_neg (show ¬ bw (nI 6) 0 3 = true by decide), if_neg (show ¬ nI 6 = 4 by decide), if_neg (show ¬ nI 6 = 5 by decide), if_pos (show nI 6 = 6 from rfl), r2', bd_so]
            exact ⟨_, _, _, rfl, rfl, hR⟩
        · have n3 : ¬ bw b 0 3 = true := fun z => q3 (by
            obtain ⟨x, x1, rfl⟩ := bw_of (n := 3) rfl z
            rcases (show x = 0 ∨ x = 1 ∨ x = 2 ∨ x = 3 by omega) with rfl | rfl | rfl | rfl <;> decide)
          have n4 : ∀ y : Int32, bw y 0 6 = true → ¬ b = y := fun y hy z => q3 (by rw [z]; exact hy)
          simp only [q3, n3, n4 4 (by decide), n4 5 (by decide), n4 6 (by decide), q2]
          exact ⟨_, _, _, rfl, rfl, hR⟩
  · simp only [q]
    exact ⟨_, _, _, rfl, rfl, hR⟩
