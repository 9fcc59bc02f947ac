/-! stuff -/
theorem in_lohi (g : Nat × Nat) (x lo hi : Int32) {l h : Int64} (s : St) (hl : l = lo.toInt64) (hh : h = hi.toInt64) : F_X11_in g x.toInt64 l h s = some (bI (bw x lo hi), s) := by
  subst hl
  subst hh
  exact F_in g x lo hi s
theorem RCo_set {cl fe wk : Int32} {ba br : Nat → Int32} {cl' fe' wk' : Int32} {ba' br' : Nat → Int32} (h : RCo cl fe wk ba br cl' fe' wk' ba' br') :
    (∀ n : Nat, n ≤ 5000 → RCo (nI n) fe wk ba br (nI n) fe' wk' ba' br') ∧ (∀ n : Nat, n ≤ 100 → RCo cl (nI n) wk ba br cl' (nI n) wk' ba' br') ∧ (∀ j n : Nat, 1 ≤ n → n ≤ 1000 → RCo cl fe wk (upd ba j (nI n)) br cl' fe' wk' (upd ba' j (nI n)) br') ∧ (∀ j n : Nat, n ≤ 99 → RCo cl fe wk ba (upd br j (nI n)) cl' fe' wk' ba' (upd br' j (nI n))) := by
  obtain ⟨h1, h2, h3, h4, h5, h6, h7⟩ := h
  refine ⟨fun n hn => ⟨⟨n, hn, rfl⟩, rfl, h3, h4, h5, h6, h7⟩, fun n hn => ⟨h1, h2, ⟨n, hn, rfl⟩, rfl, h5, h6, h7⟩, fun j n ha hn => ⟨h1, h2, h3, h4, h5, h6, fun i hi => ?_⟩, fun j n hn => ⟨h1, h2, h3, h4, h5, h6, fun i hi => ?_⟩⟩
  · obtain ⟨g1, g2, g3, g4⟩ := h7 i hi
    by_cases e : i = j
    · subst e
      exact ⟨by simp [upd], ⟨n, ha, hn, by simp [upd]⟩, g3, g4⟩
    · exact ⟨by simpa [upd, e] using g1, by simpa [upd, e] using g2, g3, g4⟩
  · obtain ⟨g1, g2, g3, g4⟩ := h7 i hi
    by_cases e : i = j
    · subst e
      exact ⟨g1, g2, by simp [upd], n, hn, by simp [upd]⟩
    · exact ⟨g1, g2, by simpa [upd, e] using g3, by simpa [upd, e] using g4⟩
theorem RPo_set {N nM : Nat} {po : Nat → Int32} {bl : Nat → Nat → Int32} {po' ow' : Nat → Int32} (h : RPo N nM po bl po' ow') {j n : Nat} (hn : n ≤ 1500000 * N) : RPo N nM (upd po j (nI n)) bl (upd po' j (nI n)) ow' := fun i hi => by
  obtain ⟨g1, g2, g3, g4⟩ := h i hi
  by_cases e : i = j
  · subst e
    exact ⟨by simp [upd], ⟨n, hn, by simp [upd]⟩, g3, g4⟩
  · exact ⟨by simpa [upd, e] using g1, by simpa [upd, e] using g2, g3, g4⟩
theorem op_stuff {N : Nat} {g : Nat × Nat} {s u : St} (h : Rel N g s u) (a b c : Int32) : Same N g (F_X10_stuff g a b c s) (F_X11_stuff g a b c u) := by
  have hR := h.read
  obtain ⟨hA, hB, hC, hD, hE, hF, hG, hH, hI, hJ, hK, hL, hM⟩ := hR
  obtain ⟨c1, c2, c3, c4⟩ := RCo_set hC
  have hC7 := hC.2.2.2.2.2.2
  have bad : Same N g (some (-1000001, s)) (some (-1000001, up u 60 0 0 0)) := ⟨_, _, _, rfl, rfl, h.read⟩
  unfold F_X10_stuff F_X11_stuff F_X10_ofSort F_X10_changed F_X1_changeCloth F_X1_changeFear
  simp only [F_within, F_isSort, in_0_4, G_isSort, bd_so, bI_if]
  by_cases q : bw b 0 4 = true
  · obtain ⟨j, hj, rfl⟩ := bw_of (n := 4) rfl q
    simp only [q, if_true]

    rcases (show j = 0 ∨ j = 1 ∨ j = 2 ∨ j = 3 ∨ j = 4 by omega) with rfl | rfl | rfl | rfl | rfl
    · rw [if_pos (show nI 0 = (0 : Int32) from rfl), if_neg (show ¬ (3 : Int32) ≤ nI 0 by decide)]
      by_cases qs : bw a 0 3 = true
      · obtain ⟨i, hi, rfl⟩ := bw_of (n := 3) rfl qs
        have hb : inb (nI i) 4 = true := inb_nI (by omega) (by omega)
        have e0 : nI 0 = (0 : Int32) := rfl
        simp only [qs, if_true, F_X11_stuff_29, F_X11_stuff_40, F_X11_stuff_86, F_X11_stuff_152, e0, in_lohi g c 1 1000 _ (l := 1) (h := 1000) rfl rfl, bd_so, bI_if, show lna 5 = 4 from rfl, gd_of hb, nI_clamp (show i < 2 ^ 31 by omega)]
        by_cases q2 : bw c 1 1000 = true
        · obtain ⟨v, v1, v2, rfl⟩ := bw_of1 (a := 1) (n := 1000) rfl (by omega) rfl q2
          simp only [q2, if_true]
          have e9 : u 64 0 i = s 5 0 i := (hC7 i (by omega)).1
          exact ⟨s 5 0 i, up s 5 0 i (nI v), up (up u 60 0 0 0) 64 0 i (nI v), rfl, by rw [← e9]; rfl, hA, hB, c3 i v v1 v2, hD, hE, hF, hG, hH, hI, hJ, hK, hL, hM⟩
        · simp only [q2]
          exact bad
      · simp only [qs, bd_so, ite_self, Bool.false_eq_true, if_false]
        exact bad
    · rw [if_neg (show ¬ nI 1 = (0 : Int32) by decide), if_pos (show nI 1 = (1 : Int32) from rfl), if_neg (show ¬ (3 : Int32) ≤ nI 1 by decide)]
      by_cases qs : bw a 0 3 = true
      · obtain ⟨i, hi, rfl⟩ := bw_of (n := 3) rfl qs
        have hb : inb (nI i) 4 = true := inb_nI (by omega) (by omega)
        have e0 : nI 1 = (1 : Int32) := rfl
        simp only [qs, if_true, F_X11_stuff_29, F_X11_stuff_40, F_X11_stuff_86, F_X11_stuff_152, e0, i10, if_false, in_lohi g c 0 99 _ (l := 0) (h := 99) rfl rfl, bd_so, bI_if, show lna 6 = 4 from rfl, gd_of hb, nI_clamp (show i < 2 ^ 31 by omega)]
        by_cases q2 : bw c 0 99 = true
        · obtain ⟨v, v2, rfl⟩ := bw_of (n := 99) rfl q2
          simp only [q2, if_true]
          have e9 : u 65 0 i = s 6 0 i := (hC7 i (by omega)).2.2.1
          exact ⟨s 6 0 i, up s 6 0 i (nI v), up (up u 60 0 0 0) 65 0 i (nI v), rfl, by rw [← e9]; rfl, hA, hB, c4 i v v2, hD, hE, hF, hG, hH, hI, hJ, hK, hL, hM⟩
        · simp only [q2]
          exact bad
      · simp only [qs, bd_so, ite_self, Bool.false_eq_true, if_false]
        exact bad
    · rw [if_neg (show ¬ nI 2 = (0 : Int32) by decide), if_neg (show ¬ nI 2 = (1 : Int32) by decide), if_pos (show nI 2 = (2 : Int32) from rfl), if_neg (show ¬ (3 : Int32) ≤ nI 2 by decide)]
      by_cases qs : bw a 0 3 = true
      · obtain ⟨i, hi, rfl⟩ := bw_of (n := 3) rfl qs
        have hb : inb (nI i) 4 = true := inb_nI (by omega) (by omega)
        have e0 : nI 2 = (2 : Int32) := rfl
        have e20 : ((2 : Int32) = 0) = False := eq_false (by decide)
        have e21 : ((2 : Int32) = 1) = False := eq_false (by decide)
        simp only [qs, if_true, F_X11_stuff_29, F_X11_stuff_40, F_X11_stuff_86, F_X11_stuff_152, e0, e20, e21, if_false, in_lohi g c 0 9999 _ (l := 0) (h := 9999) rfl rfl, bd_so, bI_if, show lna 7 = 4 from rfl, gd_of hb, nI_clamp (show i < 2 ^ 31 by omega)]
        by_cases q2 : bw c 0 9999 = true
        · obtain ⟨v, v2, rfl⟩ := bw_of (n := 9999) rfl q2
          simp only [q2, if_true]
          have e9 : u 66 0 i = s 7 0 i := (hD i (by omega)).1
          exact ⟨s 7 0 i, up s 7 0 i (nI v), up (up u 60 0 0 0) 66 0 i (nI v), rfl, by rw [← e9]; rfl, hA, hB, hC, RPo_set hD (by omega), hE, hF, hG, hH, hI, hJ, hK, hL, hM⟩
        · simp only [q2]
          exact bad
      · simp only [qs, bd_so, ite_self, Bool.false_eq_true, if_false]
        exact bad
    · rw [if_neg (show ¬ nI 3 = (0 : Int32) by decide), if_neg (show ¬ nI 3 = (1 : Int32) by decide), if_neg (show ¬ nI 3 = (2 : Int32) by decide), if_pos (show nI 3 = (3 : Int32) from rfl), if_pos (show (3 : Int32) ≤ nI 3 by decide)]
      have e0 : nI 3 = (3 : Int32) := rfl
      have e20 : ((3 : Int32) = 0) = False := eq_false (by decide)
      have e21 : ((3 : Int32) = 1) = False := eq_false (by decide)
      have e22 : ((3 : Int32) = 2) = False := eq_false (by decide)
      simp only [if_true, F_X11_stuff_29, F_X11_stuff_40, F_X11_stuff_86, F_X11_stuff_152, e0, e20, e21, e22, if_false, in_lohi g c 0 5000 _ (l := 0) (h := 5000) rfl rfl, bd_so, bI_if]
      by_cases q2 : bw c 0 5000 = true
      · obtain ⟨v, v2, rfl⟩ := bw_of (n := 5000) rfl q2
        simp only [q2, if_true]
        have e9 : u 60 0 8 = s 4 0 4 := hC.2.1
        exact ⟨s 4 0 4, up s 4 0 4 (nI v), up (up u 60 0 0 0) 60 0 8 (nI v), rfl, by rw [← e9]; rfl, hA, hB, c1 v v2, hD, hE, hF, hG, hH, hI, hJ, hK, hL, hM⟩
      · simp only [q2]
        exact bad
    · rw [if_neg (show ¬ nI 4 = (0 : Int32) by decide), if_neg (show ¬ nI 4 = (1 : Int32) by decide), if_neg (show ¬ nI 4 = (2 : Int32) by decide), if_neg (show ¬ nI 4 = (3 : Int32) by decide), if_pos (show nI 4 = (4 : Int32) from rfl), if_pos (show (3 : Int32) ≤ nI 4 by decide)]
      have e0 : nI 4 = (4 : Int32) := rfl
      have e20 : ((4 : Int32) = 0) = False := eq_false (by decide)
      have e21 : ((4 : Int32) = 1) = False := eq_false (by decide)
      have e22 : ((4 : Int32) = 2) = False := eq_false (by decide)
      have e23 : ((4 : Int32) = 3) = False := eq_false (by decide)
      simp only [if_true, F_X11_stuff_29, F_X11_stuff_40, F_X11_stuff_86, F_X11_stuff_152, e0, e20, e21, e22, e23, if_false, in_lohi g c 0 100 _ (l := 0) (h := 100) rfl rfl, bd_so, bI_if]
      by_cases q2 : bw c 0 100 = true
      · obtain ⟨v, v2, rfl⟩ := bw_of (n := 100) rfl q2
        simp only [q2, if_true]
        have e9 : u 60 0 9 = s 4 0 5 := hC.2.2.2.1
        exact ⟨s 4 0 5, up s 4 0 5 (nI v), up (up u 60 0 0 0) 60 0 9 (nI v), rfl, by rw [← e9]; rfl, hA, hB, c2 v v2, hD, hE, hF, hG, hH, hI, hJ, hK, hL, hM⟩
      · simp only [q2]
        exact bad
  · have nb : ∀ n : Nat, n ≤ 4 → ¬ b = nI n := fun n hn e => q (by
      subst e
      unfold bw
      simp only [Bool.and_eq_true, decide_eq_true_eq]
      exact ⟨nI_pos' (by omega), nI_le (b := 4) hn (by omega)⟩)
    rw [if_neg (show ¬ b = 0 from nb 0 (by omega)), if_neg (show ¬ b = 1 from nb 1 (by omega)), if_neg (show ¬ b = 2 from nb 2 (by omega)), if_neg (show ¬ b = 3 from nb 3 (by omega)), if_neg (show ¬ b = 4 from nb 4 (by omega))]
    simp only [q]
    exact bad
