/-! count -/
def cnB (f : Nat → Bool) : Nat → Nat
  | 0 => 0
  | n + 1 => cnB f n + (if f n = true then 1 else 0)
theorem cnB_congr {f h : Nat → Bool} : ∀ n : Nat, (∀ i, i < n → f i = h i) → cnB f n = cnB h n
  | 0, _ => rfl
  | n + 1, e => by rw [cnB, cnB, cnB_congr n (fun i hi => e i (by omega)), e n (by omega)]
theorem X_sheets_loop (g : Nat × Nat) (s : St) : ∀ (m i n : Nat), i + m = 8 → m < n → F_X10_sheetsThere_4 g n (nI (cnB (fun k => decide (s 2 k 1 = 0)) i)) (nI i) s = some (nI (cnB (fun k => decide (s 2 k 1 = 0)) 8), s)
  | 0, i, n + 1, hi, _ => by
    have : i = 8 := by omega
    subst this
    rw [F_X10_sheetsThere_4, if_pos (by decide)]
  | m + 1, i, n + 1, hi, hn => by
    rw [F_X10_sheetsThere_4, if_neg (show ¬ (8 : Int32) ≤ nI i from nI_ge (b := 8) (by omega) (by omega)), gd_of (inb_nI (by omega) (by omega)), nI_clamp (by omega)]
    have ih := X_sheets_loop g s m (i + 1) n (by omega) (by omega)
    simp only [F_X10_sheetsThere_25, nI_1]
    rw [cnB] at ih
    by_cases e : s 2 i 1 = 0
    · rw [if_pos (decide_eq_true e)] at ih
      rw [if_pos e]
      exact ih
    · rw [if_neg (by simpa using e)] at ih
      rw [if_neg e]
      exact ih
theorem M_sheets_loop (g : Nat × Nat) (a : Int32) (u : St) : ∀ (m i n : Nat), i + m = 8 → m < n → F_X11_count_66 g a n (nI (cnB (fun k => decide (¬ u 61 0 k < 0)) i)) (nI i) u = some (nI (cnB (fun k => decide (¬ u 61 0 k < 0)) 8), u)
  | 0, i, n + 1, hi, _ => by
    have : i = 8 := by omega
    subst this
    rw [F_X11_count_66, if_pos (by decide)]
  | m + 1, i, n + 1, hi, hn => by
    rw [F_X11_count_66, if_neg (show ¬ (8 : Int32) ≤ nI i from nI_ge (b := 8) (by omega) (by omega)), gd_of (inb_nI (by omega) (by omega)), nI_clamp (by omega)]
    have ih := M_sheets_loop g a u m (i + 1) n (by omega) (by omega)
    simp only [F_X11_count_87, nI_1, Int32.add_zero]
    rw [cnB] at ih
    by_cases e : u 61 0 i < 0
    · rw [if_neg (by simpa using e)] at ih
      rw [if_pos e]
      exact ih
    · rw [if_pos (decide_eq_true e)] at ih
      rw [if_neg e]
      exact ih
theorem isA_yarn (g : Nat × Nat) (s : St) {x : Int32} (h : ∃ t : Nat, t ≤ 5 ∧ x = nI t) : F_X0_isA g x 2 s = some (bI (decide (x = 2) || decide (x = 3)), s) ∧ F_X11_isOf g x 2 s = some (bI (decide (x = 2) || decide (x = 3)), s) := by
  obtain ⟨t, ht, rfl⟩ := h
  have e1 := F_isA g s t (by omega) 2 (by omega)
  have e2 := G_isOf g s t (by omega) 2 (by omega)
  have e3 : isK t 2 = (decide (nI t = 2) || decide (nI t = 3)) := by
    rcases (show t = 0 ∨ t = 1 ∨ t = 2 ∨ t = 3 ∨ t = 4 ∨ t = 5 by omega) with rfl | rfl | rfl | rfl | rfl | rfl <;> decide
  rw [e3] at e1 e2
  exact ⟨e1, e2⟩
theorem X_yarn_loop (g : Nat × Nat) (s : St) {c : Nat} (hc : c ≤ 16) (h1 : s 38 0 4 = nI c) (h2 : ∀ i, i < c → ∃ t : Nat, t ≤ 5 ∧ s 39 0 i = nI t) : ∀ (m i n : Nat), i + m = c → m < n → F_X0_yarns_4 g n (nI (cnB (fun k => decide (s 39 0 k = 2) || decide (s 39 0 k = 3)) i)) (nI i) s = some (nI (cnB (fun k => decide (s 39 0 k = 2) || decide (s 39 0 k = 3)) c), s)
  | 0, i, n + 1, hi, _ => by
    have : i = c := by omega
    subst this
    rw [F_X0_yarns_4, h1, if_pos (nI_le (Nat.le_refl _) (by omega))]
  | m + 1, i, n + 1, hi, hn => by
    rw [F_X0_yarns_4, h1, if_neg (nI_ge (by omega) (by omega)), gd_of (inb_nI (by omega) (by omega)), nI_clamp (by omega), (isA_yarn g s (h2 i (by omega))).1]
    have ih := X_yarn_loop g s hc h1 h2 m (i + 1) n (by omega) (by omega)
    simp only [F_X0_yarns_28, nI_1, bd_so, bI_if]
    rw [cnB] at ih
    by_cases e : (decide (s 39 0 i = 2) || decide (s 39 0 i = 3)) = true
    · rw [if_pos e] at ih
      rw [if_pos e]
      exact ih
    · rw [if_neg e] at ih
      rw [if_neg e]
      exact ih
theorem M_yarn_loop (g : Nat × Nat) (a : Int32) (u : St) {c : Nat} (hc : c ≤ 16) (h1 : u 60 0 47 = nI c) (h2 : ∀ i, i < c → ∃ t : Nat, t ≤ 5 ∧ u 88 0 i = nI t) : ∀ (m i n : Nat), i + m = c → m < n → F_X11_count_124 g a n (nI (cnB (fun k => decide (u 88 0 k = 2) || decide (u 88 0 k = 3)) i)) (nI i) u = some (nI (cnB (fun k => decide (u 88 0 k = 2) || decide (u 88 0 k = 3)) c), u)
  | 0, i, n + 1, hi, _ => by
    have : i = c := by omega
    subst this
    rw [F_X11_count_124, h1, if_pos (nI_le (Nat.le_refl _) (by omega))]
  | m + 1, i, n + 1, hi, hn => by
    rw [F_X11_count_124, h1, if_neg (nI_ge (by omega) (by omega)), gd_of (inb_nI (by omega) (by omega)), nI_clamp (by omega), (isA_yarn g u (h2 i (by omega))).2]
    have ih := M_yarn_loop g a u hc h1 h2 m (i + 1) n (by omega) (by omega)
    simp only [F_X11_count_151, nI_1, Int32.add_zero, bd_so, bI_if]
    rw [cnB] at ih
    by_cases e : (decide (u 88 0 i = 2) || decide (u 88 0 i = 3)) = true
    · rw [if_pos e] at ih
      rw [if_pos e]
      exact ih
    · rw [if_neg e] at ih
      rw [if_neg e]
      exact ih
/-- all BALES: both sides add the four numbers -/
theorem all_same {nM nH : Nat} {s u : St} {a : Int32} (hb : ∀ j : Nat, j < 4 → ∃ B : Nat, B ≤ 1000000000 ∧ F_X1_balesOf (nM, nH) (nI j) s = some (nI B, s) ∧ F_X11_balesOf (nM, nH) (nI j) u = some (nI B, u)) : ∀ (m i n : Nat) (v : Int32), i + m = 4 → m < n → ∃ w : Int32, F_X1_allBales_4 (nM, nH) n v (nI i) s = some (w, s) ∧ F_X11_count_173 (nM, nH) a n v (nI i) u = some (w, u)
  | 0, i, n + 1, v, hi, _ => by
    have : i = 4 := by omega
    subst this
    rw [F_X1_allBales_4, F_X11_count_173, if_pos (by decide), if_pos (by decide)]
    exact ⟨_, rfl, rfl⟩
  | m + 1, i, n + 1, v, hi, hn => by
    obtain ⟨B, -, b1, b2⟩ := hb i (by omega)
    rw [F_X1_allBales_4, F_X11_count_173, if_neg (show ¬ (4 : Int32) ≤ nI i from nI_ge (b := 4) (by omega) (by omega)), if_neg (show ¬ (4 : Int32) ≤ nI i from nI_ge (b := 4) (by omega) (by omega)), b1, b2, bd_so, bd_so, nI_1]
    exact all_same hb m (i + 1) n _ (by omega) (by omega)
theorem op_count {N : Nat} {g : Nat × Nat} {s u : St} (hN : N < 600) (h : Rel N g s u) (a : Int32) : Same N g (F_X10_count g a s) (F_X11_count g a u) := by
  obtain ⟨nM, nH⟩ := g
  have hR := h.read
  obtain ⟨hA, hB, hC, hD, hE, hF, hG, hH, hI, hJ, hK, hL, hM⟩ := id hR
  unfold F_X10_count F_X11_count F_X10_sheetsThere F_X0_yarns F_X1_allBales
  by_cases q0 : a = 0
  · rw [if_pos q0, if_pos q0]
    have e1 := X_sheets_loop (nM, nH) s 8 0 fu (by omega) (lt_fu (by omega))
    have e2 := M_sheets_loop (nM, nH) a (up u 60 0 0 0) 8 0 fu (by omega) (lt_fu (by omega))
    have e3 : cnB (fun k => decide (¬ up u 60 0 0 0 61 0 k < 0)) 8 = cnB (fun k => decide (s 2 k 1 = 0)) 8 := cnB_congr 8 (fun i hi => by
      rcases (hA i hi).1 with ⟨z1, z2⟩ | ⟨z1, z2, z3⟩
      · rw [z1, z2]
        decide
      · rw [z1, z2]
        rcases z3 with z | z | z <;> rw [z] <;> decide)
    rw [e3] at e2
    have z1 : nI (cnB (fun k => decide (s 2 k 1 = 0)) 0) = 0 := rfl
    have z2 : nI (cnB (fun k => decide (¬ up u 60 0 0 0 61 0 k < 0)) 0) = 0 := rfl
    rw [z1, nI_0] at e1
    rw [z2, nI_0] at e2
    rw [e1, e2, bd_so]
    exact ⟨_, _, _, rfl, rfl, hR⟩
  rw [if_neg q0, if_neg q0]
  by_cases q1 : a = 1
  · rw [if_pos q1, if_pos q1]
    obtain ⟨-, h1, h2, -⟩ := hG
    exact ⟨_, _, _, rfl, by rw [h1, ← h2]; rfl, hR⟩
  rw [if_neg q1, if_neg q1]
  by_cases q2 : a = 2
  · rw [if_pos q2, if_pos q2]
    obtain ⟨-, h1, h2, -⟩ := hJ
    exact ⟨_, _, _, rfl, by rw [h1, ← h2]; rfl, hR⟩
  rw [if_neg q2, if_neg q2]
  by_cases q3 : a = 3
  · rw [if_pos q3, if_pos q3]
    obtain ⟨c, -, h1, h2, -⟩ := hF
    exact ⟨_, _, _, rfl, by rw [h1, ← h2]; rfl, hR⟩
  rw [if_neg q3, if_neg q3]
  by_cases q4 : a = 4
  · rw [if_pos q4, if_pos q4]
    obtain ⟨c, -, h1, h2, -⟩ := hH
    exact ⟨_, _, _, rfl, by rw [h1, ← h2]; rfl, hR⟩
  rw [if_neg q4, if_neg q4]
  by_cases q5 : a = 5
  · rw [if_pos q5, if_pos q5]
    obtain ⟨c, -, h1, h2, -⟩ := hK
    exact ⟨_, _, _, rfl, by rw [h1, ← h2]; rfl, hR⟩
  rw [if_neg q5, if_neg q5]
  by_cases q6 : a = 6
  · rw [if_pos q6, if_pos q6]
    obtain ⟨c, hc, h1, h2, h3⟩ := hK
    have e1 := X_yarn_loop (nM, nH) s hc h1 (fun i hi => (h3 i hi).2.2.2.1) c 0 fu (by omega) (lt_fu (by omega))
    have e2 := M_yarn_loop (nM, nH) a (up u 60 0 0 0) hc h2 (fun i hi => by rw [(h3 i hi).1]; exact (h3 i hi).2.2.2.1) c 0 fu (by omega) (lt_fu (by omega))
    have e3 : cnB (fun k => decide (up u 60 0 0 0 88 0 k = 2) || decide (up u 60 0 0 0 88 0 k = 3)) c = cnB (fun k => decide (s 39 0 k = 2) || decide (s 39 0 k = 3)) c := cnB_congr c (fun i hi => by
      show (decide (up u 60 0 0 0 88 0 i = 2) || decide (up u 60 0 0 0 88 0 i = 3)) = _
      rw [(h3 i hi).1])
    rw [e3] at e2
    have z1 : nI (cnB (fun k => decide (s 39 0 k = 2) || decide (s 39 0 k = 3)) 0) = 0 := rfl
    have z2 : nI (cnB (fun k => decide (up u 60 0 0 0 88 0 k = 2) || decide (up u 60 0 0 0 88 0 k = 3)) 0) = 0 := rfl
    rw [z1, nI_0] at e1
    rw [z2, nI_0] at e2
    rw [e1, e2, bd_so]
    exact ⟨_, _, _, rfl, rfl, hR⟩
  rw [if_neg q6, if_neg q6]
  by_cases q7 : a = 7
  · rw [if_pos q7, if_pos q7]
    have h1 := hC.2.2.2.2.2.1
    exact ⟨_, _, _, rfl, by rw [← h1]; rfl, hR⟩
  rw [if_neg q7, if_neg q7]
  by_cases q8 : a = 8
  · rw [if_pos q8, if_pos q8]
    obtain ⟨c, -, h1, h2, -⟩ := hI
    exact ⟨_, _, _, rfl, by rw [h1, ← h2]; rfl, hR⟩
  rw [if_neg q8, if_neg q8]
  by_cases q9 : a = 9
  · rw [if_pos q9, if_pos q9]
    obtain ⟨h0, h1, h2, -⟩ := id hG
    obtain ⟨w, w1, w2⟩ := all_same (a := a) (fun j hj => bales_same (N := N + 1) (u := up u 60 0 0 0) (by omega) hD h0 h1 h2 hj nH) 4 0 fu 0 (by omega) (lt_fu (by omega))
    rw [nI_0] at w1 w2
    rw [w1, w2, bd_so]
    exact ⟨_, _, _, rfl, rfl, hR⟩
  rw [if_neg q9, if_neg q9]
  exact ⟨_, _, _, rfl, rfl, hR⟩
