/-! status, fault, trace, THINGS -/
theorem bw_of {x M : Int32} {n : Nat} (hM : M.toInt = n) (h : bw x 0 M = true) : ∃ j : Nat, j ≤ n ∧ x = nI j := by
  unfold bw at h
  simp only [Bool.and_eq_true, decide_eq_true_eq] at h
  exact nI_of2 hM (Int32.not_lt.mpr h.1) h.2
theorem bw_lt {x : Int32} {c : Nat} (hc : c < 2 ^ 31) (h : bw x 0 (nI c - 1) = true) : ∃ j : Nat, j < c ∧ x = nI j := by
  cases c with
  | zero =>
    unfold bw at h
    simp only [Bool.and_eq_true, decide_eq_true_eq] at h
    exact absurd (Int32.le_trans h.1 h.2) (by decide)
  | succ k =>
    rw [nI_pred] at h
    obtain ⟨j, h1, h2⟩ := bw_of (nI_toInt (by omega)) h
    exact ⟨j, by omega, h2⟩
theorem F_hasThing (g : Nat × Nat) (x : Int32) (s : St) : F_X0_hasThing g x s = some (bI (bw x 0 (s 38 0 4 - 1)), s) := by
  unfold F_X0_hasThing
  rw [F_within, bd_so, gd_of (isb_bI _)]
theorem G_isThing (g : Nat × Nat) (x : Int32) (s : St) : F_X11_isThing g x s = some (bI (bw x 0 (s 60 0 47 - 1)), s) := by
  unfold F_X11_isThing
  rw [in_0w, bd_so, gd_of (isb_bI _)]
theorem op_status {N : Nat} {g : Nat × Nat} {s u : St} (h : Rel N g s u) : Same N g (F_X10_status g s) (F_X11_status g u) :=
  ⟨_, _, _, rfl, by rw [h.2.1]; rfl, h.read⟩
theorem op_fault {N : Nat} {g : Nat × Nat} {s u : St} (h : Rel N g s u) : Same N g (F_X10_fault g s) (F_X11_fault g u) := by
  obtain ⟨c, -, -, -, h4, -⟩ := h.2.2.2.2.2.2.2.2.1
  exact ⟨_, _, _, rfl, by rw [← h4]; rfl, h.read⟩
theorem op_trace {N : Nat} {g : Nat × Nat} {s u : St} (h : Rel N g s u) (a : Int32) : Same N g (F_X10_trace g a s) (F_X11_trace g a u) := by
  obtain ⟨c, hc, h1, h2, h3⟩ := h.2.2.2.2.2.2.2.2.2.2.2.1
  unfold F_X10_trace F_X11_trace
  have e : up u 60 0 0 0 60 0 56 = u 60 0 56 := rfl
  simp only [F_within, in_0w, bd_so, bI_if, h1, h2]
  by_cases q : bw a 0 (nI c - 1) = true
  · obtain ⟨j, hj, rfl⟩ := bw_lt (by omega) q
    simp only [q, if_true, gd_of (inb_nI (show j < 16 by omega) (by omega)), nI_clamp (show j < 2 ^ 31 by omega)]
    refine ⟨_, _, _, rfl, ?_, h.read⟩
    rw [← h3 j hj]
    rfl
  · simp only [q]
    exact ⟨_, _, _, rfl, rfl, h.read⟩
theorem op_kind {N : Nat} {g : Nat × Nat} {s u : St} (h : Rel N g s u) (a : Int32) : Same N g (F_X10_kind g a s) (F_X11_kind g a u) := by
  obtain ⟨c, hc, h1, h2, h3⟩ := h.2.2.2.2.2.2.2.2.2.2.1
  unfold F_X10_kind F_X11_kind
  have e : up u 60 0 0 0 60 0 47 = nI c := h2
  simp only [F_hasThing, G_isThing, bd_so, bI_if, h1, e]
  by_cases q : bw a 0 (nI c - 1) = true
  · obtain ⟨j, hj, rfl⟩ := bw_lt (by omega) q
    simp only [q, if_true, gd_of (inb_nI (show j < 16 by omega) (by omega)), nI_clamp (show j < 2 ^ 31 by omega)]
    refine ⟨_, _, _, rfl, ?_, h.read⟩
    rw [← (h3 j hj).1]
    rfl
  · simp only [q]
    exact ⟨_, _, _, rfl, rfl, h.read⟩
def isK : Nat → Nat → Bool := fun t k => k == 0 || t == k || (k == 1 && (t == 2 || t == 3)) || (k == 2 && t == 3) || (k == 4 && t == 5)
theorem fu_6 : fu = 999993 + 7 := rfl
theorem F_isA (g : Nat × Nat) (s : St) : ∀ t : Nat, t < 6 → ∀ k : Nat, k < 6 → F_X0_isA g (nI t) (nI k) s = some (bI (isK t k), s) := by
  intro t ht k hk
  unfold F_X0_isA
  rw [fu_6]
  rcases (show t = 0 ∨ t = 1 ∨ t = 2 ∨ t = 3 ∨ t = 4 ∨ t = 5 by omega) with rfl | rfl | rfl | rfl | rfl | rfl <;>
    rcases (show k = 0 ∨ k = 1 ∨ k = 2 ∨ k = 3 ∨ k = 4 ∨ k = 5 by omega) with rfl | rfl | rfl | rfl | rfl | rfl <;> rfl
theorem G_isOf (g : Nat × Nat) (s : St) : ∀ t : Nat, t < 6 → ∀ k : Nat, k < 6 → F_X11_isOf g (nI t) (nI k) s = some (bI (isK t k), s) := by
  intro t ht k hk
  rcases (show t = 0 ∨ t = 1 ∨ t = 2 ∨ t = 3 ∨ t = 4 ∨ t = 5 by omega) with rfl | rfl | rfl | rfl | rfl | rfl <;>
    rcases (show k = 0 ∨ k = 1 ∨ k = 2 ∨ k = 3 ∨ k = 4 ∨ k = 5 by omega) with rfl | rfl | rfl | rfl | rfl | rfl <;> rfl
theorem op_as {N : Nat} {g : Nat × Nat} {s u : St} (h : Rel N g s u) (a b : Int32) : Same N g (F_X10_as g a b s) (F_X11_as g a b u) := by
  have hR := h.read
  obtain ⟨hA, hB, hC, hD, hE, hF, hG, hH, hI, hJ, hK, hL, hM⟩ := hR
  obtain ⟨c, hc, h1, h2, h3⟩ := id hK
  unfold F_X10_as F_X11_as
  simp only [F_hasThing, G_isThing, F_within, in_0_5, bd_so, bI_if, h1, h2]
  by_cases q : bw a 0 (nI c - 1) = true
  · by_cases q2 : bw b 0 5 = true
    · obtain ⟨j, hj, rfl⟩ := bw_lt (by omega) q
      obtain ⟨k, hk, rfl⟩ := bw_of (n := 5) rfl q2
      obtain ⟨e1, e2, -, ⟨t, ht, e3⟩, -⟩ := h3 j hj
      have e1' : u 88 0 j = s 39 0 j := e1
      have e2' : u 89 0 j = s 40 0 j := e2
      have e4 : up u 60 0 0 0 88 0 j = nI t := by rw [← e3]; exact e1
      simp only [q, q2, if_true, gd_of (inb_nI (show j < 16 by omega) (by omega)), nI_clamp (show j < 2 ^ 31 by omega), e3, e4, F_isA g _ t (by omega) k (by omega), G_isOf g _ t (by omega) k (by omega), bd_so, bI_if]
      by_cases q3 : isK t k = true
      · simp only [q3, if_true]
        refine ⟨s 40 0 j, up s 0 0 10 0, up (up u 60 0 0 0) 60 0 1 0, rfl, ?_, hA, rfl, hC, hD, hE, hF, hG, hH, hI, hJ, hK, hL, hM⟩
        rw [← e2']
        rfl
      · simp only [q3]
        exact ⟨_, _, _, rfl, rfl, hA, rfl, hC, hD, hE, hF, hG, hH, hI, hJ, hK, hL, hM⟩
    · simp only [q, q2, if_true]
      exact ⟨_, _, _, rfl, rfl, h.read⟩
  · simp only [q]
    exact ⟨_, _, _, rfl, rfl, h.read⟩
theorem RTh.push {tc : Int32} {so nu mo : Nat → Int32} {tc' : Int32} {so' nu' mo' : Nat → Int32} {c t : Nat} {n o : Int32} (hc : c < 16) (h1 : tc = nI c) (h2 : tc' = nI c) (h3 : ∀ i, i < c → so' i = so i ∧ nu' i = nu i ∧ mo' i = mo i ∧ (∃ t : Nat, t ≤ 5 ∧ so i = nI t) ∧ ((so i = 2 ∨ so i = 3) → ∃ j : Nat, j < i ∧ mo i = nI j))
    (ht : t ≤ 5) (ho : t = 2 ∨ t = 3 → ∃ j : Nat, j < c ∧ o = nI j) : RTh (nI c + 1) (upd so c (nI t)) (upd nu c n) (upd mo c o) (nI c + 1) (upd so' c (nI t)) (upd nu' c n) (upd mo' c o) := by
  refine ⟨c + 1, by omega, nI_1 c, nI_1 c, fun i hi => ?_⟩
  by_cases e : i = c
  · subst e
    refine ⟨by simp [upd], by simp [upd], by simp [upd], ⟨t, ht, by simp [upd]⟩, fun q => ?_⟩
    have q2 : t = 2 ∨ t = 3 := by
      rcases q with q | q
      · refine Or.inl ((nI_eq (b := 2) (by omega) (by omega)).mp ?_)
        have q9 : nI t = 2 := by simpa [upd] using q
        exact q9
      · refine Or.inr ((nI_eq (b := 3) (by omega) (by omega)).mp ?_)
        have q9 : nI t = 3 := by simpa [upd] using q
        exact q9
    obtain ⟨j, h4, h5⟩ := ho q2
    exact ⟨j, h4, by simpa [upd] using h5⟩
  · have := h3 i (by omega)
    simpa [upd, e] using this
