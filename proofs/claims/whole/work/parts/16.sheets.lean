/-! SHEETS: sheet, set, drop -/
def rch (a n z : Int32) : Bool := decide (¬ a < 0) && (decide (¬ n < 0) && decide (a.toInt64 + n.toInt64 ≤ z.toInt64))
theorem F_reaches (g : Nat × Nat) (k : Nat) (a n : Int32) (s : St) : F_X7_reaches g k a n s = some (bI (rch a n (s 2 k 3)), s) := by
  unfold F_X7_reaches rch
  simp only [lg_gt]
  by_cases h1 : a < 0
  · simp [h1, bI]
  · by_cases h2 : n < 0
    · simp [h1, h2, bI]
    · by_cases h3 : (s 2 k 3).toInt64 < a.toInt64 + n.toInt64
      · have h4 : ¬ a.toInt64 + n.toInt64 ≤ (s 2 k 3).toInt64 := Int64.not_le.mpr h3
        simp [h1, h2, h3, h4, bI]
      · have h4 : a.toInt64 + n.toInt64 ≤ (s 2 k 3).toInt64 := Int64.not_lt.mp h3
        simp [h1, h2, h3, h4, bI]
theorem rch_iff {a n : Int32} {m : Nat} (hm : m < 2 ^ 31) : rch a n (nI m) = true ↔ ∃ i j : Nat, i < 2 ^ 31 ∧ j < 2 ^ 31 ∧ a = nI i ∧ n = nI j ∧ i + j ≤ m := by
  unfold rch
  simp only [Bool.and_eq_true, decide_eq_true_eq]
  constructor
  · rintro ⟨h1, h2, h3⟩
    obtain ⟨i, hi, rfl⟩ := nI_of h1
    obtain ⟨j, hj, rfl⟩ := nI_of h2
    rw [nI_l hi, nI_l hj, nI_l hm, lN_add, pk_lLE (by omega) (by omega)] at h3
    exact ⟨i, j, hi, hj, rfl, rfl, h3⟩
  · rintro ⟨i, j, hi, hj, rfl, rfl, h⟩
    refine ⟨nI_pos hi, nI_pos hj, ?_⟩
    rw [nI_l hi, nI_l hj, nI_l hm, lN_add, pk_lLE (by omega) (by omega)]
    exact h
theorem F_findingAt (g : Nat × Nat) (k : Nat) (a n : Int32) (s : St) : F_X7_findingAt g k a n s = some (if s 2 k 1 = 0 then (if rch a n (s 2 k 3) = true then 0 else 2) else 1, s) := by
  unfold F_X7_findingAt
  simp only [F_reaches, bd_so, bI_if]
  by_cases h1 : s 2 k 1 = 0
  · by_cases h2 : rch a n (s 2 k 3) = true
    · simp only [h1, h2, if_true]
    · simp only [h1, h2, if_true]
      rfl
  · simp only [h1, if_false]
theorem neg1 : ¬ (0 : Int32) ≤ -1 := by decide
theorem op_drop {N : Nat} {g : Nat × Nat} {s u : St} (h : Rel N g s u) (a : Int32) : Same N g (F_X10_drop g a s) (F_X11_drop g a u) := by
  have hR := h.read
  obtain ⟨hA, hB, hC, hD, hE, hF, hG, hH, hI, hJ, hK, hL, hM⟩ := hR
  unfold F_X10_drop F_X11_drop F_X10_found F_X10_unfound F_X11_finding
  simp only [F_isSheet, G_isSheet, bd_so, bI_if]
  by_cases q : bw a 0 7 = true
  · obtain ⟨k, hk, rfl⟩ := bw_of (n := 7) rfl q
    have hb : inb (nI k) 8 = true := inb_nI (by omega) (by omega)
    simp only [q, if_true, gd_of hb, nI_clamp (show k < 2 ^ 31 by omega)]
    obtain ⟨h1, h2, h3, h4⟩ := hA k (by omega)
    rcases h1 with ⟨e1, e2⟩ | ⟨e1, e2, e3⟩
    · have e2' : up u 60 0 0 0 61 0 k = -1 := e2
      rw [e1, e2', if_neg (by decide), if_neg neg1]
      exact ⟨_, _, _, rfl, rfl, hA, rfl, hC, hD, hE, hF, hG, hH, hI, hJ, hK, hL, hM⟩
    · have e4 : (0 : Int32) ≤ up u 60 0 0 0 61 0 k := by
        rw [e2]
        rcases e3 with e | e | e <;> rw [e] <;> decide
      rw [e1, if_pos rfl, if_pos e4]
      refine ⟨s 2 k 3, up (up s 2 k 1 1) 0 0 10 0, up (up (up u 60 0 0 0) 60 0 1 0) 61 0 k (-1), rfl, ?_, ?_, rfl, hC, hD, hE, hF, hG, hH, hI, hJ, hK, hL, hM⟩
      · rw [← h3]
      · intro k' hk'
        by_cases e : k' = k
        · subst e
          refine ⟨Or.inl ⟨by simp [up], by simp [up]⟩, ?_, ?_, ?_⟩
          · obtain ⟨n, n1, n2⟩ := h2
            exact ⟨n, n1, by simpa [up] using n2⟩
          · have := h3
            simpa [up] using this
          · intro i hi
            have := h4 i hi
            simpa [up] using this
        · have := hA k' hk'
          simpa [up, e] using this
  · simp only [q]
    exact ⟨_, _, _, rfl, rfl, h.read⟩
