/-! NEWS and KNOWN -/
def knf (w t k : Nat → Int32) (a b : Int32) : Nat → Nat → Int32 → Int32
  | _, 0, v => v
  | i, m + 1, v => knf w t k a b (i + 1) m (if t i = a then (if b < k i then v else v ||| ((1 : Int32) <<< (w i &&& 31))) else v)
theorem knf_congr {w t k w' t' k' : Nat → Int32} {a b : Int32} : ∀ (m i : Nat) (v : Int32), (∀ j, j < i + m → w j = w' j ∧ t j = t' j ∧ k j = k' j) → knf w t k a b i m v = knf w' t' k' a b i m v
  | 0, _, _, _ => rfl
  | m + 1, i, v, h => by
    obtain ⟨h1, h2, h3⟩ := h i (by omega)
    rw [knf, knf, h1, h2, h3]
    exact knf_congr m (i + 1) _ (fun j hj => h j (by omega))
theorem X_known_loop (g : Nat × Nat) (a b : Int32) (s : St) {c : Nat} (hc : c ≤ 20) (hp : s 43 0 3 = nI c) : ∀ (m i n : Nat) (v : Int32), i + m = c → m < n → F_X5_readBy_5 g a b n v (nI i) s = some (knf (s 44 0) (s 45 0) (s 46 0) a b i m v, s)
  | 0, i, n + 1, v, hi, _ => by
    rw [F_X5_readBy_5, hp, if_pos (nI_le (by omega) (by omega))]
    rfl
  | m + 1, i, n + 1, v, hi, hn => by
    have hb : inb (nI i) 20 = true := inb_nI (by omega) (by omega)
    rw [F_X5_readBy_5, hp, if_neg (nI_ge (by omega) (by omega))]
    simp only [gd_of hb, F_X5_readBy_48, nI_1, nI_clamp (show i < 2 ^ 31 by omega), X_known_loop g a b s hc hp m (i + 1) n _ (by omega) (by omega), knf]
    by_cases h1 : s 45 0 i = a
    · by_cases h2 : b < s 46 0 i
      · simp only [h1, h2, if_true]
      · simp only [h1, h2, if_true, if_false]
    · simp only [h1, if_false]
theorem M_known_loop (g : Nat × Nat) (a b : Int32) (s : St) {c : Nat} (hc : c ≤ 20) (hp : s 60 0 51 = nI c) : ∀ (m i n : Nat) (v : Int32), i + m = c → m < n → F_X11_known_32 g a b n v (nI i) s = some (knf (s 91 0) (s 93 0) (s 92 0) a b i m v, s)
  | 0, i, n + 1, v, hi, _ => by
    rw [F_X11_known_32, hp, if_pos (nI_le (by omega) (by omega))]
    rfl
  | m + 1, i, n + 1, v, hi, hn => by
    have hb : inb (nI i) 20 = true := inb_nI (by omega) (by omega)
    rw [F_X11_known_32, hp, if_neg (nI_ge (by omega) (by omega))]
    simp only [gd_of hb, F_X11_known_76, F_X11_known_77, nI_1, nI_clamp (show i < 2 ^ 31 by omega), M_known_loop g a b s hc hp m (i + 1) n _ (by omega) (by omega), knf, Int32.or_zero]
    by_cases h1 : s 93 0 i = a
    · by_cases h2 : b < s 92 0 i
      · simp only [h1, h2, if_true]
      · simp only [h1, h2, if_true, if_false]
    · simp only [h1, if_false]
theorem op_known {N : Nat} {g : Nat × Nat} {s u : St} (h : Rel N g s u) (a b : Int32) : Same N g (F_X10_known g a b s) (F_X11_known g a b u) := by
  have hR := h.read
  obtain ⟨c, hc, h1, h2, h3⟩ := h.2.2.2.2.2.2.2.2.2.2.2.2
  unfold F_X10_known F_X11_known F_X5_readBy
  simp only [F_within, F_isWeek, in_0_3, G_isWeek, bd_so, bI_if]
  by_cases h4 : bw a 0 3 = true
  · by_cases h5 : bw b 0 99 = true
    · simp only [h4, h5, if_true]
      have e1 := X_known_loop g a b s hc h1 c 0 fu 0 (by omega) (lt_fu (by omega))
      have e2 := M_known_loop g a b (up u 60 0 0 0) hc (show up u 60 0 0 0 60 0 51 = nI c from h2) c 0 fu 0 (by omega) (lt_fu (by omega))
      rw [nI_0] at e1 e2
      rw [e1, e2]
      refine ⟨_, _, _, rfl, ?_, hR⟩
      rw [knf_congr c 0 0 (fun j hj => h3 j (by omega))]
      rfl
    · simp only [h4, h5, if_true]
      exact ⟨_, _, _, rfl, rfl, hR⟩
  · simp only [h4]
    exact ⟨_, _, _, rfl, rfl, hR⟩
theorem op_news {N : Nat} {g : Nat × Nat} {s u : St} (h : Rel N g s u) (a b c d : Int32) : Same N g (F_X10_news g a b c d s) (F_X11_news g a b c d u) := by
  have hR := h.read
  obtain ⟨hA, hB, hC, hD, hE, hF, hG, hH, hI, hJ, hK, hL, n, hn, h1, h2, h3⟩ := hR
  have h2' : u 60 0 51 = nI n := h2
  unfold F_X10_news F_X11_news F_X5_print
  simp only [F_within, F_isWeek, in_0_9, in_0_3, in_0_30, G_isWeek, bd_so, bI_if]
  by_cases q1 : bw a 0 9 = true
  · by_cases q2 : bw b 0 99 = true
    · by_cases q3 : bw c 0 3 = true
      · by_cases q4 : bw d 0 30 = true
        · simp only [q1, q2, q3, q4, if_true, h1, h2]
          by_cases q5 : n < 20
          · have e1 : nI n < (20 : Int32) := nI_lt (b := 20) q5 (by omega)
            have e2 : ¬ nI n = (20 : Int32) := fun q => absurd ((nI_eq (b := 20) (by omega) (by omega)).mp q) (by omega)
            have hb : inb (nI n) 20 = true := inb_nI q5 (by omega)
            rw [if_pos e1, if_neg e2]
            simp only [gd_of hb, nI_clamp (show n < 2 ^ 31 by omega)]
            refine ⟨_, _, _, rfl, rfl, hA, hB, hC, hD, hE, hF, hG, hH, hI, hJ, hK, hL, n + 1, by omega, ?_, ?_, ?_⟩
            · exact nI_1 n
            · exact nI_1 n
            · intro i hi
              by_cases e : i = n
              · subst e
                simp [up]
              · have := h3 i (by omega)
                simpa [up, e] using this
          · have e : n = 20 := by omega
            subst e
            rw [if_neg (by decide), if_pos (by decide)]
            exact ⟨_, _, _, rfl, rfl, hA, hB, hC, hD, hE, hF, hG, hH, hI, hJ, hK, hL, 20, by omega, h1, h2, h3⟩
        · simp only [q1, q2, q3, q4, if_true]
          exact ⟨_, _, _, rfl, rfl, h.read⟩
      · simp only [q1, q2, q3, if_true]
        exact ⟨_, _, _, rfl, rfl, h.read⟩
    · simp only [q1, q2, if_true]
      exact ⟨_, _, _, rfl, rfl, h.read⟩
  · simp only [q1]
    exact ⟨_, _, _, rfl, rfl, h.read⟩
