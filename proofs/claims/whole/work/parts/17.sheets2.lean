theorem ix80 {k j : Nat} : (80 : Int32) * nI k + nI j = nI (80 * k + j) := by
  show nI 80 * nI k + nI j = _
  rw [pk_mul, nI_add]
/-- the first n numbers of (t, k) are v -/
def fil (s : St) (t k n : Nat) (v : Int32) : St := fun a b c => if a = t then (if b = k then (if c < n then v else s a b c) else s a b c) else s a b c
theorem fil_0 (s : St) (t k : Nat) (v : Int32) : fil s t k 0 v = s := by
  funext a b c
  simp [fil]
theorem fil_1 (s : St) (t k i : Nat) (v : Int32) : up (fil s t k i v) t k i v = fil s t k (i + 1) v := by
  funext a b c
  unfold up fil
  by_cases h1 : a = t
  · by_cases h2 : b = k
    · by_cases h3 : c = i
      · subst h3
        simp [h1, h2]
      · by_cases h4 : c < i
        · simp [h1, h2, h3, h4, Nat.lt_succ_of_lt h4]
        · have h5 : ¬ c < i + 1 := by omega
          simp [h1, h2, h3, h4, h5]
    · simp [h1, h2]
  · simp [h1]
theorem X_fill (g : Nat × Nat) (t k L : Nat) (v : Int32) (s : St) (hL : lna t = L) (hs : L < 100000) : ∀ (m i n : Nat), i + m = L → m < n → F_J7_fill_53178_5 g t k v n (nI i) (nI L) (fil s t k i v) = some ((), fil s t k L v)
  | 0, i, n + 1, hi, _ => by
    have : i = L := by omega
    subst this
    rw [F_J7_fill_53178_5, if_pos (nI_le (Nat.le_refl _) (by omega))]
  | m + 1, i, n + 1, hi, hn => by
    rw [F_J7_fill_53178_5, if_neg (nI_ge (by omega) (by omega)), hL, gd_of (inb_nI (by omega) (by omega)), nI_clamp (by omega), fil_1, nI_1]
    exact X_fill g t k L v s hL hs m (i + 1) n (by omega) (by omega)
/-- the reference's row: i numbers from 80 k on are 0 -/
def fim (u : St) (k i : Nat) : St := fun a b c => if a = 63 then (if b = 0 then (if 80 * k ≤ c ∧ c < 80 * k + i then 0 else u a b c) else u a b c) else u a b c
theorem fim_0 (u : St) (k : Nat) : fim u k 0 = u := by
  funext a b c
  unfold fim
  have h : ¬ (80 * k ≤ c ∧ c < 80 * k + 0) := by omega
  rw [if_neg h]
  simp
theorem fim_1 (u : St) (k i : Nat) : up (fim u k i) 63 0 (80 * k + i) 0 = fim u k (i + 1) := by
  funext a b c
  unfold up fim
  by_cases h1 : a = 63
  · by_cases h2 : b = 0
    · by_cases h3 : c = 80 * k + i
      · have h5 : 80 * k ≤ c ∧ c < 80 * k + (i + 1) := by omega
        simp only [h1, h2, if_true]
        rw [if_pos h3, if_pos h5]
      · simp only [h1, h2, if_true]
        rw [if_neg h3]
        by_cases h4 : 80 * k ≤ c ∧ c < 80 * k + i
        · rw [if_pos h4, if_pos (by omega)]
        · rw [if_neg h4, if_neg (by omega)]
    · simp [h1, h2]
  · simp [h1]
theorem M_sheet_loop (g : Nat × Nat) (k : Nat) (hk : k < 8) (b c : Int32) (u : St) : ∀ (m i n : Nat), i + m = 80 → m < n → F_X11_sheet_65 g (nI k) b c n (nI i) (fim u k i) = some (c, fim u k 80)
  | 0, i, n + 1, hi, _ => by
    have : i = 80 := by omega
    subst this
    rw [F_X11_sheet_65, if_pos (by decide)]
  | m + 1, i, n + 1, hi, hn => by
    rw [F_X11_sheet_65, if_neg (show ¬ (80 : Int32) ≤ nI i from nI_ge (b := 80) (by omega) (by omega)), ix80, gd_of (inb_nI (by omega) (by omega)), nI_clamp (by omega), fim_1, nI_1]
    exact M_sheet_loop g k hk b c u m (i + 1) n (by omega) (by omega)
theorem op_sheet {N : Nat} {g : Nat × Nat} {s u : St} (h : Rel N g s u) (a b c : Int32) : Same N g (F_X10_sheet g a b c s) (F_X11_sheet g a b c u) := by
  have hR := h.read
  obtain ⟨hA, hB, hC, hD, hE, hF, hG, hH, hI, hJ, hK, hL, hM⟩ := hR
  unfold F_X10_sheet F_X11_sheet F_X10_found F_X10_unfound F_X11_finding F_X7_begin F_J7_fill_53178
  simp only [F_isSheet, G_isSheet, F_within, in_0_2, bd_so, bI_if]
  by_cases q : bw a 0 7 = true
  · by_cases q2 : bw b 0 2 = true
    · obtain ⟨k, hk, rfl⟩ := bw_of (n := 7) rfl q
      obtain ⟨l, hl, rfl⟩ := bw_of (n := 2) rfl q2
      have hb : inb (nI k) 8 = true := inb_nI (by omega) (by omega)
      simp only [q, q2, if_true, gd_of hb, nI_clamp (show k < 2 ^ 31 by omega)]
      by_cases q3 : c ≤ 80
      · by_cases q4 : 0 ≤ c
        · simp only [q3, q4, if_true]
          obtain ⟨n, hn, rfl⟩ := nI_of2 (M := 80) (n := 80) rfl (Int32.not_lt.mpr q4) q3
          have e1 := X_fill g 3 k 80 0 s rfl (by omega) 80 0 fu (by omega) (lt_fu (by omega))
          rw [fil_0, nI_0] at e1
          have e2 := M_sheet_loop g k (by omega) (nI l) (nI n) (up (up (up (up u 60 0 0 0) 60 0 1 0) 61 0 k (nI l)) 62 0 k (nI n)) 80 0 fu (by omega) (lt_fu (by omega))
          rw [fim_0, nI_0] at e2
          have e3 : Int32.ofNat (lna 3) = nI 80 := rfl
          rw [e3, e1, e2, bd_so, bd_so]
          refine ⟨_, _, _, rfl, rfl, ?_, rfl, hC, hD, hE, hF, hG, hH, hI, hJ, hK, hL, hM⟩
          intro k' hk'
          by_cases e : k' = k
          · subst e
            refine ⟨Or.inr ⟨by simp [up, fil], by simp [up, fil, fim], ?_⟩, ⟨n, hn, by simp [up, fil]⟩, by simp [up, fil, fim], ?_⟩
            · have : (up (up (up (up (fil s 3 k' 80 0) 2 k' 1 0) 2 k' 2 (nI l)) 2 k' 3 (nI n)) 0 0 10 0) 2 k' 2 = nI l := by simp [up, fil]
              rw [this]
              rcases (show l = 0 ∨ l = 1 ∨ l = 2 by omega) with rfl | rfl | rfl
              · exact Or.inl rfl
              · exact Or.inr (Or.inl rfl)
              · exact Or.inr (Or.inr rfl)
            · intro i hi
              have h9 : 80 * k' ≤ 80 * k' + i ∧ 80 * k' + i < 80 * k' + 80 := by omega
              simp [up, fil, fim, hi]
          · obtain ⟨g1, g2, g3, g4⟩ := hA k' hk'
            refine ⟨by simpa [up, fil, fim, e] using g1, by simpa [up, fil, fim, e] using g2, by simpa [up, fil, fim, e] using g3, ?_⟩
            intro i hi
            have := g4 i hi
            have h9 : ¬ (80 * k ≤ 80 * k' + i ∧ 80 * k' + i < 80 * k + 80) := by omega
            simpa [up, fil, fim, e, h9] using this
        · simp only [q3, q4, if_true, if_false]
          exact ⟨_, _, _, rfl, rfl, hA, rfl, hC, hD, hE, hF, hG, hH, hI, hJ, hK, hL, hM⟩
      · simp only [q3, if_false]
        exact ⟨_, _, _, rfl, rfl, h.read⟩
    · simp only [q, q2, if_true]
      exact ⟨_, _, _, rfl, rfl, h.read⟩
  · simp only [q]
    exact ⟨_, _, _, rfl, rfl, h.read⟩
theorem RSh_put {m it : Nat → Nat → Int32} {ln mn im : Nat → Int32} {s' u' : St} {k j : Nat} {v : Int32} (h : RSh m it ln mn im) (hk : k < 8) (hj : j < 80) (h2 : s' 2 = m) (h3 : ∀ b c, s' 3 b c = if b = k ∧ c = j then v else it b c) (h4 : u' 61 0 = ln) (h5 : u' 62 0 = mn) (h6 : ∀ c, u' 63 0 c = if c = 80 * k + j then v else im c) : RSh (s' 2) (s' 3) (u' 61 0) (u' 62 0) (u' 63 0) := by
  intro k' hk'
  rw [h2, h4, h5]
  obtain ⟨g1, g2, g3, g4⟩ := h k' hk'
  refine ⟨g1, g2, g3, fun i hi => ?_⟩
  rw [h3, h6]
  by_cases e : k' = k ∧ i = j
  · rw [if_pos e, if_pos (by omega)]
  · rw [if_neg e, if_neg (by omega)]
    exact g4 i hi
theorem op_set {N : Nat} {g : Nat × Nat} {s u : St} (h : Rel N g s u) (a b c : Int32) : Same N g (F_X10_set g a b c s) (F_X11_set g a b c u) := by
  have hR := h.read
  obtain ⟨hA, hB, hC, hD, hE, hF, hG, hH, hI, hJ, hK, hL, hM⟩ := hR
  unfold F_X10_set F_X11_set F_X10_found F_X10_unfound F_X11_finding
  simp only [F_isSheet, G_isSheet, F_findingAt, in_0w, bd_so, bI_if]
  by_cases q : bw a 0 7 = true
  · obtain ⟨k, hk, rfl⟩ := bw_of (n := 7) rfl q
    have hb : inb (nI k) 8 = true := inb_nI (by omega) (by omega)
    simp only [q, if_true, gd_of hb, nI_clamp (show k < 2 ^ 31 by omega)]
    obtain ⟨h1, ⟨n, hn, h2⟩, h3, h4⟩ := hA k (by omega)
    have h3' : up u 60 0 0 0 62 0 k = nI n := by rw [← h2]; exact h3
    rcases h1 with ⟨e1, e2⟩ | ⟨e1, e2, e3⟩
    · have e2' : up u 60 0 0 0 61 0 k = -1 := e2
      rw [e1, e2', if_neg neg1]
      exact ⟨_, _, _, rfl, rfl, hA, rfl, hC, hD, hE, hF, hG, hH, hI, hJ, hK, hL, hM⟩
    · have e4 : (0 : Int32) ≤ up u 60 0 0 0 61 0 k := by
        rw [e2]
        rcases e3 with e | e | e <;> rw [e] <;> decide
      rw [if_pos e4, h3', h2]
      simp only [e1, if_true]
      by_cases q2 : bw b 0 (nI n - 1) = true
      · obtain ⟨j, hj, rfl⟩ := bw_lt (by omega) q2
        have e5 : rch (nI j) 1 (nI n) = true := (rch_iff (by omega)).mpr ⟨j, 1, by omega, by omega, rfl, rfl, by omega⟩
        have hb2 : inb (nI j) 80 = true := inb_nI (by omega) (by omega)
        simp only [e5, q2, if_true, F_X7_put, F_X7_put_44, F_X11_set_99, ix80, gd_of hb2, gd_of (inb_nI (show 80 * k + j < 640 by omega) (by omega)), nI_clamp (show j < 2 ^ 31 by omega), nI_clamp (show 80 * k + j < 2 ^ 31 by omega)]
        have e2' : up (up u 60 0 0 0) 60 0 1 0 61 0 k = s 2 k 2 := e2
        have fin : ∀ v : Int32, Same N g (bd (some (up s 3 k j v 3 k j, up s 3 k j v)) (fun r46 s46 => bd (some (r46, up s46 0 0 10 0)) (fun r49 s49 => some (r49, s49)))) (some (up (up (up u 60 0 0 0) 60 0 1 0) 63 0 (80 * k + j) v 63 0 (80 * k + j), up (up (up u 60 0 0 0) 60 0 1 0) 63 0 (80 * k + j) v)) := by
          intro v
          refine ⟨v, up (up s 3 k j v) 0 0 10 0, up (up (up u 60 0 0 0) 60 0 1 0) 63 0 (80 * k + j) v, by rw [up_at]; rfl, by rw [up_at], ?_, rfl, hC, hD, hE, hF, hG, hH, hI, hJ, hK, hL, hM⟩
          exact RSh_put (s' := up (up s 3 k j v) 0 0 10 0) (u' := up (up (up u 60 0 0 0) 60 0 1 0) 63 0 (80 * k + j) v) (k := k) (j := j) (v := v) hA (by omega) (by omega) rfl (fun x y => by
            by_cases z1 : x = k
            · by_cases z2 : y = j
              · simp [up, z1, z2]
              · simp [up, z1, z2]
            · simp [up, z1]) rfl rfl (fun y => by
            by_cases z2 : y = 80 * k + j
            · simp [up, z2]
            · simp [up, z2])
        rw [e2']
        by_cases q3 : s 2 k 2 = 0
        · rw [if_pos q3, if_pos q3]
          exact fin _
        · rw [if_neg q3, if_neg q3]
          by_cases q4 : s 2 k 2 = 1
          · rw [if_pos q4, if_pos q4]
            exact fin _
          · rw [if_neg q4, if_neg q4]
            exact fin _
      · have e5 : ¬ rch b 1 (nI n) = true := fun z => q2 (by
          obtain ⟨i, j, g1, g2, rfl, g3, g4⟩ := (rch_iff (by omega)).mp z
          have : j = 1 := (nI_eq (b := 1) g2 (by omega)).mp g3.symm
          subst this
          unfold bw
          simp only [Bool.and_eq_true, decide_eq_true_eq]
          refine ⟨nI_pos' g1, ?_⟩
          cases n with
          | zero => omega
          | succ n => rw [nI_pred]; exact nI_le (by omega) (by omega))
        simp only [e5, q2]
        exact ⟨_, _, _, rfl, rfl, hA, rfl, hC, hD, hE, hF, hG, hH, hI, hJ, hK, hL, hM⟩
  · simp only [q]
    exact ⟨_, _, _, rfl, rfl, h.read⟩
