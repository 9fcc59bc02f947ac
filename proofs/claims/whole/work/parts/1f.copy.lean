/-! copy -/
theorem copy_pl {α : Type} (i j n z1 z2 : Int32) (X F : α) : (if i < 0 then F else if j < 0 then F else if n < 0 then F else if z1.toInt64 < i.toInt64 + n.toInt64 then F else if j.toInt64 + n.toInt64 ≤ z2.toInt64 then X else F) = if (rch i n z1 && rch j n z2) = true then X else F := by
  unfold rch
  by_cases h1 : i < 0
  · simp [h1]
  · by_cases h2 : j < 0
    · simp [h1, h2]
    · by_cases h3 : n < 0
      · simp [h1, h2, h3]
      · by_cases h4 : z1.toInt64 < i.toInt64 + n.toInt64
        · have h5 : ¬ i.toInt64 + n.toInt64 ≤ z1.toInt64 := Int64.not_le.mpr h4
          simp [h1, h2, h3, h4, h5]
        · have h5 : i.toInt64 + n.toInt64 ≤ z1.toInt64 := Int64.not_lt.mp h4
          simp [h1, h2, h3, h4, h5]
theorem ite_and2 {α : Type} (p q : Bool) (X F : α) : (if p = true then (if q = true then X else F) else F) = if (p && q) = true then X else F := by
  cases p <;> cases q <;> rfl
/-- the reference's items: those of the second row from lo to hi are put -/
def cst (u : St) (a b lo hi : Nat) : St := fun x y c => if x = 63 then (if y = 0 then (if b + lo ≤ c ∧ c < b + hi then u 63 0 (a + (c - b)) else u x y c) else u x y c) else u x y c
theorem cst_0 (u : St) (a b i : Nat) : cst u a b i i = u := by
  funext x y c
  unfold cst
  have h : ¬ (b + i ≤ c ∧ c < b + i) := by omega
  rw [if_neg h]
  simp
theorem cst_up (u : St) (a b m : Nat) (h : ¬ (b ≤ a + m ∧ a + m < b + m)) : up (cst u a b 0 m) 63 0 (b + m) (cst u a b 0 m 63 0 (a + m)) = cst u a b 0 (m + 1) := by
  have e : cst u a b 0 m 63 0 (a + m) = u 63 0 (a + m) := by
    unfold cst
    rw [if_pos rfl, if_pos rfl, if_neg (by omega)]
  rw [e]
  funext x y c
  unfold up cst
  by_cases h1 : x = 63
  · by_cases h2 : y = 0
    · subst h1
      subst h2
      simp only [if_true]
      by_cases h3 : c = b + m
      · subst h3
        rw [if_pos rfl, if_pos (by omega)]
        congr 1
        omega
      · rw [if_neg h3]
        by_cases h4 : b + 0 ≤ c ∧ c < b + m
        · rw [if_pos h4, if_pos (by omega)]
        · rw [if_neg h4, if_neg (by omega)]
    · simp [h1, h2]
  · simp [h1]
theorem cst_dn (u : St) (a b n m : Nat) (hm : m < n) (h : ¬ (b + (m + 1) ≤ a + m ∧ a + m < b + n)) : up (cst u a b (m + 1) n) 63 0 (b + m) (cst u a b (m + 1) n 63 0 (a + m)) = cst u a b m n := by
  have e : cst u a b (m + 1) n 63 0 (a + m) = u 63 0 (a + m) := by
    unfold cst
    rw [if_pos rfl, if_pos rfl, if_neg (by omega)]
  rw [e]
  funext x y c
  unfold up cst
  by_cases h1 : x = 63
  · by_cases h2 : y = 0
    · subst h1
      subst h2
      simp only [if_true]
      by_cases h3 : c = b + m
      · subst h3
        rw [if_pos rfl, if_pos (by omega)]
        congr 1
        omega
      · rw [if_neg h3]
        by_cases h4 : b + (m + 1) ≤ c ∧ c < b + n
        · rw [if_pos h4, if_pos (by omega)]
        · rw [if_neg h4, if_neg (by omega)]
    · simp [h1, h2]
  · simp [h1]
theorem ix80p {k i m : Nat} : (80 : Int32) * nI k + nI i + nI m = nI (80 * k + i + m) := by rw [ix80, nI_add]
theorem M_copy_up (g : Nat × Nat) (u : St) {k i l j N : Nat} (hk : k < 8) (hl : l < 8) (hi : i + N ≤ 80) (hj : j + N ≤ 80) (hd : ¬ k = l ∨ j ≤ i) : ∀ (r m n : Nat), m + r = N → r < n → F_X11_copy_143 g (nI k) (nI i) (nI l) (nI j) (nI N) n 1 (nI m) (cst u (80 * k + i) (80 * l + j) 0 m) = some (nI N, cst u (80 * k + i) (80 * l + j) 0 N)
  | 0, m, n + 1, hm, _ => by
    have : m = N := by omega
    subst this
    rw [F_X11_copy_143, if_pos (nI_le (Nat.le_refl _) (by omega))]
  | r + 1, m, n + 1, hm, hn => by
    rw [F_X11_copy_143, if_neg (nI_ge (by omega) (by omega)), if_neg (by decide), F_X11_copy_167, ix80p, ix80p, gd_of (inb_nI (by omega) (by omega)), gd_of (inb_nI (by omega) (by omega)), nI_clamp (by omega), nI_clamp (by omega), cst_up _ _ _ _ (by omega), nI_1]
    exact M_copy_up g u hk hl hi hj hd r (m + 1) n (by omega) (by omega)
theorem M_copy_dn (g : Nat × Nat) (u : St) {k i l j N : Nat} (hk : k < 8) (hl : l < 8) (hi : i + N ≤ 80) (hj : j + N ≤ 80) (hd : i < j) : ∀ (r m n : Nat), m + r = N → r < n → F_X11_copy_143 g (nI k) (nI i) (nI l) (nI j) (nI N) n 0 (nI m) (cst u (80 * k + i) (80 * l + j) r N) = some (nI N, cst u (80 * k + i) (80 * l + j) 0 N)
  | 0, m, n + 1, hm, _ => by
    have : m = N := by omega
    subst this
    rw [F_X11_copy_143, if_pos (nI_le (Nat.le_refl _) (by omega))]
  | r + 1, m, n + 1, hm, hn => by
    have e : nI N - 1 - nI m = nI r := by
      have : N = (m + r) + 1 := by omega
      subst this
      rw [nI_pred, pk_sub (by omega)]
      congr 1
      omega
    rw [F_X11_copy_143, if_neg (nI_ge (by omega) (by omega)), if_pos rfl, F_X11_copy_167, e, ix80p, ix80p, gd_of (inb_nI (by omega) (by omega)), gd_of (inb_nI (by omega) (by omega)), nI_clamp (by omega), nI_clamp (by omega), cst_dn _ _ _ _ _ (by omega) (by omega), nI_1]
    exact M_copy_dn g u hk hl hi hj hd r (m + 1) n (by omega) (by omega)
theorem op_copy {N : Nat} {g : Nat × Nat} {s u : St} (h : Rel N g s u) (a1 a2 a3 a4 a5 : Int32) : Same N g (F_X10_copy g a1 a2 a3 a4 a5 s) (F_X11_copy g a1 a2 a3 a4 a5 u) := by
  have hR := h.read
  obtain ⟨hA, hB, hC, hD, hE, hF, hG, hH, hI, hJ, hK, hL, hM⟩ := hR
  unfold F_X10_copy F_X11_copy F_X10_copy_97 F_X10_copy_49 F_X11_copy_121 F_X11_copy_45 F_X11_copy_138 F_X10_found F_X10_unfound F_X11_finding
  simp only [F_isSheet, G_isSheet, F_reaches, bd_so, bI_if, lg_gt, lg_le]
  by_cases q : bw a1 0 7 = true
  · by_cases q2 : bw a3 0 7 = true
    · obtain ⟨k, hk, rfl⟩ := bw_of (n := 7) rfl q
      obtain ⟨l, hl, rfl⟩ := bw_of (n := 7) rfl q2
      have hb : inb (nI k) 8 = true := inb_nI (by omega) (by omega)
      have hb2 : inb (nI l) 8 = true := inb_nI (by omega) (by omega)
      simp only [q, q2, if_true, gd_of hb, gd_of hb2, nI_clamp (show k < 2 ^ 31 by omega), nI_clamp (show l < 2 ^ 31 by omega)]
      obtain ⟨h1, ⟨n1, hn1, h2⟩, h3, h4⟩ := id (hA k (by omega))
      obtain ⟨p1, ⟨n2, hn2, p2⟩, p3, p4⟩ := id (hA l (by omega))
      rcases h1 with ⟨e1, e2⟩ | ⟨e1, e2, e3⟩
      · rw [e1, e2, if_neg (by decide), if_pos (by decide)]
        exact ⟨_, _, _, rfl, rfl, hA, rfl, hC, hD, hE, hF, hG, hH, hI, hJ, hK, hL, hM⟩
      · have e4 : ¬ up u 60 0 0 0 61 0 k < 0 := by
          rw [e2]
          rcases e3 with e | e | e <;> rw [e] <;> decide
        rw [if_pos e1, if_neg e4]
        rcases p1 with ⟨f1, f2⟩ | ⟨f1, f2, f3⟩
        · rw [f1, f2, if_neg (by decide), if_neg neg1]
          exact ⟨_, _, _, rfl, rfl, hA, rfl, hC, hD, hE, hF, hG, hH, hI, hJ, hK, hL, hM⟩
        · have f4 : (0 : Int32) ≤ up u 60 0 0 0 61 0 l := by
            rw [f2]
            rcases f3 with e | e | e <;> rw [e] <;> decide
          rw [if_pos f1, if_pos f4, e2, f2]
          by_cases q3 : s 2 k 2 = s 2 l 2
          · rw [if_pos q3, if_pos q3, copy_pl, ite_and2, h3, p3]
            by_cases q4 : (rch a2 a5 (s 2 k 3) && rch a4 a5 (s 2 l 3)) = true
            · rw [if_pos q4, if_pos q4]
              rw [Bool.and_eq_true, h2, p2] at q4
              obtain ⟨i, n, hi, hn, rfl, rfl, hin⟩ := (rch_iff (by omega)).mp q4.1
              obtain ⟨j, n', hj, hn', rfl, e9, hjn⟩ := (rch_iff (by omega)).mp q4.2
              have : n = n' := (nI_eq hn hn').mp e9
              subst this
              have hcb : cpb (nI i) (nI n) 80 (nI j) 80 = true := by
                unfold cpb
                simp only [nI_clamp hi, nI_clamp hn, nI_clamp hj, Bool.and_eq_true, decide_eq_true_eq]
                exact ⟨nI_pos hi, nI_pos hj, nI_pos hn, by omega, by omega⟩
              rw [gd_of hcb]
              have hM2 : (if nI i < nI j then F_X11_copy_143 g (nI k) (nI i) (nI l) (nI j) (nI n) fu 0 0 (up (up u 60 0 0 0) 60 0 1 0) else F_X11_copy_143 g (nI k) (nI i) (nI l) (nI j) (nI n) fu 1 0 (up (up u 60 0 0 0) 60 0 1 0)) = some (nI n, cst (up (up u 60 0 0 0) 60 0 1 0) (80 * k + i) (80 * l + j) 0 n) := by
                by_cases q5 : i < j
                · rw [if_pos (nI_lt q5 hj)]
                  have := M_copy_dn g (up (up u 60 0 0 0) 60 0 1 0) (show k < 8 by omega) (show l < 8 by omega) (show i + n ≤ 80 by omega) (show j + n ≤ 80 by omega) q5 n 0 fu (by omega) (lt_fu (by omega))
                  rw [cst_0, nI_0] at this
                  exact this
                · rw [if_neg (nI_nlt (by omega) hi)]
                  have := M_copy_up g (up (up u 60 0 0 0) 60 0 1 0) (show k < 8 by omega) (show l < 8 by omega) (show i + n ≤ 80 by omega) (show j + n ≤ 80 by omega) (Or.inr (by omega)) n 0 fu (by omega) (lt_fu (by omega))
                  rw [cst_0, nI_0] at this
                  exact this
              rw [hM2]
              refine ⟨_, _, _, rfl, rfl, ?_, rfl, hC, hD, hE, hF, hG, hH, hI, hJ, hK, hL, hM⟩
              intro k' hk'
              obtain ⟨g1, g2, g3, g4⟩ := id (hA k' hk')
              refine ⟨g1, g2, g3, fun c hc => ?_⟩
              show cst (up (up u 60 0 0 0) 60 0 1 0) (80 * k + i) (80 * l + j) 0 n 63 0 (80 * k' + c) = (if (3 : Nat) = 3 then (if k' = l then va_cpy (s 3 k) (s 3 l) (nI i).toNatClampNeg (nI j).toNatClampNeg (nI n).toNatClampNeg c else s 3 k' c) else s 3 k' c)
              rw [if_pos rfl, nI_clamp hi, nI_clamp hj, nI_clamp hn]
              unfold cst
              rw [if_pos rfl, if_pos rfl]
              by_cases e5 : k' = l
              · subst e5
                rw [if_pos rfl]
                by_cases e6 : j ≤ c ∧ c < j + n
                · rw [pk_cpy_in e6.1 e6.2, if_pos (by omega), show 80 * k + i + (80 * k' + c - (80 * k' + j)) = 80 * k + (i + (c - j)) by omega]
                  exact h4 (i + (c - j)) (by omega)
                · rw [pk_cpy_out (by omega), if_neg (by omega)]
                  exact g4 c hc
              · rw [if_neg e5, if_neg (by omega)]
                exact g4 c hc
            · rw [if_neg q4, if_neg q4]
              exact ⟨_, _, _, rfl, rfl, hA, rfl, hC, hD, hE, hF, hG, hH, hI, hJ, hK, hL, hM⟩
          · rw [if_neg q3, if_neg q3]
            exact ⟨_, _, _, rfl, rfl, hA, rfl, hC, hD, hE, hF, hG, hH, hI, hJ, hK, hL, hM⟩
    · simp only [q, q2, if_true]
      exact ⟨_, _, _, rfl, rfl, h.read⟩
  · simp only [q]
    exact ⟨_, _, _, rfl, rfl, h.read⟩
