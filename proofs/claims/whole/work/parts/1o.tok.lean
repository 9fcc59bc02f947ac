/-! lists: the tokens of both sides -/
theorem up_id {s : St} {t k j : Nat} {v : Int32} (h : s t k j = v) : up s t k j v = s := by
  subst h
  funext x y z
  unfold up
  by_cases h1 : x = t
  · by_cases h2 : y = k
    · by_cases h3 : z = j
      · simp [h1, h2, h3]
      · simp [h1, h2, h3]
    · simp [h1, h2]
  · simp [h1]
def pGap (x : Nat) : Bool := decide (x = 32) || decide (x = 10)
def pLet (x : Nat) : Bool := decide (97 ≤ x) && decide (x ≤ 122)
def pFig (x : Nat) : Bool := decide (48 ≤ x) && decide (x ≤ 57)
def sk (p : Nat → Bool) (b : Nat → Nat) : Nat → Nat → Nat
  | 0, e => e
  | m + 1, e => if p (b e) = true then sk p b m (e + 1) else e
theorem sk_ge (p : Nat → Bool) (b : Nat → Nat) : ∀ (m e : Nat), e ≤ sk p b m e ∧ sk p b m e ≤ e + m
  | 0, e => ⟨Nat.le_refl _, Nat.le_refl _⟩
  | m + 1, e => by
    rw [sk]
    by_cases h : p (b e) = true
    · rw [if_pos h]
      have := sk_ge p b m (e + 1)
      omega
    · rw [if_neg h]
      omega
theorem sk_all (p : Nat → Bool) (b : Nat → Nat) : ∀ (m e i : Nat), e ≤ i → i < sk p b m e → p (b i) = true
  | 0, e, i, h1, h2 => by
    rw [sk] at h2
    omega
  | m + 1, e, i, h1, h2 => by
    rw [sk] at h2
    by_cases h : p (b e) = true
    · rw [if_pos h] at h2
      by_cases e1 : i = e
      · subst e1
        exact h
      · exact sk_all p b m (e + 1) i (by omega) h2
    · rw [if_neg h] at h2
      omega
theorem sk_pos {p : Nat → Bool} {b : Nat → Nat} {m e : Nat} (hm : 0 < m) (h : p (b e) = true) : e < sk p b m e := by
  obtain ⟨m, rfl⟩ : ∃ n, m = n + 1 := ⟨m - 1, by omega⟩
  rw [sk, if_pos h]
  have := sk_ge p b m (e + 1)
  omega
/-- the bytes: the same on both sides -/
def BY (b : Nat → Nat) (L : Nat) (f : Nat → Int32) : Prop := L ≤ 400 ∧ ∀ i, i < L → f i = nI (b i) ∧ b i < 256
theorem F_let (g : Nat × Nat) {x : Nat} (hx : x < 256) (s : St) : F_X8_isLetter g (nI x) s = some (bI (pLet x), s) := by
  unfold F_X8_isLetter pLet
  by_cases h1 : x < 97
  · rw [if_pos (show nI x < (97 : Int32) from nI_lt (b := 97) h1 (by omega))]
    have : ¬ 97 ≤ x := by omega
    simp [this, bI]
  · rw [if_neg (show ¬ nI x < (97 : Int32) from nI_nlt (b := 97) (by omega) (by omega))]
    by_cases h2 : 122 < x
    · rw [if_pos (show (122 : Int32) < nI x from nI_lt (a := 122) h2 (by omega))]
      have : ¬ x ≤ 122 := by omega
      simp [this, bI]
    · rw [if_neg (show ¬ (122 : Int32) < nI x from nI_nlt (a := 122) (by omega) (by omega))]
      have h3 : 97 ≤ x := by omega
      have h4 : x ≤ 122 := by omega
      simp [h3, h4, bI]
theorem F_fig (g : Nat × Nat) {x : Nat} (hx : x < 256) (s : St) : F_X8_isFigure g (nI x) s = some (bI (pFig x), s) := by
  unfold F_X8_isFigure pFig
  by_cases h1 : x < 48
  · rw [if_pos (show nI x < (48 : Int32) from nI_lt (b := 48) h1 (by omega))]
    have : ¬ 48 ≤ x := by omega
    simp [this, bI]
  · rw [if_neg (show ¬ nI x < (48 : Int32) from nI_nlt (b := 48) (by omega) (by omega))]
    by_cases h2 : 57 < x
    · rw [if_pos (show (57 : Int32) < nI x from nI_lt (a := 57) h2 (by omega))]
      have : ¬ x ≤ 57 := by omega
      simp [this, bI]
    · rw [if_neg (show ¬ (57 : Int32) < nI x from nI_nlt (a := 57) (by omega) (by omega))]
      have h3 : 48 ≤ x := by omega
      have h4 : x ≤ 57 := by omega
      simp [h3, h4, bI]
theorem G_let (g : Nat × Nat) {x : Nat} (hx : x < 256) (s : St) : F_X11_isLetter g (nI x) s = some (bI (pLet x), s) := F_let g hx s
theorem G_fig (g : Nat × Nat) {x : Nat} (hx : x < 256) (s : St) : F_X11_isFigure g (nI x) s = some (bI (pFig x), s) := F_fig g hx s
theorem nI_c (x n : Nat) {y : Int32} (hy : y = nI n) (hx : x < 256) (hn : n < 256) : (nI x = y) ↔ x = n := by
  rw [hy]
  exact nI_eq (by omega) (by omega)
theorem F_gap (g : Nat × Nat) {x : Nat} (hx : x < 256) (s : St) : F_X8_isGap g (nI x) s = some (bI (pGap x), s) := by
  unfold F_X8_isGap pGap
  rw [ifc (nI_c x 32 (y := (32 : Int32)) rfl hx (by omega)), ifc (nI_c x 10 (y := (10 : Int32)) rfl hx (by omega))]
  by_cases h1 : x = 32
  · simp [h1, bI]
  · by_cases h2 : x = 10
    · simp [h2, bI]
    · simp [h1, h2, bI]
theorem X_tgap (g : Nat × Nat) (hk : St → Option (Unit × St)) {b : Nat → Nat} {L : Nat} : ∀ (m e n : Nat) (s : St), BY b L (s 24 0) → s 23 0 1 = nI L → s 23 0 5 = nI e → e + m = L → m < n → F_X8_takeToken_8 g hk n s = hk (up s 23 0 5 (nI (sk pGap b m e)))
  | 0, e, n + 1, s, hB, h1, h5, he, _ => by
    have hL := hB.1
    rw [F_X8_takeToken_8, h1, h5, if_pos (nI_le (by omega) (by omega)), sk, up_id h5]
  | m + 1, e, n + 1, s, hB, h1, h5, he, hn => by
    have hL := hB.1
    obtain ⟨h6, h7⟩ := hB.2 e (by omega)
    rw [F_X8_takeToken_8, h1, h5, if_neg (nI_ge (by omega) (by omega)), gd_of (inb_nI (by omega) (by omega)), nI_clamp (by omega), h6, F_gap g h7, bd_so, bI_if, sk, h5, nI_1]
    by_cases q : pGap (b e) = true
    · rw [if_pos q, if_pos q, X_tgap g hk m (e + 1) n (up s 23 0 5 (nI (e + 1))) hB h1 up_at (by omega) (by omega), up_up]
    · rw [if_neg q, if_neg q, up_id h5]
theorem X_tname (g : Nat × Nat) (hk : St → Option (Unit × St)) {b : Nat → Nat} {L : Nat} : ∀ (m e n : Nat) (s : St), BY b L (s 24 0) → s 23 0 1 = nI L → s 23 0 6 = nI e → e + m = L → m < n → F_X8_takeName_0 g hk n s = hk (up s 23 0 6 (nI (sk pLet b m e)))
  | 0, e, n + 1, s, hB, h1, h5, he, _ => by
    have hL := hB.1
    rw [F_X8_takeName_0, h1, h5, if_pos (nI_le (by omega) (by omega)), sk, up_id h5]
  | m + 1, e, n + 1, s, hB, h1, h5, he, hn => by
    have hL := hB.1
    obtain ⟨h6, h7⟩ := hB.2 e (by omega)
    rw [F_X8_takeName_0, h1, h5, if_neg (nI_ge (by omega) (by omega)), gd_of (inb_nI (by omega) (by omega)), nI_clamp (by omega), h6, F_let g h7, bd_so, bI_if, sk, h5, nI_1]
    by_cases q : pLet (b e) = true
    · rw [if_pos q, if_pos q, X_tname g hk m (e + 1) n (up s 23 0 6 (nI (e + 1))) hB h1 up_at (by omega) (by omega), up_up]
    · rw [if_neg q, if_neg q, up_id h5]
/-- what figures come to -/
def vN (b : Nat → Nat) : Nat → Nat → Nat → Nat
  | _, 0, v => v
  | e, j + 1, v => vN b (e + 1) j (10 * v + (b e - 48))
theorem vN_lt (b : Nat → Nat) : ∀ (j e v : Nat), (∀ i, e ≤ i → i < e + j → pFig (b i) = true) → vN b e j v < (v + 1) * 10 ^ j
  | 0, e, v, _ => by
    rw [vN]
    omega
  | j + 1, e, v, h => by
    have h1 := vN_lt b j (e + 1) (10 * v + (b e - 48)) (fun i h2 h3 => h i (by omega) (by omega))
    have h2 := h e (by omega) (by omega)
    unfold pFig at h2
    rw [Bool.and_eq_true, decide_eq_true_eq, decide_eq_true_eq] at h2
    rw [vN]
    have h3 : (10 * v + (b e - 48) + 1) * 10 ^ j ≤ (v + 1) * 10 * 10 ^ j := Nat.mul_le_mul_right _ (by omega)
    rw [Nat.pow_succ, Nat.mul_comm (10 ^ j) 10, ← Nat.mul_assoc]
    omega
theorem fig_n {v x : Nat} (h : pFig x = true) : nI v * (10 : Int32) + nI x - 48 = nI (10 * v + (x - 48)) := by
  unfold pFig at h
  rw [Bool.and_eq_true, decide_eq_true_eq, decide_eq_true_eq] at h
  rw [show (10 : Int32) = nI 10 from rfl, show (48 : Int32) = nI 48 from rfl, pk_mul, nI_add, pk_sub (by omega)]
  congr 1
  omega
theorem up_com {s : St} {t k j j' : Nat} {v w : Int32} (h : j ≠ j') : up (up s t k j v) t k j' w = up (up s t k j' w) t k j v := by
  funext x y z
  unfold up
  by_cases h1 : x = t
  · by_cases h2 : y = k
    · by_cases h3 : z = j
      · have : ¬ j = j' := h
        simp [h1, h2, h3, this]
      · by_cases h4 : z = j'
        · have : ¬ j' = j := fun e => h e.symm
          simp [h1, h2, h4, this]
        · simp [h1, h2, h3, h4]
    · simp [h1, h2]
  · simp [h1]
theorem X_tnum (g : Nat × Nat) (hk : St → Option (Unit × St)) {b : Nat → Nat} {L : Nat} : ∀ (m e n v : Nat) (s : St), BY b L (s 24 0) → s 23 0 1 = nI L → s 23 0 6 = nI e → s 23 0 7 = nI v → e + m = L → m < n → F_X8_takeNumber_5 g hk n s = hk (up (up s 23 0 7 (nI (vN b e (sk pFig b m e - e) v))) 23 0 6 (nI (sk pFig b m e)))
  | 0, e, n + 1, v, s, hB, h1, h5, hv, he, _ => by
    have hL := hB.1
    rw [F_X8_takeNumber_5, h1, h5, if_pos (nI_le (by omega) (by omega)), sk, Nat.sub_self, vN, up_id hv, up_id h5]
  | m + 1, e, n + 1, v, s, hB, h1, h5, hv, he, hn => by
    have hL := hB.1
    obtain ⟨h6, h7⟩ := hB.2 e (by omega)
    have hb : inb (nI e) 400 = true := inb_nI (by omega) (by omega)
    rw [F_X8_takeNumber_5, h1, h5, if_neg (nI_ge (by omega) (by omega)), gd_of hb, nI_clamp (by omega), h6, F_fig g h7, bd_so, bI_if, sk, h5, gd_of hb, nI_1, nI_clamp (by omega), h6, hv]
    by_cases q : pFig (b e) = true
    · have hge := sk_ge pFig b m (e + 1)
      rw [if_pos q, if_pos q, fig_n q, X_tnum g hk m (e + 1) n (10 * v + (b e - 48)) (up (up s 23 0 7 (nI (10 * v + (b e - 48)))) 23 0 6 (nI (e + 1))) hB h1 up_at (by simp [up]) (by omega) (by omega), show sk pFig b m (e + 1) - e = (sk pFig b m (e + 1) - (e + 1)) + 1 by omega, vN, up_com (show (6 : Nat) ≠ 7 by decide), up_up, up_up]
    · rw [if_neg q, if_neg q, Nat.sub_self, vN, up_id hv, up_id h5]
/-! the reference's -/
theorem M_byte (g : Nat × Nat) {b : Nat → Nat} {L e : Nat} (u : St) (hB : BY b L (u 82 0)) (h33 : u 60 0 33 = nI L) (he : e ≤ L) : F_X11_byteAt g (nI e) u = some (if e < L then nI (b e) else -1000000, u) := by
  have hL := hB.1
  unfold F_X11_byteAt
  rw [h33]
  by_cases q : e < L
  · rw [if_neg (nI_ge q (by omega)), gd_of (inb_nI (by omega) (by omega)), nI_clamp (by omega), if_pos q, (hB.2 e q).1]
  · rw [if_pos (nI_le (by omega) (by omega)), if_neg q]
theorem M_tgap (g : Nat × Nat) (hk : St → Option (Unit × St)) {b : Nat → Nat} {L : Nat} : ∀ (m e n : Nat) (u : St), BY b L (u 82 0) → u 60 0 33 = nI L → u 60 0 34 = nI e → e + m = L → m < n → F_X11_next_0 g hk n u = hk (up u 60 0 34 (nI (sk pGap b m e)))
  | 0, e, n + 1, u, hB, h1, h5, he, _ => by
    rw [F_X11_next_0, h5, M_byte g u hB h1 (by omega), bd_so, if_neg (show ¬ e < L by omega), if_neg (by decide), h5, M_byte g u hB h1 (by omega), bd_so, if_neg (show ¬ e < L by omega), if_neg (by decide), sk, up_id h5]
  | m + 1, e, n + 1, u, hB, h1, h5, he, hn => by
    obtain ⟨h6, h7⟩ := hB.2 e (by omega)
    rw [F_X11_next_0, h5, M_byte g u hB h1 (by omega), bd_so, if_pos (show e < L by omega), ifc (nI_c (b e) 32 (y := (32 : Int32)) rfl h7 (by omega)), h5, M_byte g u hB h1 (by omega), bd_so, if_pos (show e < L by omega), ifc (nI_c (b e) 10 (y := (10 : Int32)) rfl h7 (by omega)), F_X11_next_26, h5, nI_1, M_tgap g hk m (e + 1) n (up u 60 0 34 (nI (e + 1))) hB h1 up_at (by omega) (by omega), up_up, sk]
    by_cases q1 : b e = 32
    · have : pGap (b e) = true := by simp [pGap, q1]
      rw [if_pos q1, if_pos this]
    · by_cases q2 : b e = 10
      · have : pGap (b e) = true := by simp [pGap, q2]
        rw [if_neg q1, if_pos q2, if_pos this]
      · have : ¬ pGap (b e) = true := by simp [pGap, q1, q2]
        rw [if_neg q1, if_neg q2, if_neg this, up_id h5]
theorem M_tname (g : Nat × Nat) (hk : St → Option (Unit × St)) {b : Nat → Nat} {L : Nat} : ∀ (m e n : Nat) (u : St), BY b L (u 82 0) → u 60 0 33 = nI L → u 60 0 34 = nI e → e + m = L → m < n → F_X11_next_77 g hk n u = hk (up u 60 0 34 (nI (sk pLet b m e)))
  | 0, e, n + 1, u, hB, h1, h5, he, _ => by
    rw [F_X11_next_77, h5, M_byte g u hB h1 (by omega), bd_so, if_neg (show ¬ e < L by omega), show F_X11_isLetter g (-1000000) u = some (0, u) from rfl, bd_so, if_pos rfl, sk, up_id h5]
  | m + 1, e, n + 1, u, hB, h1, h5, he, hn => by
    obtain ⟨h6, h7⟩ := hB.2 e (by omega)
    rw [F_X11_next_77, h5, M_byte g u hB h1 (by omega), bd_so, if_pos (show e < L by omega), G_let g h7, bd_so, bI_if, h5, nI_1, M_tname g hk m (e + 1) n (up u 60 0 34 (nI (e + 1))) hB h1 up_at (by omega) (by omega), up_up, sk]
    by_cases q : pLet (b e) = true
    · rw [if_pos q, if_pos q]
    · rw [if_neg q, if_neg q, up_id h5]
theorem M_tnum (g : Nat × Nat) (hk : St → Option (Unit × St)) {b : Nat → Nat} {L : Nat} : ∀ (m e n : Nat) (u : St), BY b L (u 82 0) → u 60 0 33 = nI L → u 60 0 34 = nI e → e + m = L → m < n → F_X11_next_119 g hk n u = hk (up u 60 0 34 (nI (sk pFig b m e)))
  | 0, e, n + 1, u, hB, h1, h5, he, _ => by
    rw [F_X11_next_119, h5, M_byte g u hB h1 (by omega), bd_so, if_neg (show ¬ e < L by omega), show F_X11_isFigure g (-1000000) u = some (0, u) from rfl, bd_so, if_pos rfl, sk, up_id h5]
  | m + 1, e, n + 1, u, hB, h1, h5, he, hn => by
    obtain ⟨h6, h7⟩ := hB.2 e (by omega)
    rw [F_X11_next_119, h5, M_byte g u hB h1 (by omega), bd_so, if_pos (show e < L by omega), G_fig g h7, bd_so, bI_if, h5, nI_1, M_tnum g hk m (e + 1) n (up u 60 0 34 (nI (e + 1))) hB h1 up_at (by omega) (by omega), up_up, sk]
    by_cases q : pFig (b e) = true
    · rw [if_pos q, if_pos q]
    · rw [if_neg q, if_neg q, up_id h5]
/-- the token in hand: from a to e -/
def TokK (b : Nat → Nat) (a e : Nat) (k n k' : Int32) : Prop :=
  (k = 0 ∧ k' = 1) ∨ (k = 1 ∧ k' = 2 ∧ a < e ∧ ∀ i, a ≤ i → i < e → pLet (b i) = true) ∨
  (k = 2 ∧ k' = 3 ∧ a < e ∧ e ≤ a + 4 ∧ n = nI (vN b a (e - a) 0) ∧ ∀ i, a ≤ i → i < e → pFig (b i) = true) ∨
  (k = 3 ∧ k' = 4 ∧ a < e) ∨ (k = 4 ∧ k' = 0 ∧ a < e)
def TokR (b : Nat → Nat) (L : Nat) (s u : St) (a e : Nat) : Prop := BY b L (s 24 0) ∧ BY b L (u 82 0) ∧ s 23 0 1 = nI L ∧ u 60 0 33 = nI L ∧ a ≤ e ∧ e ≤ L ∧ s 23 0 5 = nI a ∧ s 23 0 6 = nI e ∧ u 60 0 36 = nI a ∧ u 60 0 34 = nI e ∧ u 60 0 37 = nI e ∧ TokK b a e (s 23 0 4) (s 23 0 7) (u 60 0 35)
def FrT (s s' u u' : St) : Prop := (∀ t, t ≠ 23 → s' t = s t) ∧ (∀ j, j < 4 → s' 23 0 j = s 23 0 j) ∧ (∀ t, t ≠ 60 → u' t = u t) ∧ ∀ j, j < 34 ∨ 37 < j → u' 60 0 j = u 60 0 j
theorem tok_same (g : Nat × Nat) {b : Nat → Nat} {L e : Nat} {s u : St} (hB : BY b L (s 24 0)) (hC : BY b L (u 82 0)) (h1 : s 23 0 1 = nI L) (h33 : u 60 0 33 = nI L) (he : e ≤ L) (h6 : s 23 0 6 = nI e) (h34 : u 60 0 34 = nI e) : ∃ (s' u' : St) (a' e' : Nat), F_X8_takeToken g s = some ((), s') ∧ F_X11_next g u = some ((), u') ∧ FrT s s' u u' ∧ e ≤ a' ∧ TokR b L s' u' a' e' := by
  have hL := hB.1
  unfold F_X8_takeToken F_X11_next
  rw [X_tgap g (F_X8_takeToken_47 g) (L - e) e fu (up s 23 0 5 (s 23 0 6)) hB h1 (by rw [up_at, h6]) (by omega) (lt_fu (by omega)), M_tgap g (F_X11_next_39 g) (L - e) e fu u hC h33 h34 (by omega) (lt_fu (by omega)), up_up]
  have hsk := sk_ge pGap b (L - e) e
  generalize sk pGap b (L - e) e = a at hsk
  unfold F_X8_takeToken_47 F_X11_next_39 F_X11_next_193 F_X11_next_196
  have x1 : up s 23 0 5 (nI a) 23 0 5 = nI a := up_at
  have x2 : up s 23 0 5 (nI a) 23 0 1 = nI L := h1
  have m1 : up u 60 0 34 (nI a) 60 0 34 = nI a := up_at
  rw [x1, x2, m1, M_byte g (up (up u 60 0 34 (nI a)) 60 0 36 (nI a)) (L := L) hC h33 (show a ≤ L by omega), bd_so]
  by_cases q : a < L
  · have hb := hB.2 a q
    have hb' := hC.2 a q
    have hin : inb (nI a) 400 = true := inb_nI (by omega) (by omega)
    have x3 : up s 23 0 5 (nI a) 24 0 a = nI (b a) := hb.1
    rw [if_pos (nI_lt q (by omega)), gd_of hin, nI_clamp (by omega), x3, F_let g hb.2, bd_so, bI_if, if_pos q, if_neg (show ¬ nI (b a) = -1000000 from fun e => by
      have := nI_pos (show b a < 2 ^ 31 by omega)
      rw [e] at this
      exact this (by decide)), G_let g hb.2, bd_so, bI_if]
    by_cases q1 : pLet (b a) = true
    · have hs2 := sk_ge pLet b (L - a) a
      have hs3 := sk_pos (p := pLet) (show 0 < L - a by omega) q1
      have hs4 := sk_all pLet b (L - a) a
      rw [if_pos q1, if_pos q1, F_X8_takeName, X_tname g (F_X8_takeName_39 g) (L - a) a fu (up (up s 23 0 5 (nI a)) 23 0 6 (nI a)) hB h1 up_at (by omega) (lt_fu (by omega)), F_X8_takeName_39, bd_so, M_tname g (F_X11_next_104 g) (L - a) a fu (up (up u 60 0 34 (nI a)) 60 0 36 (nI a)) hC h33 m1 (by omega) (lt_fu (by omega)), F_X11_next_104, F_X11_next_196]
      generalize sk pLet b (L - a) a = e' at hs2 hs3 hs4
      refine ⟨_, _, a, e', rfl, rfl, ⟨?_, ?_, ?_, ?_⟩, by omega, hB, hC, h1, h33, by omega, by omega, ?_⟩
      · intro t ht
        funext x y
        simp [up, ht]
      · intro j hj
        have e1 : ¬ j = 4 := by omega
        have e2 : ¬ j = 5 := by omega
        have e3 : ¬ j = 6 := by omega
        simp [up, e1, e2, e3]
      · intro t ht
        funext x y
        simp [up, ht]
      · intro j hj
        have e1 : ¬ j = 34 := by omega
        have e2 : ¬ j = 35 := by omega
        have e3 : ¬ j = 36 := by omega
        have e4 : ¬ j = 37 := by omega
        simp [up, e1, e2, e3, e4]
      · exact ⟨by simp [up], by simp [up], by simp [up], by simp [up], by simp [up], Or.inr (Or.inl ⟨by simp [up], by simp [up], hs3, hs4⟩)⟩
    · have x4 : up (up s 23 0 5 (nI a)) 23 0 6 (nI a) 23 0 5 = nI a := by simp [up]
      have x5 : up (up s 23 0 5 (nI a)) 23 0 6 (nI a) 24 0 a = nI (b a) := hb.1
      have x6 : up (up s 23 0 5 (nI a)) 23 0 6 (nI a) 23 0 6 = nI a := up_at
      rw [if_neg q1, if_neg q1, x4, gd_of hin, nI_clamp (by omega), x5, F_fig g hb.2, bd_so, bI_if, G_fig g hb.2, bd_so, bI_if]
      by_cases q2 : pFig (b a) = true
      · have hs2 := sk_ge pFig b (L - a) a
        have hs3 := sk_pos (p := pFig) (show 0 < L - a by omega) q2
        have hs4 := sk_all pFig b (L - a) a
        rw [if_pos q2, if_pos q2, F_X8_takeNumber, X_tnum g (F_X8_takeNumber_68 g) (L - a) a fu 0 (up (up (up s 23 0 5 (nI a)) 23 0 6 (nI a)) 23 0 7 0) hB h1 (by simp [up]) (by simp [up, nI_0]) (by omega) (lt_fu (by omega)), M_tnum g (F_X11_next_146 g) (L - a) a fu (up (up u 60 0 34 (nI a)) 60 0 36 (nI a)) hC h33 m1 (by omega) (lt_fu (by omega)), F_X8_takeNumber_68, F_X11_next_146, F_X8_takeNumber_87, F_X8_takeNumber_87, F_X11_next_165, F_X11_next_165, F_X11_next_196, F_X11_next_196]
        generalize sk pFig b (L - a) a = e' at hs2 hs3 hs4
        have y1 : up (up (up (up (up s 23 0 5 (nI a)) 23 0 6 (nI a)) 23 0 7 0) 23 0 7 (nI (vN b a (e' - a) 0))) 23 0 6 (nI e') 23 0 6 - up (up (up (up (up s 23 0 5 (nI a)) 23 0 6 (nI a)) 23 0 7 0) 23 0 7 (nI (vN b a (e' - a) 0))) 23 0 6 (nI e') 23 0 5 = nI (e' - a) := by
          have : up (up (up (up (up s 23 0 5 (nI a)) 23 0 6 (nI a)) 23 0 7 0) 23 0 7 (nI (vN b a (e' - a) 0))) 23 0 6 (nI e') 23 0 5 = nI a := by simp [up]
          rw [up_at, this, pk_sub (by omega)]
        have y2 : up (up (up u 60 0 34 (nI a)) 60 0 36 (nI a)) 60 0 34 (nI e') 60 0 34 - up (up (up u 60 0 34 (nI a)) 60 0 36 (nI a)) 60 0 34 (nI e') 60 0 36 = nI (e' - a) := by
          have : up (up (up u 60 0 34 (nI a)) 60 0 36 (nI a)) 60 0 34 (nI e') 60 0 36 = nI a := by simp [up]
          rw [up_at, this, pk_sub (by omega)]
        rw [y1, y2]
        by_cases q3 : e' - a ≤ 4
        · rw [if_neg (show ¬ (4 : Int32) < nI (e' - a) from nI_nlt (a := 4) q3 (by omega)), if_pos (show nI (e' - a) ≤ (4 : Int32) from nI_le (b := 4) q3 (by omega)), bd_so]
          refine ⟨_, _, a, e', rfl, rfl, ⟨?_, ?_, ?_, ?_⟩, by omega, hB, hC, h1, h33, by omega, by omega, ?_⟩
          · intro t ht
            funext x y
            simp [up, ht]
          · intro j hj
            have e1 : ¬ j = 4 := by omega
            have e2 : ¬ j = 5 := by omega
            have e3 : ¬ j = 6 := by omega
            have e4 : ¬ j = 7 := by omega
            simp [up, e1, e2, e3, e4]
          · intro t ht
            funext x y
            simp [up, ht]
          · intro j hj
            have e1 : ¬ j = 34 := by omega
            have e2 : ¬ j = 35 := by omega
            have e3 : ¬ j = 36 := by omega
            have e4 : ¬ j = 37 := by omega
            simp [up, e1, e2, e3, e4]
          · exact ⟨by simp [up], by simp [up], by simp [up], by simp [up], by simp [up], Or.inr (Or.inr (Or.inl ⟨by simp [up], by simp [up], hs3, by omega, by simp [up], hs4⟩))⟩
        · rw [if_pos (show (4 : Int32) < nI (e' - a) from nI_lt (a := 4) (by omega) (by omega)), if_neg (show ¬ nI (e' - a) ≤ (4 : Int32) from nI_ge (a := 4) (by omega) (by omega)), bd_so]
          refine ⟨_, _, a, e', rfl, rfl, ⟨?_, ?_, ?_, ?_⟩, by omega, hB, hC, h1, h33, by omega, by omega, ?_⟩
          · intro t ht
            funext x y
            simp [up, ht]
          · intro j hj
            have e1 : ¬ j = 4 := by omega
            have e2 : ¬ j = 5 := by omega
            have e3 : ¬ j = 6 := by omega
            have e4 : ¬ j = 7 := by omega
            simp [up, e1, e2, e3, e4]
          · intro t ht
            funext x y
            simp [up, ht]
          · intro j hj
            have e1 : ¬ j = 34 := by omega
            have e2 : ¬ j = 35 := by omega
            have e3 : ¬ j = 36 := by omega
            have e4 : ¬ j = 37 := by omega
            simp [up, e1, e2, e3, e4]
          · exact ⟨by simp [up], by simp [up], by simp [up], by simp [up], by simp [up], Or.inr (Or.inr (Or.inr (Or.inr ⟨by simp [up], by simp [up], hs3⟩)))⟩
      · have m4 : up (up u 60 0 34 (nI a)) 60 0 36 (nI a) 60 0 34 = nI a := by simp [up]
        rw [if_neg q2, if_neg q2, x4, gd_of hin, nI_clamp (by omega), x5, ifc (nI_c (b a) 59 (y := (59 : Int32)) rfl hb.2 (by omega)), F_X8_takeToken_138, F_X8_takeToken_138, x6, m4, nI_1]
        have key : ∀ (k k' : Int32), (k = 3 ∧ k' = 4) ∨ (k = 4 ∧ k' = 0) → ∃ (s' u' : St) (a' e' : Nat), some ((), up (up (up (up s 23 0 5 (nI a)) 23 0 6 (nI a)) 23 0 4 k) 23 0 6 (nI (a + 1))) = some ((), s') ∧ some ((), up (up (up (up (up u 60 0 34 (nI a)) 60 0 36 (nI a)) 60 0 34 (nI (a + 1))) 60 0 35 k') 60 0 37 (up (up (up (up u 60 0 34 (nI a)) 60 0 36 (nI a)) 60 0 34 (nI (a + 1))) 60 0 35 k' 60 0 34)) = some ((), u') ∧ FrT s s' u u' ∧ e ≤ a' ∧ TokR b L s' u' a' e' := by
          intro k k' hkk
          refine ⟨_, _, a, a + 1, rfl, rfl, ⟨?_, ?_, ?_, ?_⟩, by omega, hB, hC, h1, h33, by omega, by omega, ?_⟩
          · intro t ht
            funext x y
            simp [up, ht]
          · intro j hj
            have e1 : ¬ j = 4 := by omega
            have e2 : ¬ j = 5 := by omega
            have e3 : ¬ j = 6 := by omega
            simp [up, e1, e2, e3]
          · intro t ht
            funext x y
            simp [up, ht]
          · intro j hj
            have e1 : ¬ j = 34 := by omega
            have e2 : ¬ j = 35 := by omega
            have e3 : ¬ j = 36 := by omega
            have e4 : ¬ j = 37 := by omega
            simp [up, e1, e2, e3, e4]
          · refine ⟨by simp [up], by simp [up], by simp [up], by simp [up], by simp [up], ?_⟩
            rcases hkk with ⟨rfl, rfl⟩ | ⟨rfl, rfl⟩
            · exact Or.inr (Or.inr (Or.inr (Or.inl ⟨by simp [up], by simp [up], by omega⟩)))
            · exact Or.inr (Or.inr (Or.inr (Or.inr ⟨by simp [up], by simp [up], by omega⟩)))
        by_cases q3 : b a = 59
        · rw [if_pos q3, if_pos ((nI_c (b a) 59 (y := (59 : Int32)) rfl hb.2 (by omega)).mpr q3)]
          exact key 3 4 (Or.inl ⟨rfl, rfl⟩)
        · rw [if_neg q3, if_neg (fun e => q3 ((nI_c (b a) 59 (y := (59 : Int32)) rfl hb.2 (by omega)).mp e))]
          exact key 4 0 (Or.inr ⟨rfl, rfl⟩)
  · rw [if_neg (nI_nlt (show L ≤ a by omega) (by omega)), if_neg q, if_pos rfl]
    have : a = L := by omega
    subst this
    refine ⟨_, _, a, a, rfl, rfl, ⟨?_, ?_, ?_, ?_⟩, by omega, hB, hC, h1, h33, by omega, by omega, ?_⟩
    · intro t ht
      funext x y
      simp [up, ht]
    · intro j hj
      have e1 : ¬ j = 4 := by omega
      have e2 : ¬ j = 5 := by omega
      have e3 : ¬ j = 6 := by omega
      simp [up, e1, e2, e3]
    · intro t ht
      funext x y
      simp [up, ht]
    · intro j hj
      have e1 : ¬ j = 34 := by omega
      have e2 : ¬ j = 35 := by omega
      have e3 : ¬ j = 36 := by omega
      have e4 : ¬ j = 37 := by omega
      simp [up, e1, e2, e3, e4]
    · exact ⟨by simp [up], by simp [up], by simp [up], by simp [up], by simp [up], Or.inl ⟨by simp [up], by simp [up]⟩⟩
