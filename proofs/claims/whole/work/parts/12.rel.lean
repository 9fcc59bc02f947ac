/-! when the landed class's store s and the reference's store u tell the same: N calls were made, g: how many mills and homes -/
theorem inb_nI {j N : Nat} (h : j < N) (hN : N < 2 ^ 31) : inb (nI j) N = true := by
  have h1 := vp_in_nI h hN
  unfold vp_in at h1
  unfold inb
  simpa using h1
theorem lt_fu {n : Nat} (h : n < 1000000) : n < fu := h
def RSh (m it : Nat → Nat → Int32) (ln mn im : Nat → Int32) : Prop := ∀ k, k < 8 → ((m k 1 = 1 ∧ ln k = -1) ∨ (m k 1 = 0 ∧ ln k = m k 2 ∧ (m k 2 = 0 ∨ m k 2 = 1 ∨ m k 2 = 2))) ∧ (∃ n : Nat, n ≤ 80 ∧ m k 3 = nI n) ∧ mn k = m k 3 ∧ ∀ i, i < 80 → im (80 * k + i) = it k i
def RCo (cl fe wk : Int32) (ba br : Nat → Int32) (cl' fe' wk' : Int32) (ba' br' : Nat → Int32) : Prop := (∃ n : Nat, n ≤ 5000 ∧ cl = nI n) ∧ cl' = cl ∧ (∃ n : Nat, n ≤ 100 ∧ fe = nI n) ∧ fe' = fe ∧ (∃ n : Nat, n ≤ 100 ∧ wk = nI n) ∧ wk' = wk ∧ ∀ i, i < 4 → ba' i = ba i ∧ (∃ n : Nat, 1 ≤ n ∧ n ≤ 1000 ∧ ba i = nI n) ∧ br' i = br i ∧ ∃ n : Nat, n ≤ 99 ∧ br i = nI n
def RPo (N nM : Nat) (po : Nat → Int32) (bl : Nat → Nat → Int32) (po' ow' : Nat → Int32) : Prop := ∀ i, i < 4 → po' i = po i ∧ (∃ n : Nat, n ≤ 1500000 * N ∧ po i = nI n) ∧ (∀ k, k < nM → ow' (4 * k + i) = bl k i ∧ ∃ n : Nat, n ≤ 9999 ∧ bl k i = nI n) ∧ ∀ k, nM ≤ k → k < 6 → ow' (4 * k + i) = 0
def RPr (wk : Int32) (pr pr' : Nat → Int32) : Prop := ∀ i, i < 4 → (wk = 0 → pr' i = -1000000) ∧ (¬ wk = 0 → pr' i = pr i)
def RSp (sc : Int32) (sw ss sb st : Nat → Int32) (sc' : Int32) (sw' ss' sb' : Nat → Int32) : Prop := ∃ c : Nat, c ≤ 30 ∧ sc = nI c ∧ sc' = nI c ∧ ∀ i, i < c → sw' i = sw i ∧ ss' i = ss i ∧ (∃ n : Nat, n < 4 ∧ ss i = nI n) ∧ (∃ b : Nat, b ≤ 500 ∧ sb i = nI b) ∧ ((st i = 0 ∧ sb' i = 0) ∨ (st i = 1 ∧ sb' i = sb i))
def cnR (f : Nat → Int32) : Nat → Nat
  | 0 => 0
  | n + 1 => cnR f n + (if f n = -1000000 then 0 else 1)
def RMi (nM : Nat) (mc wk : Int32) (ml ro : Nat → Nat → Int32) (mc' : Int32) (ne tk mg hd co rn : Nat → Int32) : Prop := nM ≤ 6 ∧ mc = nI nM ∧ mc' = nI nM ∧
  (∀ k, k < nM → ne k = ml k 0 ∧ tk k = ml k 1 ∧ mg k = ml k 2 ∧ hd k = ml k 3 ∧ co k = ml k 6 ∧ (∃ n : Nat, 1 ≤ n ∧ n ≤ 50 ∧ ml k 0 = nI n) ∧ (∃ n : Nat, n ≤ 15 ∧ ml k 1 = nI n) ∧ (∃ n : Nat, n ≤ 1000 ∧ ml k 2 = nI n) ∧ (∃ n : Nat, n ≤ 5000 ∧ ml k 3 = nI n) ∧ (∃ n : Nat, n ≤ 2000000000 ∧ ml k 6 = nI n) ∧ ml k 7 = nI (cnR (ro k) 100) ∧ ∀ w, w < 100 → rn (100 * k + w) = ro k w ∧ (wk ≤ nI w → ro k w = -1000000) ∧ (ro k w = -1000000 ∨ ∃ j : Nat, j < 4 ∧ ro k w = nI j)) ∧
  ∀ k, nM ≤ k → k < 6 → co k = 0 ∧ ∀ w, w < 100 → rn (100 * k + w) = -1000000
def RR1 (wk wh va wk' wh' of' nu' : Int32) : Prop := wk' = wk ∧ (∃ w : Nat, w ≤ 99 ∧ wk = nI w) ∧ ((wh' = 0 ∧ wh = of' ∧ (∃ j : Nat, j < 4 ∧ of' = nI j) ∧ va = nu') ∨ (wh' = 1 ∧ wh = 4 ∧ of' = 0 ∧ va = nu') ∨ (wh' = 2 ∧ wh = 5 ∧ of' = 0 ∧ va = nu') ∨ (wh' = 3 ∧ wh = 6 ∧ of' = 0 ∧ va = nu') ∨ (wh' = 4 ∧ wh = 7 ∧ va = of' ∧ ∃ j : Nat, j < 4 ∧ of' = nI j))
def RRu (cn : Int32) (wk wh va : Nat → Int32) (cn' : Int32) (wk' wh' of' nu' : Nat → Int32) : Prop := ∃ c : Nat, c ≤ 30 ∧ cn = nI c ∧ cn' = nI c ∧ ∀ i, i < c → RR1 (wk i) (wh i) (va i) (wk' i) (wh' i) (of' i) (nu' i)
def RTa (ln : Int32) (by' : Nat → Int32) (lf ln' : Int32) (tp : Nat → Int32) (lt' : Int32) : Prop := ∃ c : Nat, c ≤ 400 ∧ ln = nI c ∧ ln' = nI c ∧ lt' = lf ∧ ∀ i, i < c → tp i = by' i ∧ ∃ b : Nat, b < 256 ∧ by' i = nI b
def RHo (nH : Nat) (hc : Int32) (ho gs : Nat → Nat → Int32) (hc' : Int32) (rw' : Nat → Int32) : Prop := nH ≤ 12 ∧ hc = nI nH ∧ hc' = nI nH ∧ ∀ k, k < nH → rw' (11 * k) = ho k 0 ∧ rw' (11 * k + 1) = ho k 1 ∧ rw' (11 * k + 2) = ho k 2 ∧ rw' (11 * k + 3) = ho k 5 ∧ rw' (11 * k + 4) = ho k 3 ∧ (∀ i, i < 4 → rw' (11 * k + 5 + i) = gs k i) ∧ rw' (11 * k + 9) = ho k 6 ∧ rw' (11 * k + 10) = ho k 7 ∧ ∃ m : Nat, m ≤ 5 ∧ ho k 0 = nI m
def RTh (tc : Int32) (so nu mo : Nat → Int32) (tc' : Int32) (so' nu' mo' : Nat → Int32) : Prop := ∃ c : Nat, c ≤ 16 ∧ tc = nI c ∧ tc' = nI c ∧ ∀ i, i < c → so' i = so i ∧ nu' i = nu i ∧ mo' i = mo i ∧ (∃ t : Nat, t ≤ 5 ∧ so i = nI t) ∧ ((so i = 2 ∨ so i = 3) → ∃ j : Nat, j < i ∧ mo i = nI j)
def RTr (tc : Int32) (tr : Nat → Int32) (tc' : Int32) (tr' : Nat → Int32) : Prop := ∃ c : Nat, c ≤ 16 ∧ tc = nI c ∧ tc' = nI c ∧ ∀ i, i < c → tr' i = tr i
def RNews (p : Int32) (w t k : Nat → Int32) (p' : Int32) (w' t' k' : Nat → Int32) : Prop := ∃ c : Nat, c ≤ 20 ∧ p = nI c ∧ p' = nI c ∧ ∀ i, i < c → w i = w' i ∧ t i = t' i ∧ k i = k' i
def Rel (N : Nat) (g : Nat × Nat) (s u : St) : Prop :=
  RSh (s 2) (s 3) (u 61 0) (u 62 0) (u 63 0) ∧
  s 0 0 10 = u 60 0 1 ∧
  RCo (s 4 0 4) (s 4 0 5) (s 4 0 13) (s 5 0) (s 6 0) (u 60 0 8) (u 60 0 9) (u 60 0 10) (u 64 0) (u 65 0) ∧
  RPo N g.1 (s 7 0) (s 15) (u 66 0) (u 74 0) ∧
  RPr (s 4 0 13) (s 8 0) (u 77 0) ∧
  RSp (s 4 0 10) (s 9 0) (s 10 0) (s 11 0) (s 12 0) (u 60 0 11) (u 67 0) (u 68 0) (u 69 0) ∧
  RMi g.1 (s 4 0 12) (s 4 0 13) (s 14) (s 16) (u 60 0 15) (u 70 0) (u 71 0) (u 72 0) (u 73 0) (u 75 0) (u 76 0) ∧
  RRu (s 17 0 5) (s 18 0) (s 19 0) (s 20 0) (u 60 0 24) (u 78 0) (u 79 0) (u 80 0) (u 81 0) ∧
  RTa (s 23 0 1) (s 24 0) (s 23 0 2) (u 60 0 31) (u 82 0) (u 60 0 32) ∧
  RHo g.2 (s 0 0 9) (s 26) (s 27) (u 60 0 42) (u 84 0) ∧
  RTh (s 38 0 4) (s 39 0) (s 40 0) (s 41 0) (u 60 0 47) (u 88 0) (u 89 0) (u 90 0) ∧
  RTr (s 38 0 5) (s 42 0) (u 60 0 56) (u 94 0) ∧
  RNews (s 43 0 3) (s 44 0) (s 45 0) (s 46 0) (u 60 0 51) (u 91 0) (u 93 0) (u 92 0)
theorem RPo.more {N nM : Nat} {po : Nat → Int32} {bl : Nat → Nat → Int32} {po' ow' : Nat → Int32} (h : RPo N nM po bl po' ow') : RPo (N + 1) nM po bl po' ow' := fun i hi => by
  obtain ⟨h1, ⟨n, h2, h3⟩, h4⟩ := h i hi
  exact ⟨h1, ⟨n, by omega, h3⟩, h4⟩
/-- a call that both sides answer alike -/
def Same (N : Nat) (g : Nat × Nat) (x m : Option (Int32 × St)) : Prop := ∃ (r : Int32) (s' u' : St), x = some (r, s') ∧ m = some (r, u') ∧ Rel (N + 1) g s' u'
/-- one that only reads -/
theorem Rel.read {N : Nat} {g : Nat × Nat} {s u : St} (h : Rel N g s u) : Rel (N + 1) g s (up u 60 0 0 0) := by
  obtain ⟨hA, hB, hC, hD, hE⟩ := h
  exact ⟨hA, hB, hC, hD.more, hE⟩
