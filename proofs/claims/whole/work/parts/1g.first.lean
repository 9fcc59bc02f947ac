/-! which GOODS go first: both sides -/
def filF (s : St) (t k n : Nat) (f : Nat → Int32) : St := fun a b c => if a = t then (if b = k then (if c < n then f c else s a b c) else s a b c) else s a b c
theorem filF_0 (s : St) (t k : Nat) (f : Nat → Int32) : filF s t k 0 f = s := by
  funext a b c
  simp [filF]
theorem filF_1 (s : St) (t k i : Nat) (f : Nat → Int32) : up (filF s t k i f) t k i (f i) = filF s t k (i + 1) f := by
  funext a b c
  unfold up filF
  by_cases h1 : a = t
  · by_cases h2 : b = k
    · by_cases h3 : c = i
      · subst h3
        simp [h1, h2]
      · by_cases h4 : c < i
        · simp [h1, h2, h3, h4, Nat.lt_succ_of_lt h4]
        · have h5 : ¬ c < i + 1 := by omega
          simp [h1, h2, h3, h4, h5]
    · simp [h1, h2]
  · simp [h1]
theorem filF_congr {s : St} {t k n : Nat} {f h : Nat → Int32} (e : ∀ c, c < n → f c = h c) : filF s t k n f = filF s t k n h := by
  funext a b c
  unfold filF
  by_cases h1 : c < n
  · simp [h1, e c h1]
  · simp [h1]
theorem filF_at {s : St} {t k n c : Nat} {f : Nat → Int32} (h : c < n) : filF s t k n f t k c = f c := by simp [filF, h]
theorem filF_up {s : St} {t k n j : Nat} {f : Nat → Int32} {v : Int32} (h : j < n) : up (filF s t k n f) t k j v = filF s t k n (fun c => if c = j then v else f c) := by
  funext a b c
  unfold up filF
  by_cases h1 : a = t
  · by_cases h2 : b = k
    · by_cases h3 : c = j
      · subst h3
        simp [h1, h2, h]
      · simp [h1, h2, h3]
    · simp [h1, h2]
  · simp [h1]
theorem cnB_le {f h : Nat → Bool} : ∀ n : Nat, (∀ i, i < n → f i = true → h i = true) → cnB f n ≤ cnB h n
  | 0, _ => Nat.le_refl _
  | n + 1, e => by
    have ih := cnB_le n (fun i hi => e i (by omega))
    rw [cnB, cnB]
    by_cases e1 : f n = true
    · rw [if_pos e1, if_pos (e n (by omega) e1)]
      omega
    · rw [if_neg e1]
      omega
theorem cnB_one {f h : Nat → Bool} {j : Nat} : ∀ n : Nat, (∀ i, i < n → i ≠ j → f i = h i) → f j = false → h j = true → j < n → cnB h n = cnB f n + 1
  | 0, _, _, _, hj => by omega
  | n + 1, e, e1, e2, hj => by
    rw [cnB, cnB]
    by_cases e3 : n = j
    · subst e3
      rw [if_pos e2, if_neg (by rw [e1]; decide), cnB_congr n (fun i hi => e i (by omega) (by omega))]
    · rw [cnB_one n (fun i hi => e i (by omega)) e1 e2 (by omega), e n (by omega) e3]
      omega
theorem cnB_n (f : Nat → Bool) : ∀ n : Nat, cnB f n ≤ n
  | 0 => Nat.le_refl _
  | n + 1 => by
    have := cnB_n f n
    rw [cnB]
    split <;> omega
theorem cnB_lt {f : Nat → Bool} {j n : Nat} (hj : j < n) (h : f j = false) : cnB f n < n := by
  have h1 := cnB_one (f := f) (h := fun i => if i = j then true else f i) (j := j) n (fun i _ e => by simp [e]) h (by simp) hj
  have h2 := cnB_n (fun i => if i = j then true else f i) n
  omega
theorem cnB_st {f h : Nat → Bool} {j n : Nat} (e : ∀ i, i < n → f i = true → h i = true) (hj : j < n) (h1 : f j = false) (h2 : h j = true) : cnB f n < cnB h n := by
  have a1 := cnB_one (f := f) (h := fun i => if i = j then true else f i) (j := j) n (fun i _ e => by simp [e]) h1 (by simp) hj
  have a2 := cnB_le (f := fun i => if i = j then true else f i) (h := h) n (fun i hi => by
    by_cases z : i = j
    · subst z
      intro _
      exact h2
    · simp only [z, if_false]
      exact e i hi)
  omega
/-- a GOOD's rank by the first n rules -/
def rkN (wt wk vl : Nat → Int32) (w q : Nat) : Nat → Nat
  | 0 => 1000000 + q
  | r + 1 => if wt r = 7 ∧ wk r ≤ nI w ∧ vl r = nI q then min (rkN wt wk vl w q r) ((wk r).toNatClampNeg * 30 + r) else rkN wt wk vl w q r
/-- what the rules are -/
def RuN (c : Nat) (wt wk vl : Nat → Int32) : Prop := c ≤ 30 ∧ ∀ r, r < c → (∃ w' : Nat, w' ≤ 99 ∧ wk r = nI w') ∧ (wt r = 7 → ∃ j : Nat, j < 4 ∧ vl r = nI j)
theorem rk_big {c : Nat} {wt wk vl : Nat → Int32} (h : RuN c wt wk vl) (w q : Nat) : ∀ n, n ≤ c → rkN wt wk vl w q n = 1000000 + q ∨ ∃ r, r < n ∧ wt r = 7 ∧ wk r ≤ nI w ∧ vl r = nI q ∧ rkN wt wk vl w q n = (wk r).toNatClampNeg * 30 + r
  | 0, _ => Or.inl rfl
  | n + 1, hn => by
    have ih := rk_big h w q n (by omega)
    rw [rkN]
    by_cases e : wt n = 7 ∧ wk n ≤ nI w ∧ vl n = nI q
    · rw [if_pos e]
      by_cases e2 : (wk n).toNatClampNeg * 30 + n ≤ rkN wt wk vl w q n
      · exact Or.inr ⟨n, by omega, e.1, e.2.1, e.2.2, Nat.min_eq_right e2⟩
      · rw [Nat.min_eq_left (by omega)]
        rcases ih with ih | ⟨r, h1, h2⟩
        · exact Or.inl ih
        · exact Or.inr ⟨r, by omega, h2⟩
    · rw [if_neg e]
      rcases ih with ih | ⟨r, h1, h2⟩
      · exact Or.inl ih
      · exact Or.inr ⟨r, by omega, h2⟩
theorem rk_le {wt wk vl : Nat → Int32} (w q : Nat) : ∀ (n r : Nat), r < n → wt r = 7 → wk r ≤ nI w → vl r = nI q → rkN wt wk vl w q n ≤ (wk r).toNatClampNeg * 30 + r
  | 0, _, h, _, _, _ => by omega
  | n + 1, r, h, e1, e2, e3 => by
    rw [rkN]
    by_cases e : r = n
    · subst e
      rw [if_pos ⟨e1, e2, e3⟩]
      exact Nat.min_le_right _ _
    · have ih := rk_le w q n r (by omega) e1 e2 e3
      split
      · exact Nat.le_trans (Nat.min_le_left _ _) ih
      · exact ih
theorem rk_small {c : Nat} {wt wk vl : Nat → Int32} (h : RuN c wt wk vl) {w q : Nat} (hq : q < 4) {n : Nat} (hn : n ≤ c) : rkN wt wk vl w q n < 1000010 := by
  rcases rk_big h w q n hn with e | ⟨r, h1, -, -, -, h5⟩
  · omega
  · obtain ⟨⟨w', hw, e⟩, -⟩ := h.2 r (by omega)
    rw [h5, e, nI_clamp (by omega)]
    have := h.1
    omega
theorem rk_inj {c : Nat} {wt wk vl : Nat → Int32} (h : RuN c wt wk vl) {w q q' : Nat} (hq : q < 4) (hq' : q' < 4) (e : rkN wt wk vl w q c = rkN wt wk vl w q' c) : q = q' := by
  have hc := h.1
  rcases rk_big h w q c (Nat.le_refl _) with e1 | ⟨r, h1, h2, h3, h4, h5⟩
  · rcases rk_big h w q' c (Nat.le_refl _) with e2 | ⟨r', g1, g2, g3, g4, g5⟩
    · omega
    · obtain ⟨⟨w', hw, e3⟩, -⟩ := h.2 r' (by omega)
      rw [e3, nI_clamp (by omega)] at g5
      omega
  · obtain ⟨⟨w', hw, e3⟩, -⟩ := h.2 r (by omega)
    rw [e3, nI_clamp (by omega)] at h5
    rcases rk_big h w q' c (Nat.le_refl _) with e2 | ⟨r', g1, g2, g3, g4, g5⟩
    · omega
    · obtain ⟨⟨w2, hw2, e4⟩, -⟩ := h.2 r' (by omega)
      rw [e4, nI_clamp (by omega)] at g5
      have : r = r' := by omega
      subst this
      exact (nI_eq (by omega) (by omega)).mp (h4.symm.trans g4)
/-- how many GOODS are ranked before T, and a GOOD's place -/
def rkC (R : Nat → Nat) (T : Nat) : Nat := cnB (fun h => decide (R h < T)) 4
theorem rkC_lt {R : Nat → Nat} {q q' : Nat} (hq : q < 4) (h : R q < R q') : rkC R (R q) < rkC R (R q') :=
  cnB_st (fun i _ e => by
    simp only [decide_eq_true_eq] at e ⊢
    omega) hq (by simp) (by simpa using h)
theorem rkC_4 {R : Nat → Nat} {q : Nat} (hq : q < 4) : rkC R (R q) < 4 := cnB_lt hq (by simp)
theorem rkC_inj {R : Nat → Nat} {q q' : Nat} (hq : q < 4) (hq' : q' < 4) (hR : R q = R q' → q = q') (h : rkC R (R q) = rkC R (R q')) : q = q' := by
  rcases Nat.lt_trichotomy (R q) (R q') with e | e | e
  · have := rkC_lt hq e
    omega
  · exact hR e
  · have := rkC_lt hq' e
    omega
theorem X_rank0 (g : Nat × Nat) (a : Int32) (k : St → Option (Unit × St)) (s : St) : ∀ (m i n : Nat), i + m = 4 → m < n → F_X6_rankGoods_2 g a k n (nI i) (filF s 22 0 i (fun q => nI (1000000 + q))) = k (filF s 22 0 4 (fun q => nI (1000000 + q)))
  | 0, i, n + 1, hi, _ => by
    have : i = 4 := by omega
    subst this
    rw [F_X6_rankGoods_2, if_pos (by decide)]
  | m + 1, i, n + 1, hi, hn => by
    have e : (1000000 : Int32) + nI i = nI (1000000 + i) := by
      show nI 1000000 + nI i = _
      rw [nI_add]
    rw [F_X6_rankGoods_2, if_neg (show ¬ (4 : Int32) ≤ nI i from nI_ge (b := 4) (by omega) (by omega)), gd_of (inb_nI (by omega) (by omega)), nI_clamp (by omega), e, filF_1 s 22 0 i (fun q => nI (1000000 + q)), nI_1]
    exact X_rank0 g a k s m (i + 1) n (by omega) (by omega)
theorem X_rank1 (g : Nat × Nat) (w : Nat) (s : St) {c : Nat} (h1 : s 17 0 5 = nI c) (hr : RuN c (s 19 0) (s 18 0) (s 20 0)) : ∀ (m i n : Nat), i + m = c → m < n → F_X6_rankGoods_25 g (nI w) n (nI i) (filF s 22 0 4 (fun q => nI (rkN (s 19 0) (s 18 0) (s 20 0) w q i))) = some ((), filF s 22 0 4 (fun q => nI (rkN (s 19 0) (s 18 0) (s 20 0) w q c)))
  | 0, i, n + 1, hi, _ => by
    have hc := hr.1
    have : i = c := by omega
    subst this
    rw [F_X6_rankGoods_25, show filF s 22 0 4 (fun q => nI (rkN (s 19 0) (s 18 0) (s 20 0) w q i)) 17 0 5 = nI i from h1, if_pos (nI_le (Nat.le_refl _) (by omega))]
  | m + 1, i, n + 1, hi, hn => by
    have hc := hr.1
    have ih := X_rank1 g w s h1 hr m (i + 1) n (by omega) (by omega)
    have hb : inb (nI i) 30 = true := inb_nI (by omega) (by omega)
    rw [F_X6_rankGoods_25, show filF s 22 0 4 (fun q => nI (rkN (s 19 0) (s 18 0) (s 20 0) w q i)) 17 0 5 = nI c from h1, if_neg (nI_ge (by omega) (by omega))]
    simp only [gd_of hb, nI_clamp (show i < 2 ^ 31 by omega), F_X6_rankGoods_87, nI_1]
    have r19 : filF s 22 0 4 (fun q => nI (rkN (s 19 0) (s 18 0) (s 20 0) w q i)) 19 0 i = s 19 0 i := rfl
    have r18 : filF s 22 0 4 (fun q => nI (rkN (s 19 0) (s 18 0) (s 20 0) w q i)) 18 0 i = s 18 0 i := rfl
    have r20 : filF s 22 0 4 (fun q => nI (rkN (s 19 0) (s 18 0) (s 20 0) w q i)) 20 0 i = s 20 0 i := rfl
    rw [r19, r18, r20]
    have same : ¬ (s 19 0 i = 7 ∧ s 18 0 i ≤ nI w) → filF s 22 0 4 (fun q => nI (rkN (s 19 0) (s 18 0) (s 20 0) w q i)) = filF s 22 0 4 (fun q => nI (rkN (s 19 0) (s 18 0) (s 20 0) w q (i + 1))) := fun z => filF_congr (fun q _ => by
      rw [rkN, if_neg (fun y => z ⟨y.1, y.2.1⟩)])
    by_cases e1 : s 19 0 i = 7
    · by_cases e2 : nI w < s 18 0 i
      · rw [if_pos e1, if_pos e2, same (fun z => absurd z.2 (Int32.not_le.mpr e2))]
        exact ih
      · rw [if_pos e1, if_neg e2]
        obtain ⟨⟨w', hw, e3⟩, h7⟩ := hr.2 i (by omega)
        obtain ⟨j, hj, e4⟩ := h7 e1
        have e5 : s 18 0 i * 30 + nI i = nI (w' * 30 + i) := by
          rw [e3]
          show nI w' * nI 30 + nI i = _
          rw [pk_mul, nI_add]
        rw [e4, nI_clamp (by omega), gd_of (inb_nI hj (by omega)), gd_of (inb_nI hj (by omega)), e5, filF_at hj, filF_up hj]
        have : filF s 22 0 4 (fun c_1 => if c_1 = j then (if nI (w' * 30 + i) < nI (rkN (s 19 0) (s 18 0) (s 20 0) w j i) then nI (w' * 30 + i) else nI (rkN (s 19 0) (s 18 0) (s 20 0) w j i)) else nI (rkN (s 19 0) (s 18 0) (s 20 0) w c_1 i)) = filF s 22 0 4 (fun q => nI (rkN (s 19 0) (s 18 0) (s 20 0) w q (i + 1))) := filF_congr (fun q hq => by
          rw [rkN]
          by_cases z : q = j
          · subst z
            have hs := rk_small hr (w := w) (q := q) hq (n := i) (by omega)
            rw [if_pos (show q = q from rfl), if_pos (show s 19 0 i = 7 ∧ s 18 0 i ≤ nI w ∧ s 20 0 i = nI q from ⟨e1, Int32.not_lt.mp e2, e4⟩), e3, nI_clamp (by omega)]
            by_cases y : w' * 30 + i < rkN (s 19 0) (s 18 0) (s 20 0) w q i
            · rw [if_pos (nI_lt y (by omega)), Nat.min_eq_right (by omega)]
            · rw [if_neg (nI_nlt (by omega) (by omega)), Nat.min_eq_left (by omega)]
          · rw [if_neg z, if_neg (fun y => z ((nI_eq (by omega) (by omega)).mp (y.2.2.symm.trans e4)))])
        rw [this]
        exact ih
    · rw [if_neg e1, same (fun z => e1 z.1)]
      exact ih
theorem X_ahead (g : Nat × Nat) (a : Int32) (k : Int32 → Int32 → Int32 → St → Option (Int32 × St)) (v : Int32) (s : St) (R : Nat → Nat) (hR : ∀ q, q < 4 → s 22 0 q = nI (R q) ∧ R q < 2 ^ 31) {q : Nat} (hq : q < 4) : ∀ (m i n : Nat), i + m = 4 → m < n → F_X6_orderGoods_20 g a k n v (nI q) (nI (cnB (fun h => decide (R h < R q)) i)) (nI i) s = k v (nI q) (nI (rkC R (R q))) s
  | 0, i, n + 1, hi, _ => by
    have : i = 4 := by omega
    subst this
    rw [F_X6_orderGoods_20, if_pos (by decide)]
    rfl
  | m + 1, i, n + 1, hi, hn => by
    have ih := X_ahead g a k v s R hR hq m (i + 1) n (by omega) (by omega)
    rw [F_X6_orderGoods_20, if_neg (show ¬ (4 : Int32) ≤ nI i from nI_ge (b := 4) (by omega) (by omega)), gd_of (inb_nI (by omega) (by omega)), gd_of (inb_nI (by omega) (by omega)), nI_clamp (by omega), nI_clamp (by omega), (hR q hq).1, (hR i (by omega)).1]
    simp only [F_X6_orderGoods_45, nI_1]
    rw [cnB] at ih
    by_cases e : R i < R q
    · rw [if_neg (nI_ge e (hR q hq).2)]
      rw [if_pos (by simpa using e)] at ih
      exact ih
    · rw [if_pos (nI_le (by omega) (hR i (by omega)).2)]
      rw [if_neg (by simpa using e)] at ih
      exact ih
def ordS (s : St) (p : Nat → Nat) : Nat → St
  | 0 => s
  | n + 1 => up (ordS s p n) 21 0 (p n) (nI n)
theorem ordS_off (s : St) (p : Nat → Nat) {a : Nat} (h : a ≠ 21) : ∀ n, ordS s p n a = s a
  | 0 => rfl
  | n + 1 => by
    rw [ordS, ← ordS_off s p h n]
    funext b c
    simp [up, h]
theorem ordS_at (s : St) (p : Nat → Nat) {N : Nat} (hp : ∀ q q', q < N → q' < N → p q = p q' → q = q') : ∀ n, n ≤ N → ∀ q, q < n → ordS s p n 21 0 (p q) = nI q
  | 0, _, _, h => by omega
  | n + 1, hn, q, h => by
    rw [ordS]
    by_cases e : q = n
    · subst e
      exact up_at
    · rw [up_off (fun z => e (hp q n (by omega) (by omega) z))]
      exact ordS_at s p hp n (by omega) q (by omega)
theorem X_order (g : Nat × Nat) (a : Int32) (s : St) (R : Nat → Nat) (hR : ∀ q, q < 4 → s 22 0 q = nI (R q) ∧ R q < 2 ^ 31) : ∀ (m i n : Nat), i + m = 4 → m < n → F_X6_orderGoods_9 g a n (nI (cnB (fun h => decide (R h < 1000000)) i)) (nI i) (ordS s (fun q => rkC R (R q)) i) = some (nI (rkC R 1000000), ordS s (fun q => rkC R (R q)) 4)
  | 0, i, n + 1, hi, _ => by
    have : i = 4 := by omega
    subst this
    rw [F_X6_orderGoods_9, if_pos (by decide)]
    rfl
  | m + 1, i, n + 1, hi, hn => by
    have ih := X_order g a s R hR m (i + 1) n (by omega) (by omega)
    have e0 := X_ahead g a (F_X6_orderGoods_51 g a (F_X6_orderGoods_9 g a n)) (nI (cnB (fun h => decide (R h < 1000000)) i)) (ordS s (fun q => rkC R (R q)) i) R (fun q hq => by rw [ordS_off s _ (by decide) i]; exact hR q hq) (show i < 4 by omega) 4 0 fu (by omega) (lt_fu (by omega))
    have z0 : nI (cnB (fun h => decide (R h < R i)) 0) = 0 := rfl
    rw [z0, nI_0] at e0
    have hp : rkC R (R i) < 4 := rkC_4 (by omega)
    rw [F_X6_orderGoods_9, if_neg (show ¬ (4 : Int32) ≤ nI i from nI_ge (b := 4) (by omega) (by omega)), e0, F_X6_orderGoods_51, gd_of (inb_nI hp (by omega)), gd_of (inb_nI (by omega) (by omega)), nI_clamp (by omega), nI_clamp (by omega), ordS_off s _ (by decide) i, (hR i (by omega)).1]
    simp only [F_X6_orderGoods_73, nI_1]
    rw [cnB, ordS] at ih
    by_cases e : R i < 1000000
    · rw [if_pos (by simpa using e)] at ih
      rw [if_neg (show ¬ (1000000 : Int32) ≤ nI (R i) from nI_ge (b := 1000000) e (by omega))]
      exact ih
    · rw [if_neg (by simpa using e)] at ih
      rw [if_pos (show (1000000 : Int32) ≤ nI (R i) from nI_le (a := 1000000) (by omega) (hR i (by omega)).2)]
      exact ih
/-- the landed class orders the GOODS by rank -/
theorem X_orderGoods (g : Nat × Nat) (w : Nat) (s : St) {c : Nat} (h1 : s 17 0 5 = nI c) (hr : RuN c (s 19 0) (s 18 0) (s 20 0)) (R : Nat → Nat) (eR : R = fun q => rkN (s 19 0) (s 18 0) (s 20 0) w q c) : ∃ s', F_X6_orderGoods g (nI w) s = some (nI (rkC R 1000000), s') ∧ (∀ t, t ≠ 21 → t ≠ 22 → s' t = s t) ∧ ∀ q, q < 4 → s' 21 0 (rkC R (R q)) = nI q := by
  have e1 := X_rank0 g (nI w) (F_X6_rankGoods_23 g (nI w)) s 4 0 fu (by omega) (lt_fu (by omega))
  rw [filF_0, nI_0] at e1
  have hc := hr.1
  have e2 := X_rank1 g w s h1 hr c 0 fu (by omega) (lt_fu (by omega))
  have e3 := X_order g (nI w) (filF s 22 0 4 (fun q => nI (R q))) R (fun q hq => ⟨filF_at hq, by
    rw [eR]
    have := rk_small hr (w := w) (q := q) hq (n := c) (Nat.le_refl _)
    show rkN (s 19 0) (s 18 0) (s 20 0) w q c < 2 ^ 31
    omega⟩) 4 0 fu (by omega) (lt_fu (by omega))
  have z0 : nI (cnB (fun h => decide (R h < 1000000)) 0) = 0 := rfl
  rw [z0, nI_0] at e3
  refine ⟨ordS (filF s 22 0 4 (fun q => nI (R q))) (fun q => rkC R (R q)) 4, ?_, ?_, ?_⟩
  · unfold F_X6_orderGoods F_X6_rankGoods
    rw [e1]
    unfold F_X6_rankGoods_23
    have z1 : (fun q => nI (1000000 + q)) = (fun q => nI (rkN (s 19 0) (s 18 0) (s 20 0) w q 0)) := rfl
    rw [z1]
    rw [nI_0] at e2
    rw [e2, bd_so]
    have z2 : (fun q => nI (rkN (s 19 0) (s 18 0) (s 20 0) w q c)) = (fun q => nI (R q)) := by rw [eR]
    rw [z2]
    exact e3
  · intro t t1 t2
    rw [ordS_off _ _ t1]
    funext b d
    simp [filF, t2]
  · intro q hq
    exact ordS_at _ _ (N := 4) (fun x y hx hy e => rkC_inj hx hy (fun z => by
      rw [eR] at z
      exact rk_inj hr hx hy z) e) 4 (by omega) q hq
