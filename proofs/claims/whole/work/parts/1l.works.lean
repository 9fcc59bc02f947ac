/-! items of a sheet looked at by both; works -/
theorem Rel.frX {N : Nat} {g : Nat × Nat} {s s' u : St} (h : Rel N g s u) (hs : ∀ t, (t < 21 ∨ (22 < t ∧ t < 28) ∨ 37 < t) → s' t = s t) : Rel N g s' u := by
  unfold Rel at h ⊢
  rw [hs 2 (by omega), hs 3 (by omega), hs 0 (by omega), hs 4 (by omega), hs 5 (by omega), hs 6 (by omega), hs 7 (by omega), hs 15 (by omega), hs 8 (by omega), hs 9 (by omega), hs 10 (by omega), hs 11 (by omega), hs 12 (by omega), hs 14 (by omega), hs 16 (by omega), hs 17 (by omega), hs 18 (by omega), hs 19 (by omega), hs 20 (by omega), hs 23 (by omega), hs 24 (by omega), hs 26 (by omega), hs 27 (by omega), hs 38 (by omega), hs 39 (by omega), hs 40 (by omega), hs 41 (by omega), hs 42 (by omega), hs 43 (by omega), hs 44 (by omega), hs 45 (by omega), hs 46 (by omega)]
  exact h
theorem Rel.frM {N : Nat} {g : Nat × Nat} {s u u' : St} (h : Rel N g s u) (hu : ∀ t, t ≠ 60 → t ≠ 83 → t ≠ 85 → t ≠ 86 → t ≠ 87 → u' t = u t) (hu2 : ∀ j, 0 < j → u' 60 0 j = u 60 0 j) : Rel N g s u' := by
  unfold Rel at h ⊢
  rw [hu 61 (by decide) (by decide) (by decide) (by decide) (by decide), hu 62 (by decide) (by decide) (by decide) (by decide) (by decide), hu 63 (by decide) (by decide) (by decide) (by decide) (by decide), hu 64 (by decide) (by decide) (by decide) (by decide) (by decide), hu 65 (by decide) (by decide) (by decide) (by decide) (by decide), hu 66 (by decide) (by decide) (by decide) (by decide) (by decide), hu 74 (by decide) (by decide) (by decide) (by decide) (by decide), hu 77 (by decide) (by decide) (by decide) (by decide) (by decide), hu 67 (by decide) (by decide) (by decide) (by decide) (by decide), hu 68 (by decide) (by decide) (by decide) (by decide) (by decide), hu 69 (by decide) (by decide) (by decide) (by decide) (by decide), hu 70 (by decide) (by decide) (by decide) (by decide) (by decide), hu 71 (by decide) (by decide) (by decide) (by decide) (by decide), hu 72 (by decide) (by decide) (by decide) (by decide) (by decide), hu 73 (by decide) (by decide) (by decide) (by decide) (by decide), hu 75 (by decide) (by decide) (by decide) (by decide) (by decide), hu 76 (by decide) (by decide) (by decide) (by decide) (by decide), hu 78 (by decide) (by decide) (by decide) (by decide) (by decide), hu 79 (by decide) (by decide) (by decide) (by decide) (by decide), hu 80 (by decide) (by decide) (by decide) (by decide) (by decide), hu 81 (by decide) (by decide) (by decide) (by decide) (by decide), hu 82 (by decide) (by decide) (by decide) (by decide) (by decide), hu 84 (by decide) (by decide) (by decide) (by decide) (by decide), hu 88 (by decide) (by decide) (by decide) (by decide) (by decide), hu 89 (by decide) (by decide) (by decide) (by decide) (by decide), hu 90 (by decide) (by decide) (by decide) (by decide) (by decide), hu 91 (by decide) (by decide) (by decide) (by decide) (by decide), hu 92 (by decide) (by decide) (by decide) (by decide) (by decide), hu 93 (by decide) (by decide) (by decide) (by decide) (by decide), hu 94 (by decide) (by decide) (by decide) (by decide) (by decide), hu2 1 (by decide), hu2 8 (by decide), hu2 9 (by decide), hu2 10 (by decide), hu2 11 (by decide), hu2 15 (by decide), hu2 24 (by decide), hu2 31 (by decide), hu2 32 (by decide), hu2 42 (by decide), hu2 47 (by decide), hu2 51 (by decide), hu2 56 (by decide)]
  exact h
theorem Rel.unf {N : Nat} {g : Nat × Nat} {s u : St} (h : Rel N g s u) (v : Int32) : Rel N g (up s 0 0 10 v) (up u 60 0 1 v) := by
  obtain ⟨hA, hB, hC, hD, hE, hF, hG, hH, hI, hJ, hK, hL, hM⟩ := h
  exact ⟨hA, rfl, hC, hD, hE, hF, hG, hH, hI, hJ, hK, hL, hM⟩
theorem neg_f (n : Int32) (h : n = 1 ∨ n = 2) : ¬ (0 : Int32) ≤ -1000010 - n := by
  rcases h with h | h <;> subst h <;> decide
/-- what both find of n items from a2 on: nothing, or the same -/
theorem look_same {N : Nat} {g : Nat × Nat} {s u : St} (h : Rel N g s u) {k : Nat} (hk : k < 8) (a2 : Int32) {n : Nat} (hn : n < 1000) :
    (∃ v : Int32, (v = 1 ∨ v = 2) ∧ F_X7_findingAt g k a2 (nI n) s = some (v, s) ∧ F_X11_lookItems g (nI k) a2 (nI n) u = some (-1000010 - v, up u 60 0 1 v)) ∨
    (∃ i : Nat, i + n ≤ 80 ∧ a2 = nI i ∧ F_X7_findingAt g k a2 (nI n) s = some (0, s) ∧ F_X11_lookItems g (nI k) a2 (nI n) u = some (0, u)) := by
  have hA := h.1
  unfold F_X11_lookItems F_X11_lookItems_35 F_X11_finding
  rw [F_findingAt, nI_clamp (show k < 2 ^ 31 by omega), gd_of (inb_nI (show k < 8 from hk) (by omega))]
  obtain ⟨h1, ⟨m, hm, h2⟩, h3, h4⟩ := hA k hk
  rcases h1 with ⟨e1, e2⟩ | ⟨e1, e2, e3⟩
  · refine Or.inl ⟨1, Or.inl rfl, ?_, ?_⟩
    · rw [e1, if_neg (by decide)]
    · rw [e2, if_neg neg1]
      rfl
  · have e4 : (0 : Int32) ≤ u 61 0 k := by
      rw [e2]
      rcases e3 with e | e | e <;> rw [e] <;> decide
    rw [if_pos e1, if_pos e4, h3, h2]
    by_cases q : rch a2 (nI n) (nI m) = true
    · obtain ⟨i, n', hi, hn', rfl, e5, e6⟩ := (rch_iff (by omega)).mp q
      have := (nI_eq (by omega) hn').mp e5
      subst this
      refine Or.inr ⟨i, by omega, rfl, ?_, ?_⟩
      · rw [if_pos q]
      · rw [if_neg (nI_pos hi), gd_of (inb_nI (show k < 8 from hk) (by omega)), if_pos ?_]
        rw [lg_le, nI_l hi, nI_l (by omega), nI_l (by omega), lN_add, pk_lLE (by omega) (by omega)]
        omega
    · refine Or.inl ⟨2, Or.inr rfl, ?_, ?_⟩
      · rw [if_neg q]
      · by_cases q2 : a2 < 0
        · rw [if_pos q2]
          rfl
        · rw [if_neg q2, gd_of (inb_nI (show k < 8 from hk) (by omega)), if_neg ?_]
          · rfl
          · intro q3
            refine q ((rch_iff (by omega)).mpr ?_)
            obtain ⟨i, hi, rfl⟩ := nI_of q2
            rw [lg_le, nI_l hi, nI_l (by omega), nI_l (by omega), lN_add, pk_lLE (by omega) (by omega)] at q3
            exact ⟨i, n, hi, by omega, rfl, rfl, q3⟩
def gdW (f : Nat → Int32) : Nat → Nat → Bool
  | _, 0 => true
  | i, m + 1 => bw (f (2 * i)) 1 100 && (bw (f (2 * i + 1)) 0 100 && gdW f (i + 1) m)
theorem ix2 {j i : Nat} : nI j + (2 : Int32) * nI i = nI (j + 2 * i) := by
  rw [show (2 : Int32) = nI 2 from rfl, pk_mul, nI_add]
theorem X_wtake (g : Nat × Nat) {k j c : Nat} (hc : c ≤ 10) (hj : j + 2 * c ≤ 80) (s : St) : ∀ (m i n : Nat) (s' : St), (∀ t, t ≠ 36 → t ≠ 37 → s' t = s t) → i + m = c → m < n → ∃ s'' : St, F_X9_take_3 g 3 k (nI j) (nI c) n (nI i) s' = some (bI (gdW (fun q => s 3 k (j + q)) i m), s'') ∧ (∀ t, t ≠ 36 → t ≠ 37 → s'' t = s t) ∧ (∀ w, w < i → s'' 36 0 w = s' 36 0 w ∧ s'' 37 0 w = s' 37 0 w) ∧ (gdW (fun q => s 3 k (j + q)) i m = true → ∀ w, i ≤ w → w < c → s'' 36 0 w = s 3 k (j + 2 * w) ∧ s'' 37 0 w = s 3 k (j + 2 * w + 1))
  | 0, i, n + 1, s', hs, hi, _ => by
    refine ⟨s', ?_, hs, fun w hw => ⟨rfl, rfl⟩, fun _ w h1 h2 => by omega⟩
    rw [F_X9_take_3, if_pos (nI_le (by omega) (by omega))]
    rfl
  | m + 1, i, n + 1, s', hs, hi, hn => by
    have b1 : inb (nI i) 10 = true := inb_nI (by omega) (by omega)
    have b2 : inb (nI (j + 2 * i)) (lna 3) = true := inb_nI (show j + 2 * i < 80 by omega) (by decide)
    have b3 : inb (nI (j + 2 * i + 1)) (lna 3) = true := inb_nI (show j + 2 * i + 1 < 80 by omega) (by decide)
    have f1 : s' 3 k (j + 2 * i) = s 3 k (j + 2 * i) := by rw [hs 3 (by decide) (by decide)]
    have f2 : s' 3 k (j + 2 * i + 1) = s 3 k (j + 2 * i + 1) := by rw [hs 3 (by decide) (by decide)]
    rw [F_X9_take_3, if_neg (nI_ge (by omega) (by omega))]
    simp only [ix2, nI_1, gd_of b1, gd_of b2, gd_of b3, F_within, bd_so, bI_if, nI_clamp (show i < 2 ^ 31 by omega), nI_clamp (show j + 2 * i < 2 ^ 31 by omega), nI_clamp (show j + 2 * i + 1 < 2 ^ 31 by omega), gdW]
    have e1 : up s' 36 0 i (s' 3 k (j + 2 * i)) 3 k (j + 2 * i + 1) = s 3 k (j + 2 * i + 1) := f2
    rw [e1, f1]
    have e2 : up (up s' 36 0 i (s 3 k (j + 2 * i))) 37 0 i (s 3 k (j + 2 * i + 1)) 37 0 i = s 3 k (j + 2 * i + 1) := up_at
    rw [e2]
    have hs2 : ∀ t, t ≠ 36 → t ≠ 37 → up (up s' 36 0 i (s 3 k (j + 2 * i))) 37 0 i (s 3 k (j + 2 * i + 1)) t = s t := fun t h1 h2 => by
      funext x y
      rw [← hs t h1 h2]
      simp [up, h1, h2]
    have hk2 : ∀ w, w < i → up (up s' 36 0 i (s 3 k (j + 2 * i))) 37 0 i (s 3 k (j + 2 * i + 1)) 36 0 w = s' 36 0 w ∧ up (up s' 36 0 i (s 3 k (j + 2 * i))) 37 0 i (s 3 k (j + 2 * i + 1)) 37 0 w = s' 37 0 w := fun w hw => by
      have : ¬ w = i := by omega
      simp [up, this]
    by_cases q1 : bw (s 3 k (j + 2 * i)) 1 100 = true
    · rw [if_pos q1, q1, Bool.true_and]
      rw [show j + (2 * i + 1) = j + 2 * i + 1 by omega]
      by_cases q2 : bw (s 3 k (j + 2 * i + 1)) 0 100 = true
      · rw [if_pos q2, q2, Bool.true_and]
        obtain ⟨s'', g1, g2, g3, g4⟩ := X_wtake g hc hj s m (i + 1) n _ hs2 (by omega) (by omega)
        refine ⟨s'', g1, g2, fun w hw => ?_, fun hg w h1 h2 => ?_⟩
        · rw [(g3 w (by omega)).1, (g3 w (by omega)).2]
          exact hk2 w hw
        · by_cases e : w = i
          · subst e
            rw [(g3 w (by omega)).1, (g3 w (by omega)).2]
            simp [up]
          · exact g4 hg w (by omega) h2
      · have q3 : bw (s 3 k (j + 2 * i + 1)) 0 100 = false := by simpa using q2
        rw [if_neg q2, q3, Bool.false_and]
        exact ⟨_, rfl, hs2, hk2, fun q => by simp at q⟩
    · have q3 : bw (s 3 k (j + 2 * i)) 1 100 = false := by simpa using q1
      rw [if_neg q1, q3, Bool.false_and]
      exact ⟨_, rfl, hs2, hk2, fun q => by simp at q⟩
theorem in_1_100 (g : Nat × Nat) (x : Int32) (s : St) : F_X11_in g x.toInt64 (1 : Int64) (100 : Int64) s = some (bI (bw x 1 100), s) := F_in g x 1 100 s
theorem in_0_100 (g : Nat × Nat) (x : Int32) (s : St) : F_X11_in g x.toInt64 (0 : Int64) (100 : Int64) s = some (bI (bw x 0 100), s) := F_in g x 0 100 s
theorem M_wtake (g : Nat × Nat) (a1 a2 a4 a5 : Int32) (hk : Int32 → St → Option (Int32 × St)) {p c : Nat} (hp : p + 2 * c ≤ 640) (u : St) : ∀ (m i n : Nat), i + m = c → m < n → F_X11_works_83 g a1 a2 (nI c) a4 a5 hk n (nI p) (nI i) u = if gdW (fun q => u 63 0 (p + q)) i m = true then hk (nI p) u else some (-1000001, u)
  | 0, i, n + 1, hi, _ => by
    rw [F_X11_works_83, if_pos (nI_le (by omega) (by omega))]
    rfl
  | m + 1, i, n + 1, hi, hn => by
    have b2 : inb (nI (p + 2 * i)) 640 = true := inb_nI (show p + 2 * i < 640 by omega) (by decide)
    have b3 : inb (nI (p + 2 * i + 1)) 640 = true := inb_nI (show p + 2 * i + 1 < 640 by omega) (by decide)
    rw [F_X11_works_83, if_neg (nI_ge (by omega) (by omega)), ix2, gd_of b2, nI_clamp (by omega), in_1_100, bd_so, bI_if, nI_1, gd_of b3, nI_clamp (by omega), in_0_100, bd_so, bI_if, nI_1, M_wtake g a1 a2 a4 a5 hk hp u m (i + 1) n (by omega) (by omega), gdW, show p + (2 * i + 1) = p + 2 * i + 1 by omega]
    cases bw (u 63 0 (p + 2 * i)) 1 100
    · simp
    · cases bw (u 63 0 (p + 2 * i + 1)) 0 100
      · simp
      · simp
def smW (f : Nat → Int32) (st : Int32) : Nat → Nat → Int32 → Int32
  | _, 0, v => v
  | i, m + 1, v => smW f st (i + 1) m (if ((st >>> (nI i &&& 31)) &&& (1 : Int32)) = (1 : Int32) then v + f i else v)
theorem smW_congr {f h : Nat → Int32} {st : Int32} : ∀ (m i : Nat) (v : Int32), (∀ w, w < i + m → f w = h w) → smW f st i m v = smW h st i m v
  | 0, _, _, _ => rfl
  | m + 1, i, v, e => by
    rw [smW, smW, e i (by omega)]
    exact smW_congr m (i + 1) _ (fun w hw => e w (by omega))
theorem X_wsum (g : Nat × Nat) (t : Nat) (st : Int32) (s : St) {c : Nat} (hc : c ≤ 10) (ht : lna t = 10) : ∀ (m i n : Nat) (v : Int32), i + m = c → m < n → F_X9_sumOf_5 g t 0 st (nI c) n v (nI i) s = some (smW (s t 0) st i m v, s)
  | 0, i, n + 1, v, hi, _ => by
    rw [F_X9_sumOf_5, if_pos (nI_le (by omega) (by omega))]
    rfl
  | m + 1, i, n + 1, v, hi, hn => by
    have b : inb (nI i) (lna t) = true := by
      rw [ht]
      exact inb_nI (by omega) (by omega)
    rw [F_X9_sumOf_5, if_neg (nI_ge (by omega) (by omega)), gd_of b, F_X9_sumOf_28, F_X9_sumOf_28, nI_1, nI_clamp (by omega), X_wsum g t st s hc ht m (i + 1) n _ (by omega) (by omega), X_wsum g t st s hc ht m (i + 1) n _ (by omega) (by omega), smW]
    by_cases q : ((st >>> (nI i &&& 31)) &&& (1 : Int32)) = (1 : Int32)
    · rw [if_pos q, if_pos q]
    · rw [if_neg q, if_neg q]
theorem M_wsum (g : Nat × Nat) (a1 a2 a4 a5 : Int32) (hk : Int32 → Int32 → Int32 → Int32 → Int32 → Int32 → Int32 → St → Option (Int32 × St)) {p c : Nat} (hp : p + 2 * c ≤ 640) (u : St) (b cc f st : Int32) : ∀ (m i n : Nat) (v w : Int32), i + m = c → m < n → F_X11_works_180 g a1 a2 (nI c) a4 a5 hk n (nI p) b cc f st v w (nI i) u = hk (nI p) b cc f st (smW (fun q => u 63 0 (p + 2 * q)) st i m v) (smW (fun q => u 63 0 (p + 2 * q + 1)) st i m w) u
  | 0, i, n + 1, v, w, hi, _ => by
    rw [F_X11_works_180, if_pos (nI_le (by omega) (by omega))]
    rfl
  | m + 1, i, n + 1, v, w, hi, hn => by
    have b2 : inb (nI (p + 2 * i)) 640 = true := inb_nI (show p + 2 * i < 640 by omega) (by decide)
    have b3 : inb (nI (p + 2 * i + 1)) 640 = true := inb_nI (show p + 2 * i + 1 < 640 by omega) (by decide)
    rw [F_X11_works_180, if_neg (nI_ge (by omega) (by omega)), ix2, gd_of b2, nI_clamp (by omega), nI_1, gd_of b3, nI_clamp (by omega), F_X11_works_233, F_X11_works_233, nI_1, M_wsum g a1 a2 a4 a5 hk hp u b cc f st m (i + 1) n _ _ (by omega) (by omega), M_wsum g a1 a2 a4 a5 hk hp u b cc f st m (i + 1) n _ _ (by omega) (by omega), smW, smW]
    by_cases q : ((st >>> (nI i &&& 31)) &&& (1 : Int32)) = (1 : Int32)
    · rw [if_pos q, if_pos q, if_pos q]
    · rw [if_neg q, if_neg q, if_neg q]
def bsW (cs fs : Int32 → Int32) (L : Int32) : Nat → Nat → Int32 → Int32 → Int32 → Int32 × Int32 × Int32
  | _, 0, b, c, f => (b, c, f)
  | i, m + 1, b, c, f => if ¬ L < cs (nI i) ∧ (f < fs (nI i) ∨ (fs (nI i) = f ∧ ¬ c ≤ cs (nI i))) then bsW cs fs L (i + 1) m (nI i) (cs (nI i)) (fs (nI i)) else bsW cs fs L (i + 1) m b c f
def w3 (s : St) (b c f : Int32) : St := up (up (up s 35 0 2 b) 35 0 3 c) 35 0 4 f
theorem w3_w3 (s : St) (b c f b' c' f' : Int32) : up (up (up (w3 s b c f) 35 0 2 b') 35 0 3 c') 35 0 4 f' = w3 s b' c' f' := by
  funext x y z
  unfold w3 up
  by_cases h1 : x = 35
  · by_cases h2 : y = 0
    · simp only [h1, h2, if_true]
      by_cases h3 : z = 4
      · simp [h3]
      · by_cases h4 : z = 3
        · simp [h4]
        · by_cases h5 : z = 2
          · simp [h5]
          · simp [h3, h4, h5]
    · simp [h2]
  · simp [h1]
theorem X_wbest (g : Nat × Nat) (L : Int32) (s : St) {c M : Nat} (hc : c ≤ 10) (hM : M ≤ 1024) : ∀ (m i n : Nat) (b cc f : Int32), i + m = M → m < n → F_X9_choose_22 g (nI c) L n (nI M) (nI i) (w3 s b cc f) = some ((), w3 s (bsW (fun st => smW (s 36 0) st 0 c 0) (fun st => smW (s 37 0) st 0 c 0) L i m b cc f).1 (bsW (fun st => smW (s 36 0) st 0 c 0) (fun st => smW (s 37 0) st 0 c 0) L i m b cc f).2.1 (bsW (fun st => smW (s 36 0) st 0 c 0) (fun st => smW (s 37 0) st 0 c 0) L i m b cc f).2.2)
  | 0, i, n + 1, b, cc, f, hi, _ => by
    rw [F_X9_choose_22, if_pos (nI_le (by omega) (by omega))]
    rfl
  | m + 1, i, n + 1, b, cc, f, hi, hn => by
    have e1 : F_X9_sumOf g 36 0 (nI i) (nI c) (w3 s b cc f) = some (smW (s 36 0) (nI i) 0 c 0, w3 s b cc f) := X_wsum g 36 (nI i) (w3 s b cc f) hc rfl c 0 fu 0 (by omega) (lt_fu (by omega))
    have e2 : F_X9_sumOf g 37 0 (nI i) (nI c) (w3 s b cc f) = some (smW (s 37 0) (nI i) 0 c 0, w3 s b cc f) := X_wsum g 37 (nI i) (w3 s b cc f) hc rfl c 0 fu 0 (by omega) (lt_fu (by omega))
    rw [F_X9_choose_22, if_neg (nI_ge (by omega) (by omega)), e1, bd_so, e2, bd_so, show w3 s b cc f 35 0 4 = f from rfl, show w3 s b cc f 35 0 3 = cc from rfl, bsW]
    simp only [F_X9_choose_79, F_X9_choose_83, F_X9_choose_84, F_X9_choose_115, nI_1, w3_w3, X_wbest g L s hc hM m (i + 1) n _ _ _ (show i + 1 + m = M by omega) (show m < n by omega)]
    generalize smW (s 36 0) (nI i) 0 c 0 = C
    generalize smW (s 37 0) (nI i) 0 c 0 = G
    by_cases q1 : L < C
    · by_cases q2 : f < G
      · simp [q1, q2]
      · by_cases q3 : G = f
        · by_cases q4 : cc ≤ C
          · simp [q1, q3, q4]
          · simp [q1, q3, q4]
        · simp [q1, q2, q3]
    · by_cases q2 : f < G
      · simp [q1, q2]
      · by_cases q3 : G = f
        · by_cases q4 : cc ≤ C
          · simp [q3, q4]
          · simp [q1, q3, q4]
        · simp [q2, q3]
theorem M_wbest (g : Nat × Nat) (a1 a2 L a5 : Int32) (hk : Int32 → Int32 → Int32 → St → Option (Int32 × St)) (u : St) {p c M : Nat} (hp : p + 2 * c ≤ 640) (hc : c ≤ 10) (hM : M ≤ 1024) (hM2 : (1 : Int32) <<< (nI c &&& 31) = nI M) : ∀ (m i n : Nat) (b cc f : Int32), i + m = M → m < n → F_X11_works_163 g a1 a2 (nI c) L a5 hk n (nI p) b cc f (nI i) u = hk (bsW (fun st => smW (fun q => u 63 0 (p + 2 * q)) st 0 c 0) (fun st => smW (fun q => u 63 0 (p + 2 * q + 1)) st 0 c 0) L i m b cc f).1 (bsW (fun st => smW (fun q => u 63 0 (p + 2 * q)) st 0 c 0) (fun st => smW (fun q => u 63 0 (p + 2 * q + 1)) st 0 c 0) L i m b cc f).2.1 (bsW (fun st => smW (fun q => u 63 0 (p + 2 * q)) st 0 c 0) (fun st => smW (fun q => u 63 0 (p + 2 * q + 1)) st 0 c 0) L i m b cc f).2.2 u
  | 0, i, n + 1, b, cc, f, hi, _ => by
    rw [F_X11_works_163, hM2, if_pos (nI_le (by omega) (by omega))]
    rfl
  | m + 1, i, n + 1, b, cc, f, hi, hn => by
    have e1 := M_wsum g a1 a2 L a5 (F_X11_works_239 g a1 a2 (nI c) L a5 (F_X11_works_163 g a1 a2 (nI c) L a5 hk n) hk) hp u b cc f (nI i) c 0 fu 0 0 (by omega) (lt_fu (by omega))
    rw [nI_0] at e1
    rw [F_X11_works_163, hM2, if_neg (nI_ge (by omega) (by omega)), e1, bsW]
    simp only [F_X11_works_239, F_X11_works_267, F_X11_works_279, nI_1, M_wbest g a1 a2 L a5 hk u hp hc hM hM2 m (i + 1) n _ _ _ (show i + 1 + m = M by omega) (show m < n by omega)]
    generalize smW (fun q => u 63 0 (p + 2 * q)) (nI i) 0 c 0 = C
    generalize smW (fun q => u 63 0 (p + 2 * q + 1)) (nI i) 0 c 0 = G
    by_cases q1 : L < C
    · simp [q1]
    · by_cases q2 : f < G
      · simp [q1, q2]
      · by_cases q3 : G = f
        · by_cases q4 : cc ≤ C
          · simp [q1, q3, q4]
          · simp [q1, q3, q4]
        · simp [q1, q2, q3]
theorem sh1 : ∀ c : Nat, c ≤ 10 → ∃ M : Nat, 1 ≤ M ∧ M ≤ 1024 ∧ (1 : Int32) <<< (nI c &&& 31) = nI M := by
  intro c hc
  refine ⟨2 ^ c, Nat.one_le_two_pow, ?_, ?_⟩
  · exact Nat.le_trans (Nat.pow_le_pow_right (by omega) hc) (by decide)
  · have h : c = 0 ∨ c = 1 ∨ c = 2 ∨ c = 3 ∨ c = 4 ∨ c = 5 ∨ c = 6 ∨ c = 7 ∨ c = 8 ∨ c = 9 ∨ c = 10 := by omega
    rcases h with h | h | h | h | h | h | h | h | h | h | h <;> subst h <;> decide
theorem gdW_congr {f h : Nat → Int32} : ∀ (m i : Nat), (∀ w, w < 2 * (i + m) → f w = h w) → gdW f i m = gdW h i m
  | 0, _, _ => rfl
  | m + 1, i, e => by
    rw [gdW, gdW, e (2 * i) (by omega), e (2 * i + 1) (by omega), gdW_congr m (i + 1) (fun w hw => e w (by omega))]
theorem op_works {N : Nat} {g : Nat × Nat} {s u : St} (h : Rel N g s u) (a1 a2 a3 a4 a5 : Int32) : Same N g (F_X10_works g a1 a2 a3 a4 a5 s) (F_X11_works g a1 a2 a3 a4 a5 u) := by
  have hR := h.read
  unfold F_X10_works F_X11_works
  rw [F_isSheet, bd_so, bI_if, G_isSheet, bd_so, bI_if]
  by_cases q1 : bw a1 0 7 = true
  rotate_left
  · rw [if_neg q1, if_neg q1]
    exact ⟨_, _, _, rfl, rfl, hR⟩
  rw [if_pos q1, if_pos q1, F_within, bd_so, bI_if, in_1_10, bd_so, bI_if]
  by_cases q2 : bw a3 1 10 = true
  rotate_left
  · rw [if_neg q2, if_neg q2]
    exact ⟨_, _, _, rfl, rfl, hR⟩
  rw [if_pos q2, if_pos q2, F_within, bd_so, bI_if, in_0_500, bd_so, bI_if]
  by_cases q3 : bw a4 0 500 = true
  rotate_left
  · rw [if_neg q3, if_neg q3]
    exact ⟨_, _, _, rfl, rfl, hR⟩
  rw [if_pos q3, if_pos q3, F_within, bd_so, bI_if, in_0_2, bd_so, bI_if]
  by_cases q4 : bw a5 0 2 = true
  rotate_left
  · rw [if_neg q4, if_neg q4]
    exact ⟨_, _, _, rfl, rfl, hR⟩
  obtain ⟨k, hk, rfl⟩ := bw_of (n := 7) rfl q1
  obtain ⟨c, hc1, hc, rfl⟩ := bw_of1 (a := 1) (n := 10) rfl (by decide) rfl q2
  rw [if_pos q4, if_pos q4, gd_of (inb_nI (show k < 8 by omega) (by omega)), nI_clamp (show k < 2 ^ 31 by omega), show (2 : Int32) * nI c = nI (2 * c) from pk_mul 2 c]
  rcases look_same hR (show k < 8 by omega) a2 (show 2 * c < 1000 by omega) with ⟨v, hv, e1, e2⟩ | ⟨i, hi, rfl, e1, e2⟩
  · have hv0 : ¬ v = 0 := by rcases hv with q | q <;> subst q <;> decide
    rw [e1, bd_so, e2, bd_so, if_neg hv0, if_neg (neg_f v hv)]
    exact ⟨_, _, _, rfl, rfl, hR.unf v⟩
  · obtain ⟨M, hM1, hM, hM2⟩ := sh1 c hc
    have hA : ∀ w, w < 2 * c → s 3 k (i + w) = up u 60 0 0 0 63 0 (80 * k + i + w) := fun w hw => by
      rw [show 80 * k + i + w = 80 * k + (i + w) by omega]
      exact ((hR.1 k (by omega)).2.2.2 (i + w) (by omega)).symm
    obtain ⟨s2, t1, t2, t3, t4⟩ := X_wtake g hc (show i + 2 * c ≤ 80 by omega) s c 0 fu s (fun _ _ _ => rfl) (by omega) (lt_fu (by omega)) (k := k)
    have m1 := M_wtake g (nI k) (nI i) a4 a5 (F_X11_works_146 g (nI k) (nI i) (nI c) a4 a5) (show 80 * k + i + 2 * c ≤ 640 by omega) (up u 60 0 0 0) c 0 fu (by omega) (lt_fu (by omega))
    rw [nI_0] at t1 m1
    rw [e1, bd_so, e2, bd_so, if_pos rfl, if_pos (show (0 : Int32) ≤ 0 by decide), ix80, m1, gdW_congr c 0 (fun w hw => (hA w (by omega)).symm), F_X9_take, t1, bd_so, bI_if]
    have hR2 : Rel (N + 1) g s2 (up u 60 0 0 0) := hR.frX (fun t ht => t2 t (by omega) (by omega))
    by_cases q5 : gdW (fun q => s 3 k (i + q)) 0 c = true
    · have x1 := X_wbest g a4 s2 hc hM (M - 1) 1 fu 0 0 0 (by omega) (lt_fu (by omega))
      have m2 := M_wbest g (nI k) (nI i) a4 a5 (F_X11_works_285 g (nI k) (nI i) (nI c) a4 a5) (up (up u 60 0 0 0) 60 0 1 0) (show 80 * k + i + 2 * c ≤ 640 by omega) hc hM hM2 (M - 1) 1 fu 0 0 0 (by omega) (lt_fu (by omega))
      have c1 : (fun st => smW (fun q => up (up u 60 0 0 0) 60 0 1 0 63 0 (80 * k + i + 2 * q)) st 0 c 0) = (fun st => smW (s2 36 0) st 0 c 0) := by
        funext st
        refine smW_congr c 0 0 (fun w hw => ?_)
        rw [(t4 q5 w (by omega) (by omega)).1]
        exact (hA (2 * w) (by omega)).symm
      have c2 : (fun st => smW (fun q => up (up u 60 0 0 0) 60 0 1 0 63 0 (80 * k + i + 2 * q + 1)) st 0 c 0) = (fun st => smW (s2 37 0) st 0 c 0) := by
        funext st
        refine smW_congr c 0 0 (fun w hw => ?_)
        rw [(t4 q5 w (by omega) (by omega)).2]
        exact (hA (2 * w + 1) (by omega)).symm
      rw [c1, c2] at m2
      rw [if_pos q5, if_pos q5, F_X9_choose, F_X11_works_146, hM2]
      have x2 : F_X9_choose_22 g (nI c) a4 fu (nI M) 1 (up (up (up s2 35 0 2 0) 35 0 3 0) 35 0 4 0) = _ := x1
      have m3 : F_X11_works_163 g (nI k) (nI i) (nI c) a4 a5 (F_X11_works_285 g (nI k) (nI i) (nI c) a4 a5) fu (nI (80 * k + i)) 0 0 0 1 (up (up u 60 0 0 0) 60 0 1 0) = _ := m2
      rw [x2, m3, bd_so]
      generalize bsW (fun st => smW (s2 36 0) st 0 c 0) (fun st => smW (s2 37 0) st 0 c 0) a4 1 (M - 1) 0 0 0 = B
      have hR3 : Rel (N + 1) g (up (w3 s2 B.1 B.2.1 B.2.2) 0 0 10 0) (up (up u 60 0 0 0) 60 0 1 0) := by
        refine Rel.unf (hR2.frX (fun t ht => ?_)) 0
        funext x y
        have : t ≠ 35 := by omega
        simp [w3, up, this]
      unfold F_X9_tells F_X11_works_285 F_X10_unfound
      by_cases p1 : a5 = 0
      · rw [if_pos p1, if_pos p1]
        exact ⟨_, _, _, rfl, rfl, hR3⟩
      · by_cases p2 : a5 = 1
        · rw [if_neg p1, if_neg p1, if_pos p2, if_pos p2]
          exact ⟨_, _, _, rfl, rfl, hR3⟩
        · rw [if_neg p1, if_neg p1, if_neg p2, if_neg p2]
          exact ⟨_, _, _, rfl, rfl, hR3⟩
    · rw [if_neg q5, if_neg q5]
      exact ⟨_, _, _, rfl, rfl, hR2⟩
