/-! lists: the whole call -/
def LRes (b : Nat → Nat) (L c : Nat) (s0 u0 : St) (a : Nat) (x m : Option (Int32 × St)) (h : St → Option (Int32 × St)) : Prop := (∃ (s' u' : St) (c' a' e' : Nat), x = some (1, s') ∧ m = h u' ∧ a < a' ∧ PS b L c c' s0 u0 s' u' a' e') ∨ (∃ s' u' : St, x = some (0, s') ∧ m = h u' ∧ FS c s0 u0 s' u')
theorem LRes.mono {b : Nat → Nat} {L c a a2 : Nat} {s0 u0 : St} {x m : Option (Int32 × St)} {k : St → Option (Int32 × St)} (h : LRes b L c s0 u0 a2 x m k) (ha : a ≤ a2) : LRes b L c s0 u0 a x m k := by
  rcases h with ⟨s', u', c', a', e', h1, h2, h3, h4⟩ | h
  · exact Or.inl ⟨s', u', c', a', e', h1, h2, by omega, h4⟩
  · exact Or.inr h
theorem FS.h129 (g : Nat × Nat) {c : Nat} {s0 u0 s u : St} (h : FS c s0 u0 s u) (h40 h156 : St → Option (Int32 × St)) : F_X11_lists_129 g h40 h156 u = h40 u := by
  unfold F_X11_lists_129 F_X11_lists_153
  rw [if_neg h.f.1]
theorem ll_same (g : Nat × Nat) {b : Nat → Nat} {L c w : Nat} {s0 u0 : St} (hb : ∀ i, b i < 256) (hw : w ≤ 99) (h40 h156 : St → Option (Int32 × St)) : ∀ (n n' r c' a e : Nat) (s u : St), PS b L c c' s0 u0 s u a e → r ≤ a → L + 2 ≤ n + a → L + 3 ≤ n' + a → LRes b L c s0 u0 a (F_X8_readList_67 g (F_X8_readList_41 g (F_X8_readList_61 g) (F_X8_readList_84 g) n) (F_X8_readList_61 g) (F_X8_readList_84 g) (nI w) (nI r) s) (F_X11_lists_95 g (F_X11_lists_129 g h40 h156) n' (nI w) 1 u) h40
  | 0, n', r, c', a, e, s, u, h, hr, hn, hn' => by
    have h1 := h.2.2.2.2.1.2.2.2.2.1
    have h2 := h.2.2.2.2.1.2.2.2.2.2.1
    omega
  | n + 1, n', r, c', a, e, s, u, h, hr, hn, hn' => by
    have hae := h.2.2.2.2.1.2.2.2.2.1
    have heL := h.2.2.2.2.1.2.2.2.2.2.1
    have hL := h.2.2.2.2.1.1.1
    obtain ⟨n', rfl⟩ : ∃ q, n' = q + 2 := ⟨n' - 2, by omega⟩
    rw [F_X8_readList_67, F_X11_lists_95, if_neg (show ¬ (1 : Int32) = 0 by decide)]
    rcases rd_rule g hb hw h with ⟨s', u', a', e', x1, x2, x3, x4⟩ | ⟨s', u', x1, x2, x3⟩
    · rw [x1, bd_so, if_neg (show ¬ (1 : Int32) = 0 by decide), x2, bd_so, x4.2.2.1, if_pos rfl]
      have tk := x4.2.2.2.2.1
      have hae' := tk.2.2.2.2.1
      have heL' := tk.2.2.2.2.2.1
      have hB' := tk.1
      have hL1 := tk.2.2.1
      have hK := tk.2.2.2.2.2.2.2.2.2.2.2
      rw [nI_1, F_X8_readList_41, hL1, if_neg (nI_nlt (show r + 1 ≤ L by omega) (by omega)), if_neg (show ¬ nI (r + 1) ≤ 0 from nI_nle (by omega) (by omega))]
      by_cases q : s' 23 0 4 = 3
      · obtain ⟨s2, u2, a2, e2, y1, y2, y3, y4, y5⟩ := adv g x4
        have k4 : u' 60 0 35 = 4 := by
          rcases hK with ⟨k1, k2⟩ | ⟨k1, k2, _⟩ | ⟨k1, k2, _⟩ | ⟨k1, k2, _⟩ | ⟨k1, k2, _⟩
          · rw [k1] at q
            exact absurd q (by decide)
          · rw [k1] at q
            exact absurd q (by decide)
          · rw [k1] at q
            exact absurd q (by decide)
          · exact k2
          · rw [k1] at q
            exact absurd q (by decide)
        have hw2 : F_X11_ruleOfWord g u' = some (-1000000, u') := by
          rcases rule_word g hb tk with ⟨_, e2⟩ | ⟨k1, _⟩
          · exact e2
          · rw [k1] at q
            exact absurd q (by decide)
        rw [if_pos q, F_X8_readList_61, y1, bd_so, hw2, bd_so, if_pos rfl, F_X11_lists_124, F_X11_lists_125, F_X11_lists_95, if_pos rfl, F_X11_lists_129, x4.2.2.1, if_pos rfl, k4, if_pos rfl, F_X11_lists_150, F_X11_must, if_neg (show ¬ (1 : Int32) = 0 by decide), F_X11_must_9, x4.2.2.1, if_pos rfl, y2, bd_so, bd_so, F_X11_lists_153]
        exact Or.inl ⟨s2, u2, c' + 1, a2, e2, rfl, rfl, by omega, y5⟩
      · rw [if_neg q]
        have k4 : ¬ u' 60 0 35 = 4 := by
          rcases hK with ⟨k1, k2⟩ | ⟨k1, k2, _⟩ | ⟨k1, k2, _⟩ | ⟨k1, k2, _⟩ | ⟨k1, k2, _⟩
          · rw [k2]
            decide
          · rw [k2]
            decide
          · rw [k2]
            decide
          · exact absurd k1 q
          · rw [k2]
            decide
        rcases rule_word g hb tk with ⟨e1, e2⟩ | ⟨k1, wx, wm, hw2, e1, e2⟩
        · have e3 : up (up u' 60 0 38 1) 60 0 39 (nI a') 60 0 38 = 1 := by simp [up]
          rw [F_X8_readList_67, F_X8_readRule, e1, bd_so, if_pos rfl, F_X8_faulty, bd_so, gd_of (by decide), bd_so, if_pos rfl, tk.2.2.2.2.2.2.1, e2, bd_so, if_pos rfl, F_X11_lists_124, F_X11_lists_125, F_X11_lists_95, if_pos rfl, F_X11_lists_129, x4.2.2.1, if_pos rfl, if_neg k4, F_X11_lists_150, F_X11_must, if_pos rfl, F_X11_bad, x4.2.2.1, if_pos rfl, tk.2.2.2.2.2.2.2.2.1, bd_so, F_X11_must_9, e3, if_neg (by decide), bd_so, F_X11_lists_153]
          exact Or.inr ⟨_, _, rfl, rfl, x4.bad (Or.inl rfl)⟩
        · rw [e2, bd_so, if_neg (rw_no hw2).2, F_X11_lists_125]
          exact LRes.mono (ll_same g hb hw h40 h156 n (n' + 1) (r + 1) (c' + 1) a' e' s' u' x4 (by omega) (by omega) (by omega)) (by omega)
    · rw [x1, bd_so, if_pos rfl, x2, bd_so, if_neg x3.f.1, F_X11_lists_124, F_X11_lists_125, F_X11_lists_95, if_pos rfl, x3.h129 g]
      exact Or.inr ⟨s', u', rfl, rfl, x3⟩
/-- list by list -/
theorem rl_same (g : Nat × Nat) {b : Nat → Nat} {L c : Nat} {s0 u0 : St} (hb : ∀ i, b i < 256) (h156 : St → Option (Int32 × St)) : ∀ (n n' r c' a e : Nat) (s u : St), PS b L c c' s0 u0 s u a e → r ≤ a → L + 2 ≤ n + a → L + 3 ≤ n' + a → (∃ (s' u' : St) (c' a' e' : Nat), F_X8_readInto_15 g n (nI r) s = some (1, s') ∧ F_X11_lists_40 g h156 n' u = h156 u' ∧ PS b L c c' s0 u0 s' u' a' e') ∨ (∃ s' u' : St, F_X8_readInto_15 g n (nI r) s = some (0, s') ∧ F_X11_lists_40 g h156 n' u = h156 u' ∧ FS c s0 u0 s' u')
  | 0, n', r, c', a, e, s, u, h, hr, hn, hn' => by
    have h1 := h.2.2.2.2.1.2.2.2.2.1
    have h2 := h.2.2.2.2.1.2.2.2.2.2.1
    omega
  | n + 1, n', r, c', a, e, s, u, h, hr, hn, hn' => by
    have tk := h.2.2.2.2.1
    have hae := tk.2.2.2.2.1
    have heL := tk.2.2.2.2.2.1
    have hL := tk.1.1
    have hK := tk.2.2.2.2.2.2.2.2.2.2.2
    obtain ⟨n', rfl⟩ : ∃ q, n' = q + 2 := ⟨n' - 2, by omega⟩
    rw [F_X8_readInto_15, tk.2.2.1, if_neg (nI_nlt (show r ≤ L by omega) (by omega)), F_X11_lists_40, h.2.2.1, if_pos rfl]
    by_cases q : s 23 0 4 = 0
    · have k4 : u 60 0 35 = 1 := by
        rcases hK with ⟨k1, k2⟩ | ⟨k1, k2, _⟩ | ⟨k1, k2, _⟩ | ⟨k1, k2, _⟩ | ⟨k1, k2, _⟩
        · exact k2
        · rw [k1] at q
          exact absurd q (by decide)
        · rw [k1] at q
          exact absurd q (by decide)
        · rw [k1] at q
          exact absurd q (by decide)
        · rw [k1] at q
          exact absurd q (by decide)
      rw [if_pos q, if_pos k4]
      exact Or.inl ⟨s, u, c', a, e, rfl, rfl, h⟩
    · have k4 : ¬ u 60 0 35 = 1 := by
        rcases hK with ⟨k1, k2⟩ | ⟨k1, k2, _⟩ | ⟨k1, k2, _⟩ | ⟨k1, k2, _⟩ | ⟨k1, k2, _⟩
        · exact absurd k1 q
        · rw [k2]
          decide
        · rw [k2]
          decide
        · rw [k2]
          decide
        · rw [k2]
          decide
      have bad0 : ∀ (s1 u1 : St), FS c s0 u0 s1 u1 → F_X11_lists_40 g h156 (n' + 1) u1 = h156 u1 := fun s1 u1 hf => by
        rw [F_X11_lists_40, if_neg hf.f.1]
      rw [if_neg q, if_neg k4, M_word g hb tk, bd_so, F_X8_readList, X_isWord g tk 0 (by decide), bd_so, bI_if, ifc (word_0 hb tk)]
      by_cases q1 : WX b a e (s 23 0 4) 0 = true
      · obtain ⟨s1, u1, a1, e1, t1, t2, t3, t4, t5⟩ := adv g h
        rw [if_pos q1, if_pos q1, t1, bd_so, F_X11_lists_72, F_X11_must, if_neg (show ¬ (1 : Int32) = 0 by decide), F_X11_must_9, h.2.2.1, if_pos rfl, t2, bd_so, bd_so]
        rcases num_same g t5.2.2.2.2.1 t5.2.2.1 99 with ⟨v, v1, v2, v3', v4, v5, v6⟩ | ⟨F, v, hF, v5, v6⟩
        · obtain ⟨s2, u2, a2, e2, y1, y2, y3, y4, y5⟩ := adv g t5
          have hv : v ≤ 99 := (nI_leI (b := 99) (by omega) (by omega)).mp v4
          have tk2 := y5.2.2.2.2.1
          have hae2 := tk2.2.2.2.2.1
          have heL2 := tk2.2.2.2.2.2.1
          rw [v5, bd_so, if_neg (show ¬ (1 : Int32) = 0 by decide), y1, bd_so, v3', v6, y2, bd_so, bd_so, y5.2.2.1, if_pos rfl, F_X11_lists_94]
          have hl := ll_same g hb hv (F_X11_lists_40 g h156 (n' + 1)) h156 999999 fu 0 c' a2 e2 s2 u2 y5 (by omega) (by omega) (by show L + 3 ≤ 1000000 + a2; omega)
          rw [nI_0] at hl
          have hx : F_X8_readList_41 g (F_X8_readList_61 g) (F_X8_readList_84 g) fu (nI v) 0 s2 = F_X8_readList_67 g (F_X8_readList_41 g (F_X8_readList_61 g) (F_X8_readList_84 g) 999999) (F_X8_readList_61 g) (F_X8_readList_84 g) (nI v) 0 s2 := by
            rw [show fu = 999999 + 1 from rfl, F_X8_readList_41, tk2.2.2.1, if_neg (nI_pos (by omega)), if_pos (show (0 : Int32) ≤ 0 by decide)]
          rw [hx]
          rcases hl with ⟨s3, u3, c3, a3, e3, z1, z2, z3, z4⟩ | ⟨s3, u3, z1, z2, z3⟩
          · rw [z1, bd_so, if_neg (show ¬ (1 : Int32) = 0 by decide), z2, nI_1]
            exact rl_same g hb h156 n (n' + 1) (r + 1) c3 a3 e3 s3 u3 z4 (by omega) (by omega) (by omega)
          · rw [z1, bd_so, if_pos rfl, z2, bad0 s3 u3 z3]
            exact Or.inr ⟨s3, u3, rfl, rfl, z3⟩
        · have hf := t5.bad (show F = 1 ∨ F = 2 ∨ F = 3 by rcases hF with q | q <;> simp [q])
          rw [v5, bd_so, if_pos rfl, bd_so, if_pos rfl, v6, bd_so, if_neg hf.f.1, F_X11_lists_94, show fu = 999999 + 1 from rfl, F_X11_lists_95, if_pos rfl, hf.h129 g, bad0 _ _ hf]
          exact Or.inr ⟨_, _, rfl, rfl, hf⟩
      · have hf := h.bad (F := 1) (Or.inl rfl)
        have e3 : up (up u 60 0 38 1) 60 0 39 (nI a) 60 0 38 = 1 := by simp [up]
        rw [if_neg q1, if_neg q1, F_X8_faulty, bd_so, gd_of (by decide), bd_so, if_pos rfl, tk.2.2.2.2.2.2.1, F_X11_lists_72, F_X11_must, if_pos rfl, F_X11_bad, h.2.2.1, if_pos rfl, tk.2.2.2.2.2.2.2.2.1, bd_so, F_X11_must_9, e3, if_neg (by decide), bd_so, hf.num g 99, bd_so, if_neg hf.f.1, F_X11_lists_94, show fu = 999999 + 1 from rfl, F_X11_lists_95, if_pos rfl, hf.h129 g, bad0 _ _ hf]
        exact Or.inr ⟨_, _, rfl, rfl, hf⟩
theorem Rel.lists {N : Nat} {g : Nat × Nat} {s u s' u' : St} (h : Rel N g s u) (hs : ∀ t, t ≠ 17 → t ≠ 18 → t ≠ 19 → t ≠ 20 → t ≠ 23 → s' t = s t) (hu : ∀ t, t ≠ 60 → t ≠ 78 → t ≠ 79 → t ≠ 80 → t ≠ 81 → u' t = u t) (hj : ∀ j, j ≠ 24 → j ≠ 29 → j < 31 ∨ 39 < j → u' 60 0 j = u 60 0 j) (hRu : RRu (s' 17 0 5) (s' 18 0) (s' 19 0) (s' 20 0) (u' 60 0 24) (u' 78 0) (u' 79 0) (u' 80 0) (u' 81 0)) (hTa : RTa (s' 23 0 1) (s' 24 0) (s' 23 0 2) (u' 60 0 31) (u' 82 0) (u' 60 0 32)) : Rel N g s' u' := by
  obtain ⟨hA, hB, hC, hD, hE, hF, hG, hH, hI, hJ, hK, hL, hM⟩ := h
  have x : ∀ t, t < 17 ∨ (23 < t ∧ t < 60) → s' t = s t := fun t ht => hs t (by omega) (by omega) (by omega) (by omega) (by omega)
  have m : ∀ t, (60 < t ∧ t < 78) ∨ 81 < t → u' t = u t := fun t ht => hu t (by omega) (by omega) (by omega) (by omega) (by omega)
  have j : ∀ j, j < 24 ∨ 39 < j → u' 60 0 j = u 60 0 j := fun q hq => hj q (by omega) (by omega) (by omega)
  refine ⟨?_, ?_, ?_, ?_, ?_, ?_, ?_, hRu, hTa, ?_, ?_, ?_, ?_⟩
  · rw [x 2 (by omega), x 3 (by omega), m 61 (by omega), m 62 (by omega), m 63 (by omega)]
    exact hA
  · rw [x 0 (by omega), j 1 (by omega)]
    exact hB
  · rw [x 4 (by omega), x 5 (by omega), x 6 (by omega), j 8 (by omega), j 9 (by omega), j 10 (by omega), m 64 (by omega), m 65 (by omega)]
    exact hC
  · rw [x 7 (by omega), x 15 (by omega), m 66 (by omega), m 74 (by omega)]
    exact hD
  · rw [x 4 (by omega), x 8 (by omega), m 77 (by omega)]
    exact hE
  · rw [x 4 (by omega), x 9 (by omega), x 10 (by omega), x 11 (by omega), x 12 (by omega), j 11 (by omega), m 67 (by omega), m 68 (by omega), m 69 (by omega)]
    exact hF
  · rw [x 4 (by omega), x 14 (by omega), x 16 (by omega), j 15 (by omega), m 70 (by omega), m 71 (by omega), m 72 (by omega), m 73 (by omega), m 75 (by omega), m 76 (by omega)]
    exact hG
  · rw [x 0 (by omega), x 26 (by omega), x 27 (by omega), j 42 (by omega), m 84 (by omega)]
    exact hJ
  · rw [x 38 (by omega), x 39 (by omega), x 40 (by omega), x 41 (by omega), j 47 (by omega), m 88 (by omega), m 89 (by omega), m 90 (by omega)]
    exact hK
  · rw [x 38 (by omega), x 42 (by omega), j 56 (by omega), m 94 (by omega)]
    exact hL
  · rw [x 43 (by omega), x 44 (by omega), x 45 (by omega), x 46 (by omega), j 51 (by omega), m 91 (by omega), m 92 (by omega), m 93 (by omega)]
    exact hM
theorem op_lists {N : Nat} {g : Nat × Nat} {s u : St} (h : Rel N g s u) : Same N g (F_X10_lists g s) (F_X11_lists g u) := by
  have hR := h.read
  obtain ⟨c, hc, hc1, hc2, hc3⟩ := hR.2.2.2.2.2.2.2.1
  obtain ⟨L, hL, hL1, hL2, hL3, hL4⟩ := hR.2.2.2.2.2.2.2.2.1
  have hb : ∃ b : Nat → Nat, (∀ i, b i < 256) ∧ BY b L (s 24 0) ∧ BY b L (u 82 0) := by
    refine ⟨fun i => if i < L then (s 24 0 i).toNatClampNeg else 0, fun i => ?_, ⟨hL, fun i hi => ?_⟩, ⟨hL, fun i hi => ?_⟩⟩
    · by_cases q : i < L
      · obtain ⟨_, x, hx, e⟩ := hL4 i q
        simp only [if_pos q, e, nI_clamp (show x < 2 ^ 31 by omega)]
        exact hx
      · simp only [if_neg q]
        omega
    · obtain ⟨_, x, hx, e⟩ := hL4 i hi
      simp only [if_pos hi, e, nI_clamp (show x < 2 ^ 31 by omega)]
      exact ⟨trivial, hx⟩
    · obtain ⟨e0, x, hx, e⟩ := hL4 i hi
      have e0' : u 82 0 i = s 24 0 i := e0
      rw [e0']
      simp only [if_pos hi, e, nI_clamp (show x < 2 ^ 31 by omega)]
      exact ⟨trivial, hx⟩
  obtain ⟨b, hb, hB, hC⟩ := hb
  unfold F_X10_lists F_X11_lists F_X8_readInto F_X6_stageNone
  have e31 : u 60 0 31 = nI L := hL2
  have e24 : u 60 0 24 = nI c := hc2
  obtain ⟨s1, u1, a1, e1, t1, t2, t3, t4, t5⟩ := tok_same g (b := b) (L := L) (e := 0) (s := up (up s 17 0 6 (s 17 0 5)) 23 0 6 0) (u := up (up (up (up (up (up u 60 0 0 0) 60 0 33 (u 60 0 31)) 60 0 31 0) 60 0 34 0) 60 0 38 0) 60 0 29 (u 60 0 24)) hB hC (by simpa [up] using hL1) (by simpa [up] using e31) (by omega) (by simp [up, nI_0]) (by simp [up, nI_0])
  have p : PS b L c c s (up (up u 60 0 0 0) 60 0 31 0) s1 u1 a1 e1 := by
    refine ⟨⟨fun t k1 k2 k3 k4 k5 => ?_, ?_, ?_⟩, ⟨fun t k1 k2 k3 k4 k5 => ?_, fun j k1 k2 => ?_⟩, ?_, ?_, t5, Nat.le_refl _, hc, ?_, ?_, fun i hi => ?_⟩
    · rw [t3.1 t k5]
      funext x y
      simp [up, k1, k5]
    · rw [t3.1 17 (by decide)]
      simp [up]
    · rw [t3.2.1 1 (by omega)]
      simp [up]
    · rw [t3.2.2.1 t k1]
      funext x y
      simp [up, k1]
    · rw [t3.2.2.2 j (by omega)]
      have e1 : ¬ j = 33 := by omega
      have e2 : ¬ j = 34 := by omega
      have e3 : ¬ j = 38 := by omega
      simp [up, k1, e1, e2, e3]
    · rw [t3.2.2.2 38 (by omega)]
      simp [up]
    · rw [t3.2.1 2 (by omega)]
      simp [up]
    · rw [t3.1 17 (by decide)]
      simpa [up] using hc1
    · rw [t3.2.2.2 29 (by omega)]
      simpa [up] using e24
    · rw [t3.1 18 (by decide), t3.1 19 (by decide), t3.1 20 (by decide), t3.2.2.1 78 (by decide), t3.2.2.1 79 (by decide), t3.2.2.1 80 (by decide), t3.2.2.1 81 (by decide)]
      exact hc3 i hi
  have m0 : F_X11_next g (up (up (up (up (up (up u 60 0 0 0) 60 0 33 (up u 60 0 0 0 60 0 31)) 60 0 31 0) 60 0 34 0) 60 0 38 0) 60 0 29 (up (up (up (up (up u 60 0 0 0) 60 0 33 (up u 60 0 0 0 60 0 31)) 60 0 31 0) 60 0 34 0) 60 0 38 0 60 0 24)) = some ((), u1) := t2
  rw [bd_so, t1, bd_so]
  have hae := t5.2.2.2.2.1
  have heL := t5.2.2.2.2.2.1
  have hl := rl_same g hb (F_X11_lists_156 g) fu fu 0 c a1 e1 s1 u1 p (by omega) (by show L + 2 ≤ 1000000 + a1; omega) (by show L + 3 ≤ 1000000 + a1; omega)
  rw [nI_0] at hl
  have mm : ∀ r : Option (Int32 × St), F_X11_lists_40 g (F_X11_lists_156 g) fu u1 = r → (bd (F_X11_next g (up (up (up (up (up (up u 60 0 0 0) 60 0 33 (u 60 0 31)) 60 0 31 0) 60 0 34 0) 60 0 38 0) 60 0 29 (u 60 0 24))) fun r37 s37 => F_X11_lists_40 g (F_X11_lists_156 g) fu s37) = r := fun r hr => by
    rw [t2, bd_so, hr]
  rcases hl with ⟨s', u', c', a', e', z1, z2, z3⟩ | ⟨s', u', z1, z2, z3⟩
  · rw [z1, bd_so, if_neg (show ¬ (1 : Int32) = 0 by decide), F_X6_keepStaged, bd_so]
    obtain ⟨f1, f2, f3, f4, tk, r1, r2, r3, r4, r5⟩ := z3
    refine ⟨nI c', up (up s' 23 0 1 0) 17 0 5 (up s' 23 0 1 0 17 0 6), up u' 60 0 24 (nI c'), ?_, mm _ ?_, ?_⟩
    · rw [show up (up s' 23 0 1 0) 17 0 5 (up s' 23 0 1 0 17 0 6) 17 0 5 = nI c' by simpa [up] using r3]
    · rw [z2, F_X11_lists_156, f3, if_pos (show (0 : Int32) ≤ 0 by decide), r4]
    · refine hR.lists (fun t k1 k2 k3 k4 k5 => ?_) (fun t k1 k2 k3 k4 k5 => ?_) (fun j k1 k2 k3 => ?_) ?_ ?_
      · rw [← f1.1 t k1 k2 k3 k4 k5]
        funext x y
        simp [up, k1, k5]
      · have := f2.1 t k1 k2 k3 k4 k5
        rw [show up (up u 60 0 0 0) 60 0 31 0 t = up u 60 0 0 0 t by funext x y; simp [up, k1]] at this
        rw [← this]
        funext x y
        simp [up, k1]
      · have e1 : ¬ j = 31 := by omega
        have := f2.2 j k2 (by omega)
        rw [show up (up u 60 0 0 0) 60 0 31 0 60 0 j = up u 60 0 0 0 60 0 j by simp [up, e1]] at this
        rw [← this]
        simp [up, k1]
      · refine ⟨c', r2, ?_, up_at, fun i hi => r5 i hi⟩
        simpa [up] using r3
      · refine ⟨0, by omega, ?_, ?_, ?_, fun i hi => by omega⟩
        · simp [up, nI_0]
        · have := f2.2 31 (by decide) (by omega)
          simpa [up, nI_0] using this
        · have e1 := f2.2 32 (by decide) (by omega)
          have e2 : u 60 0 32 = s 23 0 2 := hL3
          rw [show up u' 60 0 24 (nI c') 60 0 32 = u' 60 0 32 from rfl, e1]
          show u 60 0 32 = s' 23 0 2
          rw [e2, f4]
  · rw [z1, bd_so, if_pos rfl]
    have z30 := z3.f
    obtain ⟨f1, f2, ⟨F, hF, a, ha, h2, h3, h4, h5⟩, r5⟩ := z3
    refine ⟨-1000100 - nI a, up s' 23 0 1 0, up u' 60 0 32 F, ?_, mm _ ?_, ?_⟩
    · rw [h4]
    · rw [z2, F_X11_lists_156, if_neg z30.2, h5, h2]
    · refine hR.lists (fun t k1 k2 k3 k4 k5 => ?_) (fun t k1 k2 k3 k4 k5 => ?_) (fun j k1 k2 k3 => ?_) ?_ ?_
      · rw [← f1.1 t k1 k2 k3 k4 k5]
        funext x y
        simp [up, k5]
      · have := f2.1 t k1 k2 k3 k4 k5
        rw [show up (up u 60 0 0 0) 60 0 31 0 t = up u 60 0 0 0 t by funext x y; simp [up, k1]] at this
        rw [← this]
        funext x y
        simp [up, k1]
      · have e1 : ¬ j = 31 := by omega
        have e2 : ¬ j = 32 := by omega
        have := f2.2 j k2 (by omega)
        rw [show up (up u 60 0 0 0) 60 0 31 0 60 0 j = up u 60 0 0 0 60 0 j by simp [up, e1]] at this
        rw [← this]
        simp [up, e2]
      · refine ⟨c, hc, ?_, ?_, fun i hi => r5 i hi⟩
        · rw [← hc1]
          exact f1.2.1
        · have := f2.2 24 (by decide) (by omega)
          rw [show up u' 60 0 32 F 60 0 24 = u' 60 0 24 from rfl, this]
          exact e24
      · refine ⟨0, by omega, ?_, ?_, ?_, fun i hi => by omega⟩
        · simp [up, nI_0]
        · have := f2.2 31 (by decide) (by omega)
          simpa [up, nI_0] using this
        · show up u' 60 0 32 F 60 0 32 = s' 23 0 2
          rw [up_at, h3]
