/-! what holds in a WEEK: pieces, relief, limit, bread; EARN -/
theorem m1_lt {w : Nat} (hw : w < 2 ^ 31) : ¬ nI w < (-1 : Int32) := fun q => Int32.lt_irrefl (Int32.lt_of_lt_of_le (Int32.lt_of_le_of_lt (nI_pos' hw) q) (by decide : (-1 : Int32) ≤ 0))
theorem rule_loop (g : Nat × Nat) (s u : St) (wk wt p o : Int32) {c : Nat} (hc : c ≤ 30) (h1 : s 17 0 5 = nI c) (h2 : u 60 0 24 = nI c)
    (hm : ∀ i, i < c → (s 19 0 i = wt ↔ (u 79 0 i = p ∧ u 80 0 i = o)) ∧ (s 19 0 i = wt → s 20 0 i = u 81 0 i) ∧ u 78 0 i = s 18 0 i ∧ ∃ w : Nat, w ≤ 99 ∧ s 18 0 i = nI w) :
    ∀ (m i n n' : Nat) (lt va bs : Int32), i + m = c → m < n → m < n' → ((bs = -1000000 ∧ lt = -1 ∧ va = 0) ∨ ∃ b : Nat, b < i ∧ bs = nI b ∧ lt = s 18 0 b ∧ va = u 81 0 b) → ∃ r : Int32, F_X6_inForce_8 g wk wt n lt va (nI i) s = some (r, s) ∧ F_X11_numberFor_7 g wk p o (F_X11_numberFor_100 g wk p o) n' bs (nI i) u = some (r, u)
  | 0, i, n + 1, n' + 1, lt, va, bs, hi, _, _, hs => by
    rw [F_X6_inForce_8, F_X11_numberFor_7, h1, h2, if_pos (nI_le (by omega) (by omega)), if_pos (nI_le (by omega) (by omega))]
    unfold F_X11_numberFor_100
    rcases hs with ⟨rfl, -, rfl⟩ | ⟨b, hb, rfl, -, rfl⟩
    · rw [if_pos rfl]
      exact ⟨_, rfl, rfl⟩
    · have e : ¬ nI b = (-1000000 : Int32) := fun q => absurd (by rw [q]; decide : nI b < 0) (nI_pos (by omega))
      rw [if_neg e, gd_of (inb_nI (by omega) (by omega)), nI_clamp (by omega)]
      exact ⟨_, rfl, rfl⟩
  | m + 1, i, n + 1, n' + 1, lt, va, bs, hi, hn, hn', hs => by
    obtain ⟨m1, m2, m3, w, hw, m4⟩ := hm i (by omega)
    have hb30 : inb (nI i) 30 = true := inb_nI (by omega) (by omega)
    rw [F_X6_inForce_8, F_X11_numberFor_7, h1, h2, if_neg (nI_ge (by omega) (by omega)), if_neg (nI_ge (by omega) (by omega))]
    simp only [F_X6_inForce_67, F_X11_numberFor_53, F_X11_numberFor_54, F_X11_numberFor_85, F_X11_numberFor_90, F_X11_numberFor_92, gd_of hb30, nI_clamp (show i < 2 ^ 31 by omega), nI_1, m3, i10, if_true, if_false]
    have keep := rule_loop g s u wk wt p o hc h1 h2 hm m (i + 1) n n' lt va bs (by omega) (by omega) (by omega) (by
      rcases hs with h | ⟨b, hb, h⟩
      · exact Or.inl h
      · exact Or.inr ⟨b, by omega, h⟩)
    by_cases q1 : s 19 0 i = wt
    · have take := rule_loop g s u wk wt p o hc h1 h2 hm m (i + 1) n n' (s 18 0 i) (s 20 0 i) (nI i) (by omega) (by omega) (by omega) (Or.inr ⟨i, by omega, rfl, rfl, m2 q1⟩)
      obtain ⟨p1, p2⟩ := m1.mp q1
      rw [if_pos q1, if_pos p1, if_pos p2]
      by_cases q2 : wk < s 18 0 i
      · rw [if_pos q2, if_pos q2]
        exact keep
      · rw [if_neg q2, if_neg q2]
        rcases hs with ⟨rfl, rfl, -⟩ | ⟨b, hb, rfl, rfl, -⟩
        · rw [if_neg (by rw [m4]; exact m1_lt (by omega)), if_pos rfl]
          exact take
        · have e : ¬ nI b = (-1000000 : Int32) := fun q => absurd (by rw [q]; decide : nI b < 0) (nI_pos (by omega))
          have m3b : u 78 0 b = s 18 0 b := (hm b (by omega)).2.2.1
          rw [if_neg e, gd_of (inb_nI (show b < 30 by omega) (by omega)), nI_clamp (show b < 2 ^ 31 by omega), m3b]
          by_cases q3 : s 18 0 i < s 18 0 b
          · rw [if_pos q3, if_pos q3]
            exact keep
          · rw [if_neg q3, if_neg q3]
            exact take
    · rw [if_neg q1]
      by_cases p1 : u 79 0 i = p
      · have p2 : ¬ u 80 0 i = o := fun z => q1 (m1.mpr ⟨p1, z⟩)
        rw [if_pos p1, if_neg p2]
        exact keep
      · rw [if_neg p1]
        exact keep
/-- the numbers by which both sides ask for one rule -/
def rkey : Nat → Int32 × Int32 := fun t => match t with
  | 4 => (1, 0)
  | 5 => (2, 0)
  | 6 => (3, 0)
  | t => (0, nI t)
theorem rkey_ok {wk wh va wk' wh' of' nu' : Int32} (h : RR1 wk wh va wk' wh' of' nu') {t : Nat} (ht : t ≤ 6) : (wh = nI t ↔ (wh' = (rkey t).1 ∧ of' = (rkey t).2)) ∧ (wh = nI t → va = nu') ∧ wk' = wk ∧ ∃ w : Nat, w ≤ 99 ∧ wk = nI w := by
  obtain ⟨h1, h2, h3⟩ := h
  refine ⟨?_, ?_, h1, h2⟩
  · rcases (show t = 0 ∨ t = 1 ∨ t = 2 ∨ t = 3 ∨ t = 4 ∨ t = 5 ∨ t = 6 by omega) with rfl | rfl | rfl | rfl | rfl | rfl | rfl <;>
      rcases h3 with ⟨rfl, rfl, ⟨j, hj, rfl⟩, -⟩ | ⟨rfl, rfl, rfl, -⟩ | ⟨rfl, rfl, rfl, -⟩ | ⟨rfl, rfl, rfl, -⟩ | ⟨rfl, rfl, -, j, hj, rfl⟩ <;>
      first
        | decide
        | (rcases (show j = 0 ∨ j = 1 ∨ j = 2 ∨ j = 3 by omega) with rfl | rfl | rfl | rfl <;> decide)
  · intro q
    rcases h3 with ⟨-, -, -, e⟩ | ⟨-, -, -, e⟩ | ⟨-, -, -, e⟩ | ⟨-, -, -, e⟩ | ⟨-, rfl, -⟩
    · exact e
    · exact e
    · exact e
    · exact e
    · exact absurd q (fun z => absurd ((nI_eq (a := 7) (by omega) (by omega)).mp z) (by omega))
/-- the number of a rule in a WEEK, on both sides -/
theorem rule_same {g : Nat × Nat} {s u : St} (hH : RRu (s 17 0 5) (s 18 0) (s 19 0) (s 20 0) (u 60 0 24) (u 78 0) (u 79 0) (u 80 0) (u 81 0)) {t : Nat} (ht : t ≤ 6) (wk : Int32) : ∃ r : Int32, F_X6_inForce g wk (nI t) s = some (r, s) ∧ F_X11_numberFor g wk (rkey t).1 (rkey t).2 u = some (r, u) := by
  obtain ⟨c, hc, h1, h2, h3⟩ := hH
  obtain ⟨r, r1, r2⟩ := rule_loop g s u wk (nI t) (rkey t).1 (rkey t).2 hc h1 h2 (fun i hi => rkey_ok (h3 i hi) ht) c 0 fu fu (-1) 0 (-1000000) (by omega) (lt_fu (by omega)) (lt_fu (by omega)) (Or.inl ⟨rfl, rfl, rfl⟩)
  rw [nI_0] at r1 r2
  exact ⟨r, r1, r2⟩
theorem earn_same {g : Nat × Nat} {s u : St} (hC : RCo (s 4 0 4) (s 4 0 5) (s 4 0 13) (s 5 0) (s 6 0) (u 60 0 8) (u 60 0 9) (u 60 0 10) (u 64 0) (u 65 0)) (hH : RRu (s 17 0 5) (s 18 0) (s 19 0) (s 20 0) (u 60 0 24) (u 78 0) (u 79 0) (u 80 0) (u 81 0)) {j : Nat} (hj : j < 4) (wk : Int32) : ∃ r : Int32, F_X10_earned g (nI j) wk s = some (r, s) ∧ F_X11_earnOn g (nI j) wk u = some (r, u) := by
  obtain ⟨-, -, e1, n, hn, e2⟩ := hC.2.2.2.2.2.2 j hj
  obtain ⟨r, r1, r2⟩ := rule_same (g := g) hH (show j ≤ 6 by omega) wk
  have ek : rkey j = (0, nI j) := by
    rcases (show j = 0 ∨ j = 1 ∨ j = 2 ∨ j = 3 by omega) with rfl | rfl | rfl | rfl <;> rfl
  rw [ek] at r2
  have e50 : (50 : Int32) + nI n = nI (50 + n) := by
    show nI 50 + nI n = _
    rw [nI_add]
  have hmax : (if (1 : Int32) < nI (50 + n) then nI (50 + n) else 1) = nI (50 + n) := if_pos (nI_lt (a := 1) (by omega) (by omega))
  have hne : ne0 (nI (50 + n)) = true := by
    have : ¬ nI (50 + n) = 0 := nI_ne0 (by omega) (by omega)
    simp [ne0, this]
  unfold F_X10_earned F_X11_earnOn
  simp only [gd_of (inb_nI hj (by omega)), nI_clamp (show j < 2 ^ 31 by omega), e1, e2, e50, hmax, gd_of hne, r1, r2, bd_so]
  exact ⟨_, rfl, rfl⟩
