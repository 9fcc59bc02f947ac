/-! the reference's findFirst -/
def orr (f : Nat → Int32) : Nat → Int32
  | 0 => 0
  | n + 1 => orr f n ||| ((1 : Int32) <<< (f n &&& 31))
theorem orr_congr {f h : Nat → Int32} : ∀ n : Nat, (∀ i, i < n → f i = h i) → orr f n = orr h n
  | 0, _ => rfl
  | n + 1, e => by rw [orr, orr, orr_congr n (fun i hi => e i (by omega)), e n (by omega)]
theorem bit_or : ∀ S : Fin 16, ∀ j : Fin 4, (∃ S' : Fin 16, nI S.val ||| ((1 : Int32) <<< (nI j.val &&& 31)) = nI S'.val) ∧ ∀ q : Fin 4, (((nI S.val ||| ((1 : Int32) <<< (nI j.val &&& 31))) >>> (nI q.val &&& 31)) &&& 1 = 0 ↔ ((nI S.val >>> (nI q.val &&& 31)) &&& 1 = 0 ∧ ¬ q.val = j.val)) := by decide
def FI (R : Nat → Nat) (u0 : St) (T : Nat) (v : Int32) (u : St) : Prop :=
  (∀ t, t ≠ 83 → t ≠ 60 → u t = u0 t) ∧ (∀ j, j ≠ 40 → u 60 0 j = u0 60 0 j) ∧ u 60 0 40 = nI (rkC R T) ∧
  (∀ i, i < rkC R T → ∃ q : Nat, q < 4 ∧ u 83 0 i = nI q ∧ R q < T ∧ rkC R (R q) = i) ∧ (∃ S : Nat, S < 16 ∧ v = nI S) ∧
  (∀ q : Nat, q < 4 → ((v >>> (nI q &&& 31)) &&& 1 = 0 ↔ ¬ R q < T)) ∧ v = orr (u 83 0) (rkC R T)
theorem FI.jump {R : Nat → Nat} {u0 : St} {T T' : Nat} {v : Int32} {u : St} (h : FI R u0 T v u) (hT : T ≤ T') (hn : ∀ q, q < 4 → ¬ (T ≤ R q ∧ R q < T')) : FI R u0 T' v u := by
  have e : rkC R T' = rkC R T := cnB_congr 4 (fun i hi => by
    have := hn i hi
    by_cases z : R i < T
    · simp [z, Nat.lt_of_lt_of_le z hT]
    · simp only [z, decide_false, decide_eq_false_iff_not]
      omega)
  obtain ⟨h1, h2, h3, h4, h5, h6, h7⟩ := h
  unfold FI
  rw [e]
  refine ⟨h1, h2, h3, fun i hi => ?_, h5, fun q hq => ?_, h7⟩
  · obtain ⟨q, q1, q2, q3, q4⟩ := h4 i hi
    exact ⟨q, q1, q2, by omega, q4⟩
  · rw [h6 q hq]
    have := hn q hq
    constructor
    · intro z y
      exact this ⟨by omega, y⟩
    · intro z y
      exact z (by omega)
theorem FI.take {R : Nat → Nat} {u0 : St} {T j : Nat} {v : Int32} {u : St} (h : FI R u0 T v u) (hj : j < 4) (hR : R j = T) (hu : ∀ q, q < 4 → R q = T → q = j) : FI R u0 (T + 1) (v ||| ((1 : Int32) <<< (nI j &&& 31))) (up (up u 83 0 (rkC R T) (nI j)) 60 0 40 (nI (rkC R T) + 1)) := by
  have e : rkC R (T + 1) = rkC R T + 1 := cnB_one (j := j) 4 (fun i hi z => by
    have : ¬ R i = T := fun y => z (hu i hi y)
    by_cases y : R i < T
    · simp [y, Nat.lt_succ_of_lt y]
    · simp only [y, decide_false]
      symm
      rw [decide_eq_false_iff_not]
      omega) (by rw [decide_eq_false_iff_not]; omega) (by rw [decide_eq_true_eq]; omega) hj
  obtain ⟨h1, h2, h3, h4, ⟨S, hS, h5⟩, h6, h7⟩ := h
  obtain ⟨⟨S', b1⟩, b2⟩ := bit_or ⟨S, hS⟩ ⟨j, hj⟩
  unfold FI
  rw [e]
  refine ⟨fun t t1 t2 => ?_, fun i hi => ?_, ?_, fun i hi => ?_, ⟨S'.val, S'.isLt, ?_⟩, fun q hq => ?_, ?_⟩
  · rw [← h1 t t1 t2]
    funext b c
    simp [up, t1, t2]
  · rw [← h2 i hi]
    simp [up, hi]
  · rw [nI_1]
    simp [up]
  · by_cases z : i = rkC R T
    · subst z
      exact ⟨j, hj, by simp [up], by omega, by rw [hR]⟩
    · obtain ⟨q, q1, q2, q3, q4⟩ := h4 i (by omega)
      exact ⟨q, q1, by simpa [up, z] using q2, by omega, q4⟩
  · rw [h5]
    exact b1
  · have b3 := b2 ⟨q, hq⟩
    rw [h5]
    rw [h5] at h6
    refine b3.trans ?_
    have h8 := h6 q hq
    constructor
    · rintro ⟨z1, z2⟩ y
      have := h8.mp z1
      exact z2 (hu q hq (by omega))
    · intro z
      refine ⟨h8.mpr (by omega), fun y => z ?_⟩
      have y' : q = j := y
      subst y'
      omega
  · rw [orr]
    have z : orr ((up (up u 83 0 (rkC R T) (nI j)) 60 0 40 (nI (rkC R T) + 1)) 83 0) (rkC R T) = orr (u 83 0) (rkC R T) := orr_congr _ (fun i hi => by
      have : i ≠ rkC R T := by omega
      simp [up, this])
    rw [z, ← h7]
    have z2 : (up (up u 83 0 (rkC R T) (nI j)) 60 0 40 (nI (rkC R T) + 1)) 83 0 (rkC R T) = nI j := by simp [up]
    rw [z2]
theorem M_first_in (g : Nat × Nat) (w : Nat) (hw : w ≤ 99) (u0 : St) (wt wk vl : Nat → Int32) {c : Nat} (hr : RuN c wt wk vl) (h2 : u0 60 0 24 = nI c)
    (hu : ∀ r, r < c → (u0 79 0 r = 4 ↔ wt r = 7) ∧ u0 78 0 r = wk r ∧ (wt r = 7 → u0 80 0 r = vl r)) (R : Nat → Nat) (eR : R = fun q => rkN wt wk vl w q c) (k : Int32 → Int32 → St → Option (Int32 × St)) {at' : Nat} (hat : at' ≤ w) :
    ∀ (m i n : Nat) (v : Int32) (u : St), i + m = c → m < n → FI R u0 (at' * 30 + i) v u → ∃ v' u', F_X11_findFirst_17 g (nI w) k n v (nI at') (nI i) u = k v' (nI at') u' ∧ FI R u0 (at' * 30 + c) v' u'
  | 0, i, n + 1, v, u, hi, _, hI => by
    have hc := hr.1
    have : i = c := by omega
    subst this
    rw [F_X11_findFirst_17, hI.2.1 24 (by decide), h2, if_pos (nI_le (Nat.le_refl _) (by omega))]
    exact ⟨v, u, rfl, hI⟩
  | m + 1, i, n + 1, v, u, hi, hn, hI => by
    have hc := hr.1
    obtain ⟨i1, i2, i3, i4, i5, i6, i7⟩ := id hI
    have hb : inb (nI i) 30 = true := inb_nI (by omega) (by omega)
    obtain ⟨u1, u2, u3⟩ := hu i (by omega)
    obtain ⟨⟨w', hw', e3⟩, h7⟩ := hr.2 i (by omega)
    rw [F_X11_findFirst_17, i2 24 (by decide), h2, if_neg (nI_ge (by omega) (by omega))]
    simp only [gd_of hb, nI_clamp (show i < 2 ^ 31 by omega), F_X11_findFirst_100, nI_1]
    rw [i1 79 (by decide) (by decide), i1 78 (by decide) (by decide), i1 80 (by decide) (by decide), u2]
    have only : ∀ q, q < 4 → R q = at' * 30 + i → wt i = 7 ∧ wk i = nI at' ∧ vl i = nI q := fun q hq z => by
      rw [eR] at z
      rcases rk_big hr w q c (Nat.le_refl _) with y | ⟨r, y1, y2, y3, y4, y5⟩
      · have z' : rkN wt wk vl w q c = at' * 30 + i := z
        omega
      · obtain ⟨⟨w2, hw2, e4⟩, -⟩ := hr.2 r y1
        rw [e4, nI_clamp (by omega)] at y5
        have z' : rkN wt wk vl w q c = at' * 30 + i := z
        have : r = i := by omega
        subst this
        have : w2 = at' := by omega
        subst this
        exact ⟨y2, e4, y4⟩
    have skip : (∀ q, q < 4 → ¬ R q = at' * 30 + i) → ∃ v' u', F_X11_findFirst_17 g (nI w) k n v (nI at') (nI (i + 1)) u = k v' (nI at') u' ∧ FI R u0 (at' * 30 + c) v' u' := fun z =>
      M_first_in g w hw u0 wt wk vl hr h2 hu R eR k hat m (i + 1) n v u (by omega) (by omega) (hI.jump (T' := at' * 30 + (i + 1)) (by omega) (fun q hq y => z q hq (by omega)))
    by_cases q1 : u0 79 0 i = 4
    · rw [if_pos q1]
      by_cases q2 : wk i = nI at'
      · rw [if_pos q2]
        obtain ⟨j, hj, e4⟩ := h7 (u1.mp q1)
        rw [u3 (u1.mp q1), e4]
        have hle : R j ≤ at' * 30 + i := by
          rw [eR]
          have := rk_le (wt := wt) (wk := wk) (vl := vl) w j c i (by omega) (u1.mp q1) (by rw [q2]; exact nI_le hat (by omega)) e4
          rw [q2, nI_clamp (by omega)] at this
          exact this
        by_cases q3 : (v >>> (nI j &&& 31)) &&& 1 = 0
        · have hRj : R j = at' * 30 + i := by
            have := (i6 j hj).mp q3
            omega
          have hlt : rkC R (at' * 30 + i) < 4 := by
            rw [← hRj]
            exact rkC_4 hj
          rw [if_pos q3, i3, gd_of (inb_nI hlt (by omega)), nI_clamp (by omega)]
          exact M_first_in g w hw u0 wt wk vl hr h2 hu R eR k hat m (i + 1) n _ _ (by omega) (by omega) (hI.take hj hRj (fun q hq z => (nI_eq (by omega) (by omega)).mp ((only q hq z).2.2.symm.trans e4)))
        · rw [if_neg q3]
          refine skip (fun q hq z => ?_)
          have y : q = j := (nI_eq (by omega) (by omega)).mp ((only q hq z).2.2.symm.trans e4)
          subst y
          exact q3 ((i6 q hq).mpr (by omega))
      · rw [if_neg q2]
        exact skip (fun q hq z => q2 (only q hq z).2.1)
    · rw [if_neg q1]
      exact skip (fun q hq z => q1 (u1.mpr (only q hq z).1))
theorem M_first_out (g : Nat × Nat) (w : Nat) (hw : w ≤ 99) (u0 : St) (wt wk vl : Nat → Int32) {c : Nat} (hr : RuN c wt wk vl) (h2 : u0 60 0 24 = nI c)
    (hu : ∀ r, r < c → (u0 79 0 r = 4 ↔ wt r = 7) ∧ u0 78 0 r = wk r ∧ (wt r = 7 → u0 80 0 r = vl r)) (R : Nat → Nat) (eR : R = fun q => rkN wt wk vl w q c) :
    ∀ (m i n : Nat) (v : Int32) (u : St), i + m = w + 1 → m < n → FI R u0 (i * 30) v u → ∃ v' u', F_X11_findFirst_9 g (nI w) n v (nI i) u = some (v', u') ∧ FI R u0 ((w + 1) * 30) v' u'
  | 0, i, n + 1, v, u, hi, _, hI => by
    have : i = w + 1 := by omega
    subst this
    rw [F_X11_findFirst_9, if_pos (nI_lt (by omega) (by omega))]
    exact ⟨v, u, rfl, hI⟩
  | m + 1, i, n + 1, v, u, hi, hn, hI => by
    have hc := hr.1
    obtain ⟨v1, u1, e1, e2⟩ := M_first_in g w hw u0 wt wk vl hr h2 hu R eR (F_X11_findFirst_106 g (nI w) (F_X11_findFirst_9 g (nI w) n)) (at' := i) (by omega) c 0 fu v u (by omega) (lt_fu (by omega)) hI
    rw [nI_0] at e1
    rw [F_X11_findFirst_9, if_neg (nI_nlt (by omega) (by omega)), e1, F_X11_findFirst_106, nI_1]
    refine M_first_out g w hw u0 wt wk vl hr h2 hu R eR m (i + 1) n v1 u1 (by omega) (by omega) (e2.jump (by omega) (fun q hq z => ?_))
    rw [eR] at z
    rcases rk_big hr w q c (Nat.le_refl _) with y | ⟨r, y1, y2, y3, y4, y5⟩
    · have z' : rkN wt wk vl w q c < (i + 1) * 30 := z.2
      omega
    · obtain ⟨⟨w2, hw2, e4⟩, -⟩ := hr.2 r y1
      rw [e4, nI_clamp (by omega)] at y5
      have z1 : i * 30 + c ≤ rkN wt wk vl w q c := z.1
      have z2 : rkN wt wk vl w q c < (i + 1) * 30 := z.2
      omega
/-- both sides, told together -/
theorem first_same {g : Nat × Nat} {s u : St} (hH : RRu (s 17 0 5) (s 18 0) (s 19 0) (s 20 0) (u 60 0 24) (u 78 0) (u 79 0) (u 80 0) (u 81 0)) {w : Nat} (hw : w ≤ 99) : ∃ (R : Nat → Nat) (v : Int32) (s' u' : St),
    F_X6_orderGoods g (nI w) s = some (nI (rkC R 1000000), s') ∧ F_X11_findFirst g (nI w) u = some (v, u') ∧ (∀ t, t ≠ 21 → t ≠ 22 → s' t = s t) ∧ (∀ q, q < 4 → s' 21 0 (rkC R (R q)) = nI q) ∧ FI R u 1000000 v u' ∧ (∀ q, q < 4 → R q = 1000000 + q ∨ R q < 1000000) ∧ (∀ q q', q < 4 → q' < 4 → R q = R q' → q = q') := by
  obtain ⟨c, hc, h1, h2, h3⟩ := hH
  have hr : RuN c (s 19 0) (s 18 0) (s 20 0) := ⟨hc, fun r hr => by
    obtain ⟨-, e2, e3⟩ := h3 r hr
    refine ⟨e2, fun z => ?_⟩
    rcases e3 with ⟨-, e, ⟨j, hj, e4⟩, -⟩ | ⟨-, e, -⟩ | ⟨-, e, -⟩ | ⟨-, e, -⟩ | ⟨-, e, e4, j, hj, e5⟩
    · rw [e, e4] at z
      exact absurd ((nI_eq (b := 7) (by omega) (by omega)).mp z) (by omega)
    · rw [e] at z
      exact absurd z (by decide)
    · rw [e] at z
      exact absurd z (by decide)
    · rw [e] at z
      exact absurd z (by decide)
    · exact ⟨j, hj, e4.trans e5⟩⟩
  have hu : ∀ r, r < c → (u 79 0 r = 4 ↔ s 19 0 r = 7) ∧ u 78 0 r = s 18 0 r ∧ (s 19 0 r = 7 → u 80 0 r = s 20 0 r) := fun r hr => by
    obtain ⟨e1, -, e3⟩ := h3 r hr
    rcases e3 with ⟨e0, e, ⟨j, hj, e4⟩, -⟩ | ⟨e0, e, -⟩ | ⟨e0, e, -⟩ | ⟨e0, e, -⟩ | ⟨e0, e, e4, -⟩
    · have z : ¬ s 19 0 r = 7 := fun z => by
        rw [e, e4] at z
        exact absurd ((nI_eq (b := 7) (by omega) (by omega)).mp z) (by omega)
      exact ⟨⟨fun y => by rw [e0] at y; exact absurd y (by decide), fun y => absurd y z⟩, e1, fun y => absurd y z⟩
    · rw [e0, e]
      exact ⟨by decide, e1, fun y => absurd y (by decide)⟩
    · rw [e0, e]
      exact ⟨by decide, e1, fun y => absurd y (by decide)⟩
    · rw [e0, e]
      exact ⟨by decide, e1, fun y => absurd y (by decide)⟩
    · rw [e0, e]
      exact ⟨by decide, e1, fun _ => e4.symm⟩
  obtain ⟨s', x1, x2, x3⟩ := X_orderGoods g w s h1 hr _ rfl
  have hR1 : ∀ q, q < 4 → rkN (s 19 0) (s 18 0) (s 20 0) w q c = 1000000 + q ∨ rkN (s 19 0) (s 18 0) (s 20 0) w q c < (w + 1) * 30 := fun q hq => by
    rcases rk_big hr w q c (Nat.le_refl _) with y | ⟨r, y1, y2, y3, y4, y5⟩
    · exact Or.inl y
    · obtain ⟨⟨w2, hw2, e4⟩, -⟩ := hr.2 r y1
      rw [e4] at y3
      have := (nI_leI (by omega) (by omega)).mp y3
      rw [e4, nI_clamp (by omega)] at y5
      exact Or.inr (by omega)
  have h0 : FI (fun q => rkN (s 19 0) (s 18 0) (s 20 0) w q c) u (0 * 30) 0 (up u 60 0 40 0) := by
    have z : rkC (fun q => rkN (s 19 0) (s 18 0) (s 20 0) w q c) (0 * 30) = 0 := by
      unfold rkC
      simp [cnB]
    unfold FI
    rw [z]
    refine ⟨fun t t1 t2 => ?_, fun j hj => by simp [up, hj], by simp [up, nI_0], fun i hi => by omega, ⟨0, by omega, rfl⟩, fun q hq => ?_, rfl⟩
    · funext b d
      simp [up, t2]
    · rcases (show q = 0 ∨ q = 1 ∨ q = 2 ∨ q = 3 by omega) with rfl | rfl | rfl | rfl <;> simp <;> decide
  obtain ⟨v, u', m1, m2⟩ := M_first_out g w hw u _ _ _ hr h2 hu _ rfl (w + 1) 0 fu 0 (up u 60 0 40 0) (by omega) (lt_fu (by omega)) h0
  rw [nI_0] at m1
  refine ⟨_, v, s', u', x1, m1, x2, x3, m2.jump (by omega) (fun q hq z => ?_), fun q hq => ?_, fun q q' hq hq' e => rk_inj hr hq hq' e⟩
  · have := hR1 q hq
    have z1 : (w + 1) * 30 ≤ rkN (s 19 0) (s 18 0) (s 20 0) w q c := z.1
    have z2 : rkN (s 19 0) (s 18 0) (s 20 0) w q c < 1000000 := z.2
    omega
  · rcases hR1 q hq with e | e
    · exact Or.inl e
    · exact Or.inr (by show rkN (s 19 0) (s 18 0) (s 20 0) w q c < 1000000; omega)
