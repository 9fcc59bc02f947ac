/-! step: all mills; the order of the goods; selling -/
theorem mills_same (g : Nat × Nat) (hk : St → Option (Unit × St)) {Bf : Nat → Nat} {nM w C : Nat} {s u : St} (hg : g.1 = nM) (hB : ∀ i, i < 4 → Bf i ≤ 900000000) : ∀ (m i n n' : Nat) (s' u' : St), WM (fun q => Bf q + 9999 * i) (fun q => if q < i then w + 1 else w) nM w C s' u' → FrW s s' u u' → i + m = nM → m < n → m < n' → ∃ s'' u'' : St, F_X1_workMills_2 g n (nI i) s' = some ((), s'') ∧ F_X11_stepOnce_79 g hk n' (nI i) u' = hk u'' ∧ WM (fun q => Bf q + 9999 * nM) (fun q => if q < nM then w + 1 else w) nM w C s'' u'' ∧ FrW s s'' u u''
  | 0, i, n + 1, n' + 1, s', u', hW, fr, hi, _, _ => by
    have : i = nM := by omega
    subst this
    refine ⟨s', u', ?_, ?_, hW, fr⟩
    · rw [F_X1_workMills_2, hW.1.2.1, if_pos (nI_le (Nat.le_refl _) (by have := hW.1.1; omega))]
    · rw [F_X11_stepOnce_79, hW.1.2.2.1, if_pos (nI_le (Nat.le_refl _) (by have := hW.1.1; omega))]
  | m + 1, i, n + 1, n' + 1, s', u', hW, fr, hi, hn, hn' => by
    have h6 := hW.1.1
    obtain ⟨s2, u2, e1, e2, e3, e4⟩ := mill_same g hg (show i < nM by omega) (fun q hq => by
      have := hB q hq
      show Bf q + 9999 * i ≤ 1000000000
      omega) (show (if i < i then w + 1 else w) = w by rw [if_neg (Nat.lt_irrefl i)]) hW n
    rw [e1, F_X11_stepOnce_79, hW.1.2.2.1, if_neg (nI_ge (show i < nM by omega) (by omega)), e2, bd_so, nI_1]
    refine mills_same g hk hg hB m (i + 1) n n' s2 u2 (e3.mono (fun q hq => ?_) (fun q hq => ?_)) (fr.tr e4) (by omega) (by omega) (by omega)
    · show Bf q + 9999 * i + 9999 ≤ Bf q + 9999 * (i + 1)
      omega
    · show (if q = i then w + 1 else if q < i then w + 1 else w) ≤ if q < i + 1 then w + 1 else w
      by_cases e5 : q = i
      · rw [if_pos e5, if_pos (by omega)]
        exact Nat.le_refl _
      · rw [if_neg e5]
        by_cases e6 : q < i
        · rw [if_pos e6, if_pos (by omega)]
          exact Nat.le_refl _
        · rw [if_neg e6, if_neg (by omega)]
          exact Nat.le_refl _
def Ord (o : Nat → Nat) (F : Nat) (v : Int32) : Prop := (∀ p, p < 4 → o p < 4) ∧ (∀ p p', p < 4 → p' < 4 → o p = o p' → p = p') ∧ F ≤ 4 ∧ (∀ q, q < 4 → (((v >>> (nI q &&& 31)) &&& (1 : Int32)) = 1 ↔ ∃ p, p < F ∧ o p = q)) ∧ ∀ p p', F ≤ p → p < p' → p' < 4 → o p < o p'
theorem bit01 : ∀ S : Fin 16, ∀ q : Fin 4, ((nI S.val >>> (nI q.val &&& 31)) &&& 1 = (1 : Int32) ↔ ¬ (nI S.val >>> (nI q.val &&& 31)) &&& 1 = (0 : Int32)) := by decide
theorem ord_same {g : Nat × Nat} {s0 s1 u : St} {nF : Int32} (hH : RRu (s0 17 0 5) (s0 18 0) (s0 19 0) (s0 20 0) (u 60 0 24) (u 78 0) (u 79 0) (u 80 0) (u 81 0)) {w : Nat} (hw : w ≤ 99) (ho : F_X6_orderGoods g (nI w) s0 = some (nF, s1)) : ∃ (o : Nat → Nat) (F : Nat) (v : Int32) (u1 : St), nF = nI F ∧ F_X11_findFirst g (nI w) u = some (v, u1) ∧ Ord o F v ∧ (∀ p, p < 4 → s1 21 0 p = nI (o p)) ∧ (∀ t, t ≠ 83 → t ≠ 60 → u1 t = u t) ∧ (∀ j, j ≠ 40 → u1 60 0 j = u 60 0 j) ∧ u1 60 0 40 = nI F ∧ ∀ i, i < F → u1 83 0 i = nI (o i) := by
  obtain ⟨R, v, s', u', e1, e2, e3, e4, e5, e6, e7⟩ := first_same (g := g) hH hw
  rw [ho] at e1
  have e8 := Option.some.inj e1
  have e9 : nF = nI (rkC R 1000000) := congrArg Prod.fst e8
  have e10 : s1 = s' := congrArg Prod.snd e8
  subst e10
  obtain ⟨f1, f2, f3, f4, ⟨S, hS, f5⟩, f6, _⟩ := e5
  have r4 : ∀ q, q < 4 → rkC R (R q) < 4 := fun q hq => rkC_4 hq
  have rinj : ∀ q q', q < 4 → q' < 4 → rkC R (R q) = rkC R (R q') → q = q' := fun q q' hq hq' e => rkC_inj hq hq' (e7 q q' hq hq') e
  have surj : ∀ p, p < 4 → ∃ q, q < 4 ∧ rkC R (R q) = p := fun p hp => by
    have a0 := r4 0 (by omega)
    have a1 := r4 1 (by omega)
    have a2 := r4 2 (by omega)
    have a3 := r4 3 (by omega)
    have b01 : ¬ rkC R (R 0) = rkC R (R 1) := fun e => absurd (rinj 0 1 (by omega) (by omega) e) (by omega)
    have b02 : ¬ rkC R (R 0) = rkC R (R 2) := fun e => absurd (rinj 0 2 (by omega) (by omega) e) (by omega)
    have b03 : ¬ rkC R (R 0) = rkC R (R 3) := fun e => absurd (rinj 0 3 (by omega) (by omega) e) (by omega)
    have b12 : ¬ rkC R (R 1) = rkC R (R 2) := fun e => absurd (rinj 1 2 (by omega) (by omega) e) (by omega)
    have b13 : ¬ rkC R (R 1) = rkC R (R 3) := fun e => absurd (rinj 1 3 (by omega) (by omega) e) (by omega)
    have b23 : ¬ rkC R (R 2) = rkC R (R 3) := fun e => absurd (rinj 2 3 (by omega) (by omega) e) (by omega)
    by_cases c0 : rkC R (R 0) = p
    · exact ⟨0, by omega, c0⟩
    · by_cases c1 : rkC R (R 1) = p
      · exact ⟨1, by omega, c1⟩
      · by_cases c2 : rkC R (R 2) = p
        · exact ⟨2, by omega, c2⟩
        · exact ⟨3, by omega, by omega⟩
  have oq : ∀ q, q < 4 → (s1 21 0 (rkC R (R q))).toNatClampNeg = q := fun q hq => by
    rw [e4 q hq, nI_clamp (by omega)]
  have rl : ∀ q, q < 4 → (R q < 1000000 ↔ rkC R (R q) < rkC R 1000000) := fun q hq => by
    constructor
    · intro h
      exact cnB_st (fun i _ z => by
        have z1 : R i < R q := by simpa using z
        simp
        omega) hq (by simp) (by simpa using h)
    · intro h
      by_cases z : R q < 1000000
      · exact z
      · have : rkC R 1000000 ≤ rkC R (R q) := cnB_le 4 (fun i _ z1 => by
          have z2 : R i < 1000000 := by simpa using z1
          simp
          omega)
        omega
  refine ⟨fun p => (s1 21 0 p).toNatClampNeg, rkC R 1000000, v, u', e9, e2, ⟨fun p hp => ?_, fun p p' hp hp' e => ?_, rkC_le4 R 1000000, fun q hq => ?_, fun p p' h1 h2 h3 => ?_⟩, fun p hp => ?_, f1, f2, f3, fun i hi => ?_⟩
  · obtain ⟨q, hq, rfl⟩ := surj p hp
    show (s1 21 0 (rkC R (R q))).toNatClampNeg < 4
    rw [oq q hq]
    exact hq
  · obtain ⟨q, hq, rfl⟩ := surj p hp
    obtain ⟨q', hq', rfl⟩ := surj p' hp'
    have e11 : (s1 21 0 (rkC R (R q))).toNatClampNeg = (s1 21 0 (rkC R (R q'))).toNatClampNeg := e
    rw [oq q hq, oq q' hq'] at e11
    rw [e11]
  · have := bit01 ⟨S, hS⟩ ⟨q, hq⟩
    rw [f5]
    refine this.trans ?_
    rw [← f5, f6 q hq]
    constructor
    · intro z
      have z1 : R q < 1000000 := by omega
      exact ⟨rkC R (R q), (rl q hq).mp z1, oq q hq⟩
    · rintro ⟨p, hp, e⟩
      have h4 := rkC_le4 R 1000000
      obtain ⟨q', hq', rfl⟩ := surj p (by omega)
      have e' : (s1 21 0 (rkC R (R q'))).toNatClampNeg = q := e
      rw [oq q' hq'] at e'
      subst e'
      have := (rl q' hq').mpr hp
      omega
  · obtain ⟨q, hq, rfl⟩ := surj p (by omega)
    obtain ⟨q', hq', rfl⟩ := surj p' h3
    show (s1 21 0 (rkC R (R q))).toNatClampNeg < (s1 21 0 (rkC R (R q'))).toNatClampNeg
    rw [oq q hq, oq q' hq']
    have n1 : ¬ R q < 1000000 := fun z => by
      have := (rl q hq).mp z
      omega
    have n2 : ¬ R q' < 1000000 := fun z => by
      have := (rl q' hq').mp z
      omega
    have m1 := e6 q hq
    have m2 := e6 q' hq'
    by_cases z : q < q'
    · exact z
    · have : rkC R (R q') ≤ rkC R (R q) := cnB_le 4 (fun i _ z1 => by
        have z2 : R i < R q' := by simpa using z1
        simp
        omega)
      omega
  · obtain ⟨q, hq, rfl⟩ := surj p hp
    show s1 21 0 (rkC R (R q)) = nI (s1 21 0 (rkC R (R q))).toNatClampNeg
    rw [oq q hq, e4 q hq]
  · obtain ⟨q, hq, g1, g2, g3⟩ := f4 i hi
    show u' 83 0 i = nI (s1 21 0 i).toNatClampNeg
    rw [g1, ← g3, oq q hq]
/-! selling, as numbers -/
abbrev HS : Type := Int32 × (Nat → Int32)
def s1 (x : HS) (q : Nat) : HS := if 0 ≤ x.1 then x else (x.1 + x.2 q, fun c => if c = q then 0 else x.2 c)
def slo (o : Nat → Nat) : Nat → Nat → HS → HS
  | _, 0, x => x
  | i, m + 1, x => slo o (i + 1) m (s1 x (o i))
theorem s1_pos {x : HS} (h : 0 ≤ x.1) (q : Nat) : s1 x q = x := by
  unfold s1
  rw [if_pos h]
theorem slo_pos {o : Nat → Nat} {x : HS} (h : 0 ≤ x.1) : ∀ (m i : Nat), slo o i m x = x
  | 0, _ => rfl
  | m + 1, i => by rw [slo, s1_pos h, slo_pos h m (i + 1)]
theorem s1_zero {x : HS} {q : Nat} (h : x.2 q = 0) : s1 x q = x := by
  unfold s1
  by_cases e : 0 ≤ x.1
  · rw [if_pos e]
  · rw [if_neg e, h, Int32.add_zero]
    obtain ⟨a, f⟩ := x
    congr 1
    funext c
    by_cases e2 : c = q
    · subst e2
      rw [if_pos rfl]
      exact h.symm
    · rw [if_neg e2]
theorem s1_keep {x : HS} {q z : Nat} (h : x.2 z = 0) : (s1 x q).2 z = 0 := by
  unfold s1
  by_cases e : 0 ≤ x.1
  · rw [if_pos e]
    exact h
  · rw [if_neg e]
    show (if z = q then 0 else x.2 z) = 0
    by_cases e2 : z = q
    · rw [if_pos e2]
    · rw [if_neg e2]
      exact h
theorem slo_keep {o : Nat → Nat} {z : Nat} : ∀ (m i : Nat) (x : HS), x.2 z = 0 → (slo o i m x).2 z = 0
  | 0, _, _, h => h
  | m + 1, i, x, h => by
    rw [slo]
    exact slo_keep m (i + 1) _ (s1_keep h)
theorem slo_done {o : Nat → Nat} : ∀ (m i : Nat) (x : HS), ¬ 0 ≤ (slo o i m x).1 → ∀ p, i ≤ p → p < i + m → (slo o i m x).2 (o p) = 0
  | 0, i, x, _, p, h1, h2 => by omega
  | m + 1, i, x, h, p, h1, h2 => by
    rw [slo] at h ⊢
    by_cases e : p = i
    · subst e
      refine slo_keep m (p + 1) _ ?_
      unfold s1
      by_cases e2 : 0 ≤ x.1
      · rw [s1_pos e2, slo_pos e2] at h
        exact absurd e2 h
      · rw [if_neg e2]
        show (if o p = o p then 0 else x.2 (o p)) = 0
        rw [if_pos rfl]
    · exact slo_done m (i + 1) _ h p (by omega) (by omega)
theorem slo_split {o : Nat → Nat} : ∀ (m i k : Nat) (x : HS), slo o i (m + k) x = slo o (i + m) k (slo o i m x)
  | 0, i, k, x => by
    rw [Nat.zero_add, slo, Nat.add_zero]
  | m + 1, i, k, x => by
    rw [show m + 1 + k = (m + k) + 1 by omega, slo, slo, slo_split m (i + 1) k, show i + 1 + m = i + (m + 1) by omega]
theorem slo_same {o : Nat → Nat} {F : Nat} {v : Int32} (h : Ord o F v) (x : HS) : slo (fun q => q) 0 4 (slo o 0 F x) = slo o 0 4 x := by
  obtain ⟨h1, h2, h3, h4, h5⟩ := h
  have hs : slo o 0 4 x = slo o F (4 - F) (slo o 0 F x) := by
    have := slo_split (o := o) F 0 (4 - F) x
    rw [show F + (4 - F) = 4 by omega, Nat.zero_add] at this
    exact this
  rw [hs]
  by_cases e : 0 ≤ (slo o 0 F x).1
  · rw [slo_pos e, slo_pos e]
  have hd := slo_done F 0 x e
  generalize slo o 0 F x = y at hd e
  have a0 := h1 0 (by omega)
  have a1 := h1 1 (by omega)
  have a2 := h1 2 (by omega)
  have a3 := h1 3 (by omega)
  have i01 : ¬ o 0 = o 1 := fun e => absurd (h2 0 1 (by omega) (by omega) e) (by omega)
  have i02 : ¬ o 0 = o 2 := fun e => absurd (h2 0 2 (by omega) (by omega) e) (by omega)
  have i03 : ¬ o 0 = o 3 := fun e => absurd (h2 0 3 (by omega) (by omega) e) (by omega)
  have i12 : ¬ o 1 = o 2 := fun e => absurd (h2 1 2 (by omega) (by omega) e) (by omega)
  have i13 : ¬ o 1 = o 3 := fun e => absurd (h2 1 3 (by omega) (by omega) e) (by omega)
  have i23 : ¬ o 2 = o 3 := fun e => absurd (h2 2 3 (by omega) (by omega) e) (by omega)
  have hF : F = 0 ∨ F = 1 ∨ F = 2 ∨ F = 3 ∨ F = 4 := by omega
  rcases hF with rfl | rfl | rfl | rfl | rfl
  · have t0 := h5 0 1 (by omega) (by omega) (by omega)
    have t1 := h5 1 2 (by omega) (by omega) (by omega)
    have t2 := h5 2 3 (by omega) (by omega) (by omega)
    have hc : (o 0 = 0 ∧ o 1 = 1 ∧ o 2 = 2 ∧ o 3 = 3) := by omega
    obtain ⟨w0, w1, w2, w3⟩ := hc
    show s1 (s1 (s1 (s1 y 0) 1) 2) 3 = _
    show _ = (s1 (s1 (s1 (s1 y (o 0)) (o 1)) (o 2)) (o 3))
    rw [w0, w1, w2, w3]
  · have d0 := hd 0 (by omega) (by omega)
    have t1 := h5 1 2 (by omega) (by omega) (by omega)
    have t2 := h5 2 3 (by omega) (by omega) (by omega)
    have hc : (o 1 = 0 ∧ o 2 = 1 ∧ o 3 = 2) ∨ (o 1 = 0 ∧ o 2 = 1 ∧ o 3 = 3) ∨ (o 1 = 0 ∧ o 2 = 2 ∧ o 3 = 3) ∨ (o 1 = 1 ∧ o 2 = 2 ∧ o 3 = 3) := by omega
    rcases hc with ⟨w0, w1, w2⟩ | ⟨w0, w1, w2⟩ | ⟨w0, w1, w2⟩ | ⟨w0, w1, w2⟩
    · have z3 : y.2 3 = 0 := by
        have hz : o 0 = 3 := by omega
        rw [hz] at d0
        exact d0
      show s1 (s1 (s1 (s1 y 0) 1) 2) 3 = _
      rw [s1_zero (s1_keep (s1_keep (s1_keep z3)))]
      show _ = (s1 (s1 (s1 y (o 1)) (o 2)) (o 3))
      rw [w0, w1, w2]
    · have z2 : y.2 2 = 0 := by
        have hz : o 0 = 2 := by omega
        rw [hz] at d0
        exact d0
      show s1 (s1 (s1 (s1 y 0) 1) 2) 3 = _
      rw [s1_zero (s1_keep (s1_keep z2))]
      show _ = (s1 (s1 (s1 y (o 1)) (o 2)) (o 3))
      rw [w0, w1, w2]
    · have z1 : y.2 1 = 0 := by
        have hz : o 0 = 1 := by omega
        rw [hz] at d0
        exact d0
      show s1 (s1 (s1 (s1 y 0) 1) 2) 3 = _
      rw [s1_zero (s1_keep z1)]
      show _ = (s1 (s1 (s1 y (o 1)) (o 2)) (o 3))
      rw [w0, w1, w2]
    · have z0 : y.2 0 = 0 := by
        have hz : o 0 = 0 := by omega
        rw [hz] at d0
        exact d0
      show s1 (s1 (s1 (s1 y 0) 1) 2) 3 = _
      rw [s1_zero z0]
      show _ = (s1 (s1 (s1 y (o 1)) (o 2)) (o 3))
      rw [w0, w1, w2]
  · have d0 := hd 0 (by omega) (by omega)
    have d1 := hd 1 (by omega) (by omega)
    have t2 := h5 2 3 (by omega) (by omega) (by omega)
    have hc : (o 2 = 0 ∧ o 3 = 1) ∨ (o 2 = 0 ∧ o 3 = 2) ∨ (o 2 = 0 ∧ o 3 = 3) ∨ (o 2 = 1 ∧ o 3 = 2) ∨ (o 2 = 1 ∧ o 3 = 3) ∨ (o 2 = 2 ∧ o 3 = 3) := by omega
    rcases hc with ⟨w0, w1⟩ | ⟨w0, w1⟩ | ⟨w0, w1⟩ | ⟨w0, w1⟩ | ⟨w0, w1⟩ | ⟨w0, w1⟩
    · have z2 : y.2 2 = 0 := by
        have hz : o 0 = 2 ∨ o 1 = 2 := by omega
        rcases hz with hz | hz
        · rw [hz] at d0
          exact d0
        · rw [hz] at d1
          exact d1
      have z3 : y.2 3 = 0 := by
        have hz : o 0 = 3 ∨ o 1 = 3 := by omega
        rcases hz with hz | hz
        · rw [hz] at d0
          exact d0
        · rw [hz] at d1
          exact d1
      show s1 (s1 (s1 (s1 y 0) 1) 2) 3 = _
      rw [s1_zero (s1_keep (s1_keep z2)), s1_zero (s1_keep (s1_keep z3))]
      show _ = (s1 (s1 y (o 2)) (o 3))
      rw [w0, w1]
    · have z1 : y.2 1 = 0 := by
        have hz : o 0 = 1 ∨ o 1 = 1 := by omega
        rcases hz with hz | hz
        · rw [hz] at d0
          exact d0
        · rw [hz] at d1
          exact d1
      have z3 : y.2 3 = 0 := by
        have hz : o 0 = 3 ∨ o 1 = 3 := by omega
        rcases hz with hz | hz
        · rw [hz] at d0
          exact d0
        · rw [hz] at d1
          exact d1
      show s1 (s1 (s1 (s1 y 0) 1) 2) 3 = _
      rw [s1_zero (s1_keep z1), s1_zero (s1_keep (s1_keep z3))]
      show _ = (s1 (s1 y (o 2)) (o 3))
      rw [w0, w1]
    · have z1 : y.2 1 = 0 := by
        have hz : o 0 = 1 ∨ o 1 = 1 := by omega
        rcases hz with hz | hz
        · rw [hz] at d0
          exact d0
        · rw [hz] at d1
          exact d1
      have z2 : y.2 2 = 0 := by
        have hz : o 0 = 2 ∨ o 1 = 2 := by omega
        rcases hz with hz | hz
        · rw [hz] at d0
          exact d0
        · rw [hz] at d1
          exact d1
      show s1 (s1 (s1 (s1 y 0) 1) 2) 3 = _
      rw [s1_zero (s1_keep z1), s1_zero (s1_keep z2)]
      show _ = (s1 (s1 y (o 2)) (o 3))
      rw [w0, w1]
    · have z0 : y.2 0 = 0 := by
        have hz : o 0 = 0 ∨ o 1 = 0 := by omega
        rcases hz with hz | hz
        · rw [hz] at d0
          exact d0
        · rw [hz] at d1
          exact d1
      have z3 : y.2 3 = 0 := by
        have hz : o 0 = 3 ∨ o 1 = 3 := by omega
        rcases hz with hz | hz
        · rw [hz] at d0
          exact d0
        · rw [hz] at d1
          exact d1
      show s1 (s1 (s1 (s1 y 0) 1) 2) 3 = _
      rw [s1_zero z0, s1_zero (s1_keep (s1_keep z3))]
      show _ = (s1 (s1 y (o 2)) (o 3))
      rw [w0, w1]
    · have z0 : y.2 0 = 0 := by
        have hz : o 0 = 0 ∨ o 1 = 0 := by omega
        rcases hz with hz | hz
        · rw [hz] at d0
          exact d0
        · rw [hz] at d1
          exact d1
      have z2 : y.2 2 = 0 := by
        have hz : o 0 = 2 ∨ o 1 = 2 := by omega
        rcases hz with hz | hz
        · rw [hz] at d0
          exact d0
        · rw [hz] at d1
          exact d1
      show s1 (s1 (s1 (s1 y 0) 1) 2) 3 = _
      rw [s1_zero z0, s1_zero (s1_keep z2)]
      show _ = (s1 (s1 y (o 2)) (o 3))
      rw [w0, w1]
    · have z0 : y.2 0 = 0 := by
        have hz : o 0 = 0 ∨ o 1 = 0 := by omega
        rcases hz with hz | hz
        · rw [hz] at d0
          exact d0
        · rw [hz] at d1
          exact d1
      have z1 : y.2 1 = 0 := by
        have hz : o 0 = 1 ∨ o 1 = 1 := by omega
        rcases hz with hz | hz
        · rw [hz] at d0
          exact d0
        · rw [hz] at d1
          exact d1
      show s1 (s1 (s1 (s1 y 0) 1) 2) 3 = _
      rw [s1_zero z0, s1_zero z1]
      show _ = (s1 (s1 y (o 2)) (o 3))
      rw [w0, w1]
  · have d0 := hd 0 (by omega) (by omega)
    have d1 := hd 1 (by omega) (by omega)
    have d2 := hd 2 (by omega) (by omega)
    have hc : (o 3 = 0) ∨ (o 3 = 1) ∨ (o 3 = 2) ∨ (o 3 = 3) := by omega
    rcases hc with w0 | w0 | w0 | w0
    · have z1 : y.2 1 = 0 := by
        have hz : o 0 = 1 ∨ o 1 = 1 ∨ o 2 = 1 := by omega
        rcases hz with hz | hz | hz
        · rw [hz] at d0
          exact d0
        · rw [hz] at d1
          exact d1
        · rw [hz] at d2
          exact d2
      have z2 : y.2 2 = 0 := by
        have hz : o 0 = 2 ∨ o 1 = 2 ∨ o 2 = 2 := by omega
        rcases hz with hz | hz | hz
        · rw [hz] at d0
          exact d0
        · rw [hz] at d1
          exact d1
        · rw [hz] at d2
          exact d2
      have z3 : y.2 3 = 0 := by
        have hz : o 0 = 3 ∨ o 1 = 3 ∨ o 2 = 3 := by omega
        rcases hz with hz | hz | hz
        · rw [hz] at d0
          exact d0
        · rw [hz] at d1
          exact d1
        · rw [hz] at d2
          exact d2
      show s1 (s1 (s1 (s1 y 0) 1) 2) 3 = _
      rw [s1_zero (s1_keep z1), s1_zero (s1_keep z2), s1_zero (s1_keep z3)]
      show _ = (s1 y (o 3))
      rw [w0]
    · have z0 : y.2 0 = 0 := by
        have hz : o 0 = 0 ∨ o 1 = 0 ∨ o 2 = 0 := by omega
        rcases hz with hz | hz | hz
        · rw [hz] at d0
          exact d0
        · rw [hz] at d1
          exact d1
        · rw [hz] at d2
          exact d2
      have z2 : y.2 2 = 0 := by
        have hz : o 0 = 2 ∨ o 1 = 2 ∨ o 2 = 2 := by omega
        rcases hz with hz | hz | hz
        · rw [hz] at d0
          exact d0
        · rw [hz] at d1
          exact d1
        · rw [hz] at d2
          exact d2
      have z3 : y.2 3 = 0 := by
        have hz : o 0 = 3 ∨ o 1 = 3 ∨ o 2 = 3 := by omega
        rcases hz with hz | hz | hz
        · rw [hz] at d0
          exact d0
        · rw [hz] at d1
          exact d1
        · rw [hz] at d2
          exact d2
      show s1 (s1 (s1 (s1 y 0) 1) 2) 3 = _
      rw [s1_zero z0, s1_zero (s1_keep z2), s1_zero (s1_keep z3)]
      show _ = (s1 y (o 3))
      rw [w0]
    · have z0 : y.2 0 = 0 := by
        have hz : o 0 = 0 ∨ o 1 = 0 ∨ o 2 = 0 := by omega
        rcases hz with hz | hz | hz
        · rw [hz] at d0
          exact d0
        · rw [hz] at d1
          exact d1
        · rw [hz] at d2
          exact d2
      have z1 : y.2 1 = 0 := by
        have hz : o 0 = 1 ∨ o 1 = 1 ∨ o 2 = 1 := by omega
        rcases hz with hz | hz | hz
        · rw [hz] at d0
          exact d0
        · rw [hz] at d1
          exact d1
        · rw [hz] at d2
          exact d2
      have z3 : y.2 3 = 0 := by
        have hz : o 0 = 3 ∨ o 1 = 3 ∨ o 2 = 3 := by omega
        rcases hz with hz | hz | hz
        · rw [hz] at d0
          exact d0
        · rw [hz] at d1
          exact d1
        · rw [hz] at d2
          exact d2
      show s1 (s1 (s1 (s1 y 0) 1) 2) 3 = _
      rw [s1_zero z0, s1_zero z1, s1_zero (s1_keep z3)]
      show _ = (s1 y (o 3))
      rw [w0]
    · have z0 : y.2 0 = 0 := by
        have hz : o 0 = 0 ∨ o 1 = 0 ∨ o 2 = 0 := by omega
        rcases hz with hz | hz | hz
        · rw [hz] at d0
          exact d0
        · rw [hz] at d1
          exact d1
        · rw [hz] at d2
          exact d2
      have z1 : y.2 1 = 0 := by
        have hz : o 0 = 1 ∨ o 1 = 1 ∨ o 2 = 1 := by omega
        rcases hz with hz | hz | hz
        · rw [hz] at d0
          exact d0
        · rw [hz] at d1
          exact d1
        · rw [hz] at d2
          exact d2
      have z2 : y.2 2 = 0 := by
        have hz : o 0 = 2 ∨ o 1 = 2 ∨ o 2 = 2 := by omega
        rcases hz with hz | hz | hz
        · rw [hz] at d0
          exact d0
        · rw [hz] at d1
          exact d1
        · rw [hz] at d2
          exact d2
      show s1 (s1 (s1 (s1 y 0) 1) 2) 3 = _
      rw [s1_zero z0, s1_zero z1, s1_zero z2]
      show _ = (s1 y (o 3))
      rw [w0]
  · have d0 := hd 0 (by omega) (by omega)
    have d1 := hd 1 (by omega) (by omega)
    have d2 := hd 2 (by omega) (by omega)
    have d3 := hd 3 (by omega) (by omega)
    have z0 : y.2 0 = 0 := by
      have hz : o 0 = 0 ∨ o 1 = 0 ∨ o 2 = 0 ∨ o 3 = 0 := by omega
      rcases hz with hz | hz | hz | hz
      · rw [hz] at d0
        exact d0
      · rw [hz] at d1
        exact d1
      · rw [hz] at d2
        exact d2
      · rw [hz] at d3
        exact d3
    have z1 : y.2 1 = 0 := by
      have hz : o 0 = 1 ∨ o 1 = 1 ∨ o 2 = 1 ∨ o 3 = 1 := by omega
      rcases hz with hz | hz | hz | hz
      · rw [hz] at d0
        exact d0
      · rw [hz] at d1
        exact d1
      · rw [hz] at d2
        exact d2
      · rw [hz] at d3
        exact d3
    have z2 : y.2 2 = 0 := by
      have hz : o 0 = 2 ∨ o 1 = 2 ∨ o 2 = 2 ∨ o 3 = 2 := by omega
      rcases hz with hz | hz | hz | hz
      · rw [hz] at d0
        exact d0
      · rw [hz] at d1
        exact d1
      · rw [hz] at d2
        exact d2
      · rw [hz] at d3
        exact d3
    have z3 : y.2 3 = 0 := by
      have hz : o 0 = 3 ∨ o 1 = 3 ∨ o 2 = 3 ∨ o 3 = 3 := by omega
      rcases hz with hz | hz | hz | hz
      · rw [hz] at d0
        exact d0
      · rw [hz] at d1
        exact d1
      · rw [hz] at d2
        exact d2
      · rw [hz] at d3
        exact d3
    show s1 (s1 (s1 (s1 y 0) 1) 2) 3 = _
    rw [s1_zero z0, s1_zero z1, s1_zero z2, s1_zero z3]
    show _ = y
    rfl
