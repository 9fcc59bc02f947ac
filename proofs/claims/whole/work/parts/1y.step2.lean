/-! step: the week and the call -/
theorem FrH.tr {s s' s'' u u' u'' : St} (h : FrH s s' u u') (h' : FrH s' s'' u' u'') : FrH s s'' u u'' :=
  ⟨fun t h1 h2 => (h'.1 t h1 h2).trans (h.1 t h1 h2), fun t h1 h2 h3 => (h'.2.1 t h1 h2 h3).trans (h.2.1 t h1 h2 h3), fun j hj => (h'.2.2 j hj).trans (h.2.2 j hj)⟩
theorem homes_same (g : Nat × Nat) (hk : St → Option (Unit × St)) {nM nH w : Nat} {s0 so u : St} {br rl lm nF : Int32} (hg : g.1 = nM) (hg2 : g.2 = nH) (hC : HC w nM so u) (hs : ∀ t, t ≠ 21 → t ≠ 22 → so t = s0 t) (hord : F_X6_orderGoods g (nI w) s0 = some (nF, so)) (hbr : F_X6_inForce g (nI w) 6 s0 = some (br, s0)) (hrl : F_X6_inForce g (nI w) 4 s0 = some (rl, s0)) (hlm : F_X6_inForce g (nI w) 5 s0 = some (lm, s0)) : ∀ (m i n n' : Nat) (s' u' : St), RHo nH (s' 0 0 9) (s' 26) (s' 27) (u' 60 0 42) (u' 84 0) → FrH so s' u u' → i + m = nH → m < n → m < n' → ∃ s'' u'' : St, F_X10_liveHomes_53 g n (nI w) br rl lm nF (nI i) s' = some ((), s'') ∧ F_X11_stepOnce_100 g hk n' (nI i) u' = hk u'' ∧ RHo nH (s'' 0 0 9) (s'' 26) (s'' 27) (u'' 60 0 42) (u'' 84 0) ∧ FrH so s'' u u''
  | 0, i, n + 1, n' + 1, s', u', hR, fr, hi, _, _ => by
    have : i = nH := by omega
    subst this
    have h12 := hR.1
    refine ⟨s', u', ?_, ?_, hR, fr⟩
    · rw [F_X10_liveHomes_53, hR.2.1, if_pos (nI_le (Nat.le_refl _) (by omega))]
    · rw [F_X11_stepOnce_100, hR.2.2.1, if_pos (nI_le (Nat.le_refl _) (by omega))]
  | m + 1, i, n + 1, n' + 1, s', u', hR, fr, hi, hn, hn' => by
    have h12 := hR.1
    obtain ⟨s2, u2, e1, e2, e3, e4⟩ := home_same g hg hg2 (show i < nH by omega) hR (hC.fr fr) (fun t t1 t2 t3 t4 => (fr.1 t t3 t4).trans (hs t t1 t2)) hord (fr.1 21 (by decide) (by decide)) hbr hrl hlm n
    rw [e1, F_X11_stepOnce_100, hR.2.2.1, if_neg (nI_ge (show i < nH by omega) (by omega)), e2, bd_so, nI_1]
    exact homes_same g hk hg hg2 hC hs hord hbr hrl hlm m (i + 1) n n' s2 u2 e3 (fr.tr e4) (by omega) (by omega) (by omega)
def RPoB (B nM : Nat) (po : Nat → Int32) (bl : Nat → Nat → Int32) (po' ow' : Nat → Int32) : Prop := ∀ i, i < 4 → po' i = po i ∧ (∃ n : Nat, n ≤ B ∧ po i = nI n) ∧ (∀ k, k < nM → ow' (4 * k + i) = bl k i ∧ ∃ n : Nat, n ≤ 9999 ∧ bl k i = nI n) ∧ ∀ k, nM ≤ k → k < 6 → ow' (4 * k + i) = 0
def RelB (B : Nat) (g : Nat × Nat) (s u : St) : Prop :=
  RSh (s 2) (s 3) (u 61 0) (u 62 0) (u 63 0) ∧
  s 0 0 10 = u 60 0 1 ∧
  RCo (s 4 0 4) (s 4 0 5) (s 4 0 13) (s 5 0) (s 6 0) (u 60 0 8) (u 60 0 9) (u 60 0 10) (u 64 0) (u 65 0) ∧
  RPoB B g.1 (s 7 0) (s 15) (u 66 0) (u 74 0) ∧
  RPr (s 4 0 13) (s 8 0) (u 77 0) ∧
  RSp (s 4 0 10) (s 9 0) (s 10 0) (s 11 0) (s 12 0) (u 60 0 11) (u 67 0) (u 68 0) (u 69 0) ∧
  RMi g.1 (s 4 0 12) (s 4 0 13) (s 14) (s 16) (u 60 0 15) (u 70 0) (u 71 0) (u 72 0) (u 73 0) (u 75 0) (u 76 0) ∧
  RRu (s 17 0 5) (s 18 0) (s 19 0) (s 20 0) (u 60 0 24) (u 78 0) (u 79 0) (u 80 0) (u 81 0) ∧
  RTa (s 23 0 1) (s 24 0) (s 23 0 2) (u 60 0 31) (u 82 0) (u 60 0 32) ∧
  RHo g.2 (s 0 0 9) (s 26) (s 27) (u 60 0 42) (u 84 0) ∧
  RTh (s 38 0 4) (s 39 0) (s 40 0) (s 41 0) (u 60 0 47) (u 88 0) (u 89 0) (u 90 0) ∧
  RTr (s 38 0 5) (s 42 0) (u 60 0 56) (u 94 0) ∧
  RNews (s 43 0 3) (s 44 0) (s 45 0) (s 46 0) (u 60 0 51) (u 91 0) (u 93 0) (u 92 0)
theorem week_same {g : Nat × Nat} {B w : Nat} {s u : St} (h : RelB B g s u) (hB : B ≤ 890000000) (hw : s 4 0 13 = nI w) (hw2 : w < 100) : ∃ s' u' : St, F_X10_passWeek g s = some ((), s') ∧ F_X11_stepOnce g u = some ((), u') ∧ RelB (B + 75000) g s' u' ∧ s' 4 0 13 = nI (w + 1) := by
  obtain ⟨nM, nH⟩ := g
  obtain ⟨hA, hF0, hC, hD, hE, hF, hG, hH, hI, hJ, hK, hL, hM⟩ := h
  have hCc := hC
  obtain ⟨⟨Cl, cl1, cl2⟩, cl3, cfe, cfe', cw, cw', cb⟩ := hCc
  have hwm : u 60 0 10 = nI w := by rw [cw', hw]
  obtain ⟨c, f1, f2, f3, f4⟩ := hF
  obtain ⟨s1, u1, a1, a2, a3, a4, a5⟩ := land_same (nM, nH) (F_X11_stepOnce_53 (nM, nH)) (B := B) f1 f2 f3 cw' (fun i hi => ⟨(f4 i hi).1, (f4 i hi).2.1, (f4 i hi).2.2.1, (f4 i hi).2.2.2.1, (f4 i hi).2.2.2.2⟩) c 0 fu fu s u (fun _ _ => rfl) (fun _ _ => rfl) (fun i hi => ⟨(hD i hi).1, (hD i hi).2.1⟩) (by omega) (lt_fu (by omega)) (lt_fu (by omega))
  have hD1 : RPoB (B + 15000) nM (s1 7 0) (s1 15) (u1 66 0) (u1 74 0) := fun i hi => by
    obtain ⟨e1, n, e2, e3⟩ := a5 i hi
    obtain ⟨_, _, e4, e5⟩ := hD i hi
    rw [a3 15 (by decide), a4 74 (by decide)]
    exact ⟨e1, ⟨n, by omega, e3⟩, e4, e5⟩
  have hC1 : RCo (s1 4 0 4) (s1 4 0 5) (s1 4 0 13) (s1 5 0) (s1 6 0) (u1 60 0 8) (u1 60 0 9) (u1 60 0 10) (u1 64 0) (u1 65 0) := by
    rw [a3 4 (by decide), a3 5 (by decide), a3 6 (by decide), a4 60 (by decide), a4 64 (by decide), a4 65 (by decide)]
    exact hC
  have hG1 : RMi nM (s1 4 0 12) (s1 4 0 13) (s1 14) (s1 16) (u1 60 0 15) (u1 70 0) (u1 71 0) (u1 72 0) (u1 73 0) (u1 75 0) (u1 76 0) := by
    rw [a3 4 (by decide), a3 14 (by decide), a3 16 (by decide), a4 60 (by decide), a4 70 (by decide), a4 71 (by decide), a4 72 (by decide), a4 73 (by decide), a4 75 (by decide), a4 76 (by decide)]
    exact hG
  obtain ⟨s2, u2, b1, b2, b3, b4, b5⟩ := fix_same (nM := nM) (nH := nH) (F_X11_stepOnce_77 (nM, nH)) hC1 (fun i hi => by
    obtain ⟨e1, ⟨n, e2, e3⟩, e4⟩ := hD1 i hi
    exact ⟨e1, ⟨n, by omega, e3⟩, e4⟩) hG1 4 0 fu fu s1 u1 (fun _ _ => rfl) (fun _ _ => rfl) (fun j hj => by omega) (by omega) (lt_fu (by omega)) (lt_fu (by omega))
  have x2 : ∀ t, t ≠ 7 → t ≠ 8 → s2 t = s t := fun t t1 t2 => (b3 t t2).trans (a3 t t1)
  have m2 : ∀ t, t ≠ 66 → t ≠ 77 → u2 t = u t := fun t t1 t2 => (b4 t t2).trans (a4 t t1)
  obtain ⟨g0, g1, g2, g3, g4⟩ := hG
  have hW : WM (fun _ => B + 15000 + 9999 * 0) (fun q => if q < 0 then w + 1 else w) nM w Cl s2 u2 := by
    refine ⟨⟨g0, ?_, ?_, ?_, ?_, hw2, ?_, ?_, cl1⟩, b5, fun i hi => ?_, fun k hk i hi => ?_, fun k hk => ?_, fun k hk hk6 => ⟨fun i hi => ?_, ?_, fun x hx => ?_⟩⟩
    · rw [x2 4 (by decide) (by decide)]
      exact g1
    · rw [m2 60 (by decide) (by decide)]
      exact g2
    · rw [x2 4 (by decide) (by decide)]
      exact hw
    · rw [m2 60 (by decide) (by decide)]
      exact hwm
    · rw [x2 4 (by decide) (by decide)]
      exact cl2
    · rw [m2 60 (by decide) (by decide), cl3]
      exact cl2
    · rw [b3 7 (by decide), b4 66 (by decide)]
      obtain ⟨e1, ⟨n, e2, e3⟩, _⟩ := hD1 i hi
      exact ⟨e1, n, by show n ≤ B + 15000 + 9999 * 0; omega, e3⟩
    · rw [x2 15 (by decide) (by decide), m2 74 (by decide) (by decide)]
      exact (hD i hi).2.2.1 k hk
    · rw [x2 14 (by decide) (by decide), x2 16 (by decide) (by decide), m2 70 (by decide) (by decide), m2 71 (by decide) (by decide), m2 72 (by decide) (by decide), m2 73 (by decide) (by decide), m2 75 (by decide) (by decide), m2 76 (by decide) (by decide)]
      obtain ⟨k1, k2, k3, k4, k5, k6, k7, k8, k9, k10, k11, k12⟩ := g3 k hk
      refine ⟨k1, k2, k3, k4, k5, k6, k7, k8, k9, k10, k11, fun x hx => ⟨(k12 x hx).1, fun e => (k12 x hx).2.1 ?_, (k12 x hx).2.2⟩⟩
      have e' : w ≤ x := by
        have : (if k < 0 then w + 1 else w) ≤ x := e
        rwa [if_neg (Nat.not_lt_zero k)] at this
      rw [hw]
      exact nI_le e' (by omega)
    · rw [m2 74 (by decide) (by decide)]
      exact (hD i hi).2.2.2 k hk hk6
    · rw [m2 75 (by decide) (by decide)]
      exact (g4 k hk hk6).1
    · rw [m2 76 (by decide) (by decide)]
      exact (g4 k hk hk6).2 x hx
  obtain ⟨s3, u3, d1, d2, d3, d4⟩ := mills_same (nM, nH) (F_X11_stepOnce_98 (nM, nH)) (Bf := fun _ => B + 15000) (s := s2) (u := u2) rfl (fun i hi => by show B + 15000 ≤ 900000000; omega) nM 0 fu fu s2 u2 hW ⟨fun _ _ _ _ _ => rfl, fun _ _ _ _ _ => rfl⟩ (by omega) (lt_fu (by omega)) (lt_fu (by omega))
  have x3 : ∀ t, t ≠ 7 → t ≠ 8 → t ≠ 14 → t ≠ 15 → t ≠ 16 → s3 t = s t := fun t t1 t2 t3 t4 t5 => (d4.1 t t1 t3 t4 t5).trans (x2 t t1 t2)
  have m3 : ∀ t, t ≠ 66 → t ≠ 77 → t ≠ 74 → t ≠ 75 → t ≠ 76 → u3 t = u t := fun t t1 t2 t3 t4 t5 => (d4.2 t t1 t3 t4 t5).trans (m2 t t1 t2)
  have hC3 : RCo (s3 4 0 4) (s3 4 0 5) (s3 4 0 13) (s3 5 0) (s3 6 0) (u3 60 0 8) (u3 60 0 9) (u3 60 0 10) (u3 64 0) (u3 65 0) := by
    rw [x3 4 (by decide) (by decide) (by decide) (by decide) (by decide), x3 5 (by decide) (by decide) (by decide) (by decide) (by decide), x3 6 (by decide) (by decide) (by decide) (by decide) (by decide), m3 60 (by decide) (by decide) (by decide) (by decide) (by decide), m3 64 (by decide) (by decide) (by decide) (by decide) (by decide), m3 65 (by decide) (by decide) (by decide) (by decide) (by decide)]
    exact hC
  have hH3 : RRu (s3 17 0 5) (s3 18 0) (s3 19 0) (s3 20 0) (u3 60 0 24) (u3 78 0) (u3 79 0) (u3 80 0) (u3 81 0) := by
    rw [x3 17 (by decide) (by decide) (by decide) (by decide) (by decide), x3 18 (by decide) (by decide) (by decide) (by decide) (by decide), x3 19 (by decide) (by decide) (by decide) (by decide) (by decide), x3 20 (by decide) (by decide) (by decide) (by decide) (by decide), m3 60 (by decide) (by decide) (by decide) (by decide) (by decide), m3 78 (by decide) (by decide) (by decide) (by decide) (by decide), m3 79 (by decide) (by decide) (by decide) (by decide) (by decide), m3 80 (by decide) (by decide) (by decide) (by decide) (by decide), m3 81 (by decide) (by decide) (by decide) (by decide) (by decide)]
    exact hH
  have hw3 : s3 4 0 13 = nI w := d3.1.2.2.2.1
  obtain ⟨br, r6, _⟩ := rule_same (g := (nM, nH)) hH3 (t := 6) (by omega) (nI w)
  obtain ⟨rl, r4, _⟩ := rule_same (g := (nM, nH)) hH3 (t := 4) (by omega) (nI w)
  obtain ⟨lm, r5, _⟩ := rule_same (g := (nM, nH)) hH3 (t := 5) (by omega) (nI w)
  obtain ⟨R, v, so, uo, o1, o2, o3, _⟩ := first_same (g := (nM, nH)) hH3 (w := w) (by omega)
  have hC4 : HC w nM so u3 := by
    unfold HC
    rw [o3 4 (by decide) (by decide), o3 5 (by decide) (by decide), o3 6 (by decide) (by decide), o3 16 (by decide) (by decide), o3 17 (by decide) (by decide), o3 18 (by decide) (by decide), o3 19 (by decide) (by decide), o3 20 (by decide) (by decide)]
    refine ⟨hC3, hH3, by omega, hw3, d3.1.2.2.2.2.1, g0, d3.1.2.1, d3.1.2.2.1, fun k hk x hx => ?_⟩
    have := (d3.2.2.2.2.1 k hk).2.2.2.2.2.2.2.2.2.2.2 x hx
    exact ⟨this.1, this.2.2⟩
  obtain ⟨s4, u4, e1, e2, e3, e4⟩ := homes_same (nM, nH) (F_X11_stepOnce_119 (nM, nH)) (nM := nM) (nH := nH) rfl rfl hC4 o3 o1 r6 r4 r5 nH 0 fu fu so u3 (by
    rw [o3 0 (by decide) (by decide), o3 26 (by decide) (by decide), o3 27 (by decide) (by decide), x3 0 (by decide) (by decide) (by decide) (by decide) (by decide), x3 26 (by decide) (by decide) (by decide) (by decide) (by decide), x3 27 (by decide) (by decide) (by decide) (by decide) (by decide), m3 60 (by decide) (by decide) (by decide) (by decide) (by decide), m3 84 (by decide) (by decide) (by decide) (by decide) (by decide)]
    exact hJ) ⟨fun _ _ _ => rfl, fun _ _ _ _ => rfl, fun _ _ => rfl⟩ (by omega) (lt_fu (by have := hJ.1; omega)) (lt_fu (by have := hJ.1; omega))
  rw [nI_0] at a1 a2 b1 b2 d1 d2 e1 e2
  have x4 : ∀ t, t ≠ 7 → t ≠ 8 → t ≠ 14 → t ≠ 15 → t ≠ 16 → t ≠ 21 → t ≠ 22 → t ≠ 26 → t ≠ 27 → s4 t = s t := fun t t1 t2 t3 t4 t5 t6 t7 t8 t9 => (e4.1 t t8 t9).trans ((o3 t t6 t7).trans (x3 t t1 t2 t3 t4 t5))
  have y4 : ∀ t, t ≠ 21 → t ≠ 22 → t ≠ 26 → t ≠ 27 → s4 t = s3 t := fun t t6 t7 t8 t9 => (e4.1 t t8 t9).trans (o3 t t6 t7)
  have m4 : ∀ t, t ≠ 66 → t ≠ 77 → t ≠ 74 → t ≠ 75 → t ≠ 76 → t ≠ 84 → t ≠ 83 → t ≠ 60 → u4 t = u t := fun t t1 t2 t3 t4 t5 t6 t7 t8 => (e4.2.1 t t6 t7 t8).trans (m3 t t1 t2 t3 t4 t5)
  have j4 : ∀ j, j ≠ 40 → u4 60 0 j = u 60 0 j := fun j hj => (e4.2.2 j hj).trans (by rw [m3 60 (by decide) (by decide) (by decide) (by decide) (by decide)])
  have z4 : ∀ t, t ≠ 84 → t ≠ 83 → t ≠ 60 → u4 t = u3 t := e4.2.1
  have hw4 : s4 4 0 13 = nI w := by
    rw [y4 4 (by decide) (by decide) (by decide) (by decide)]
    exact hw3
  refine ⟨up s4 4 0 13 (nI (w + 1)), up u4 60 0 10 (nI (w + 1)), ?_, ?_, ?_, up_at⟩
  · unfold F_X10_passWeek F_X1_landShips F_X1_fixPrices F_X1_workMills F_X10_liveHomes
    rw [a1, bd_so, b1, bd_so, d1, bd_so, hw3, show (6 : Int32) = nI 6 from rfl, show (4 : Int32) = nI 4 from rfl, show (5 : Int32) = nI 5 from rfl, r6, bd_so, r4, bd_so, r5, bd_so, o1, bd_so, e1, bd_so, hw4, nI_1]
  · unfold F_X11_stepOnce
    rw [a2, F_X11_stepOnce_53, b2, F_X11_stepOnce_77, d2, F_X11_stepOnce_98, e2, F_X11_stepOnce_119, j4 10 (by decide), hwm, nI_1]
  · have xs : ∀ t, t ≠ 4 → up s4 4 0 13 (nI (w + 1)) t = s4 t := fun t ht => by
      funext a b
      simp [up, ht]
    have us : ∀ t, t ≠ 60 → up u4 60 0 10 (nI (w + 1)) t = u4 t := fun t ht => by
      funext a b
      simp [up, ht]
    have xj : ∀ j, j ≠ 13 → up s4 4 0 13 (nI (w + 1)) 4 0 j = s 4 0 j := fun j hj => by
      rw [← x4 4 (by decide) (by decide) (by decide) (by decide) (by decide) (by decide) (by decide) (by decide) (by decide)]
      simp [up, hj]
    have uj : ∀ j, j ≠ 10 → j ≠ 40 → up u4 60 0 10 (nI (w + 1)) 60 0 j = u 60 0 j := fun j hj hj2 => by
      rw [← j4 j hj2]
      simp [up, hj]
    have q : ∀ t, t < 4 ∨ t = 5 ∨ t = 6 ∨ (8 < t ∧ t < 14) ∨ (16 < t ∧ t < 21) ∨ (22 < t ∧ t < 26) ∨ 27 < t → up s4 4 0 13 (nI (w + 1)) t = s t := fun t ht => (xs t (by omega)).trans (x4 t (by omega) (by omega) (by omega) (by omega) (by omega) (by omega) (by omega) (by omega) (by omega))
    have p : ∀ t, (60 < t ∧ t < 66) ∨ (66 < t ∧ t < 74) ∨ (77 < t ∧ t < 83) ∨ 84 < t → up u4 60 0 10 (nI (w + 1)) t = u t := fun t ht => (us t (by omega)).trans (m4 t (by omega) (by omega) (by omega) (by omega) (by omega) (by omega) (by omega) (by omega))
    have q3 : ∀ t, t = 7 ∨ t = 8 ∨ t = 14 ∨ t = 15 ∨ t = 16 → up s4 4 0 13 (nI (w + 1)) t = s3 t := fun t ht => (xs t (by omega)).trans (y4 t (by omega) (by omega) (by omega) (by omega))
    have p3 : ∀ t, t = 66 ∨ t = 70 ∨ t = 71 ∨ t = 72 ∨ t = 73 ∨ t = 74 ∨ t = 75 ∨ t = 76 ∨ t = 77 → up u4 60 0 10 (nI (w + 1)) t = u3 t := fun t ht => (us t (by omega)).trans (z4 t (by omega) (by omega) (by omega))
    obtain ⟨w1, w2, w3, w4, w5, w6⟩ := d3
    refine ⟨?_, ?_, ?_, fun i hi => ?_, fun i hi => ?_, ?_, ?_, ?_, ?_, ?_, ?_, ?_, ?_⟩
    · rw [q 2 (by omega), q 3 (by omega), p 61 (by omega), p 62 (by omega), p 63 (by omega)]
      exact hA
    · rw [q 0 (by omega), uj 1 (by decide) (by decide)]
      exact hF0
    · rw [xj 4 (by decide), xj 5 (by decide), uj 8 (by decide) (by decide), uj 9 (by decide) (by decide), q 5 (by omega), q 6 (by omega), p 64 (by omega), p 65 (by omega), up_at, up_at]
      exact ⟨⟨Cl, cl1, cl2⟩, cl3, cfe, cfe', ⟨w + 1, by omega, rfl⟩, rfl, cb⟩
    · rw [q3 7 (by omega), q3 15 (by omega), p3 66 (by omega), p3 74 (by omega)]
      obtain ⟨n1, n, n2, n3⟩ := w3 i hi
      refine ⟨n1, ⟨n, ?_, n3⟩, fun k hk => w4 k hk i hi, fun k hk hk6 => (w6 k hk hk6).1 i hi⟩
      have : n ≤ B + 15000 + 9999 * nM := n2
      omega
    · rw [q3 8 (by omega), p3 77 (by omega), up_at]
      exact ⟨fun e => absurd e (nI_ne0 (by omega) (by omega)), fun _ => (w2 i hi).1⟩
    · rw [xj 10 (by decide), uj 11 (by decide) (by decide), q 9 (by omega), q 10 (by omega), q 11 (by omega), q 12 (by omega), p 67 (by omega), p 68 (by omega), p 69 (by omega)]
      exact ⟨c, f1, f2, f3, f4⟩
    · rw [xj 12 (by decide), uj 15 (by decide) (by decide), up_at, q3 14 (by omega), q3 16 (by omega), p3 70 (by omega), p3 71 (by omega), p3 72 (by omega), p3 73 (by omega), p3 75 (by omega), p3 76 (by omega)]
      refine ⟨g0, g1, g2, fun k hk => ?_, fun k hk hk6 => (w6 k hk hk6).2⟩
      obtain ⟨k1, k2, k3, k4, k5, k6, k7, k8, k9, k10, k11, k12⟩ := w5 k hk
      refine ⟨k1, k2, k3, k4, k5, k6, k7, k8, k9, k10, k11, fun x hx => ⟨(k12 x hx).1, fun e => (k12 x hx).2.1 ?_, (k12 x hx).2.2⟩⟩
      have e' := (nI_leI (by omega) (by omega)).mp e
      show (if k < nM then w + 1 else w) ≤ x
      rw [if_pos hk]
      exact e'
    · rw [q 17 (by omega), q 18 (by omega), q 19 (by omega), q 20 (by omega), uj 24 (by decide) (by decide), p 78 (by omega), p 79 (by omega), p 80 (by omega), p 81 (by omega)]
      exact hH
    · rw [q 23 (by omega), q 24 (by omega), uj 31 (by decide) (by decide), uj 32 (by decide) (by decide), p 82 (by omega)]
      exact hI
    · rw [xs 0 (by decide), xs 26 (by decide), xs 27 (by decide), us 84 (by decide)]
      have : up u4 60 0 10 (nI (w + 1)) 60 0 42 = u4 60 0 42 := rfl
      rw [this]
      exact e3
    · rw [q 38 (by omega), q 39 (by omega), q 40 (by omega), q 41 (by omega), uj 47 (by decide) (by decide), p 88 (by omega), p 89 (by omega), p 90 (by omega)]
      exact hK
    · rw [q 38 (by omega), q 42 (by omega), uj 56 (by decide) (by decide), p 94 (by omega)]
      exact hL
    · rw [q 43 (by omega), q 44 (by omega), q 45 (by omega), q 46 (by omega), uj 51 (by decide) (by decide), p 91 (by omega), p 92 (by omega), p 93 (by omega)]
      exact hM
theorem step_loop {g : Nat × Nat} {a1 : Int32} {B w n S : Nat} (hB : B ≤ 880000000) (hn : n ≤ 20) (hS : S = min n (100 - w)) (hw : w ≤ 100) : ∀ (m i k k' : Nat) (s u : St), RelB (B + 75000 * i) g s u → s 4 0 13 = nI (w + i) → i + m = S → m < k → m < k' → ∃ s' u' : St, F_X10_step_30 g a1 k (nI S) (nI i) s = some (nI S, s') ∧ F_X11_step_22 g (nI n) k' (nI i) u = some (nI S, u') ∧ RelB (B + 75000 * S) g s' u'
  | 0, i, k + 1, k' + 1, s, u, h, hwk, hi, _, _ => by
    have : i = S := by omega
    subst this
    have hwm : u 60 0 10 = nI (w + i) := by
      rw [h.2.2.1.2.2.2.2.2.1, hwk]
    refine ⟨s, u, ?_, ?_, h⟩
    · rw [F_X10_step_30, if_pos (nI_le (Nat.le_refl _) (by omega))]
    · rw [F_X11_step_22, hwm]
      by_cases e : n ≤ i
      · rw [if_pos (nI_le e (by omega))]
      · rw [if_neg (nI_ge (by omega) (by omega)), if_pos (show (100 : Int32) ≤ nI (w + i) from nI_le (a := 100) (by omega) (by omega))]
  | m + 1, i, k + 1, k' + 1, s, u, h, hwk, hi, hk, hk' => by
    have hwm : u 60 0 10 = nI (w + i) := by
      rw [h.2.2.1.2.2.2.2.2.1, hwk]
    obtain ⟨s', u', e1, e2, e3, e4⟩ := week_same h (by omega) hwk (by omega)
    rw [F_X10_step_30, if_neg (nI_ge (show i < S by omega) (by omega)), e1, bd_so, F_X11_step_22, if_neg (nI_ge (show i < n by omega) (by omega)), hwm, if_neg (show ¬ (100 : Int32) ≤ nI (w + i) from nI_ge (b := 100) (by omega) (by omega)), e2, bd_so, nI_1]
    refine step_loop hB hn hS hw m (i + 1) k k' s' u' ?_ ?_ (by omega) (by omega) (by omega)
    · rw [show B + 75000 * (i + 1) = B + 75000 * i + 75000 by omega]
      exact e3
    · rw [e4]
      congr 1
theorem op_step {N : Nat} {g : Nat × Nat} {s u : St} (hN : N < 580) (h : Rel N g s u) (a : Int32) : Same N g (F_X10_step g a s) (F_X11_step g a u) := by
  have hR := h.read
  have hRB : RelB (1500000 * N) g s (up u 60 0 0 0) := h
  unfold F_X10_step F_X11_step
  rw [F_within, bd_so, bI_if, in_1_20, bd_so, bI_if]
  by_cases q : bw a 1 20 = true
  · obtain ⟨n, hn1, hn, rfl⟩ := bw_of1 (a := 1) (n := 20) rfl (by decide) rfl q
    obtain ⟨w, hw, hw2⟩ := hRB.2.2.1.2.2.2.2.1
    have hS : (if (100 : Int32) - s 4 0 13 < nI n then (100 : Int32) - s 4 0 13 else nI n) = nI (min n (100 - w)) := by
      rw [hw2, show (100 : Int32) - nI w = nI (100 - w) from pk_sub (a := 100) hw, min_nI (by omega) (by omega)]
    obtain ⟨s', u', e1, e2, e3⟩ := step_loop (a1 := nI n) (S := min n (100 - w)) (by omega) hn rfl hw (min n (100 - w)) 0 fu fu s (up u 60 0 0 0) (show RelB (1500000 * N + 75000 * 0) g s (up u 60 0 0 0) from hRB) hw2 (by omega) (lt_fu (by omega)) (lt_fu (by omega))
    rw [nI_0] at e1 e2
    rw [if_pos q, if_pos q, hS, e1, e2]
    refine ⟨_, _, _, rfl, rfl, ?_⟩
    obtain ⟨i1, i2, i3, i4, i5⟩ := e3
    refine ⟨i1, i2, i3, fun i hi => ?_, i5⟩
    obtain ⟨j1, ⟨n', j2, j3⟩, j4⟩ := i4 i hi
    exact ⟨j1, ⟨n', by omega, j3⟩, j4⟩
  · rw [if_neg q, if_neg q]
    exact ⟨_, _, _, rfl, rfl, hR⟩
