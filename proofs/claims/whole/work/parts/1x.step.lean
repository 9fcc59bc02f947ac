/-! step: all homes, the week, the call -/
def HC (w nM : Nat) (s u : St) : Prop := RCo (s 4 0 4) (s 4 0 5) (s 4 0 13) (s 5 0) (s 6 0) (u 60 0 8) (u 60 0 9) (u 60 0 10) (u 64 0) (u 65 0) ∧ RRu (s 17 0 5) (s 18 0) (s 19 0) (s 20 0) (u 60 0 24) (u 78 0) (u 79 0) (u 80 0) (u 81 0) ∧ w ≤ 99 ∧ s 4 0 13 = nI w ∧ u 60 0 10 = nI w ∧ nM ≤ 6 ∧ s 4 0 12 = nI nM ∧ u 60 0 15 = nI nM ∧ ∀ k, k < nM → ∀ x, x < 100 → u 76 0 (100 * k + x) = s 16 k x ∧ (s 16 k x = -1000000 ∨ ∃ j : Nat, j < 4 ∧ s 16 k x = nI j)
def FrH (s s' u u' : St) : Prop := (∀ t, t ≠ 26 → t ≠ 27 → s' t = s t) ∧ (∀ t, t ≠ 84 → t ≠ 83 → t ≠ 60 → u' t = u t) ∧ ∀ j, j ≠ 40 → u' 60 0 j = u 60 0 j
theorem HC.fr {w nM : Nat} {s s' u u' : St} (h : HC w nM s u) (f : FrH s s' u u') : HC w nM s' u' := by
  obtain ⟨f1, f2, f3⟩ := f
  unfold HC at h ⊢
  rw [f1 4 (by decide) (by decide), f1 5 (by decide) (by decide), f1 6 (by decide) (by decide), f1 17 (by decide) (by decide), f1 18 (by decide) (by decide), f1 19 (by decide) (by decide), f1 20 (by decide) (by decide), f1 16 (by decide) (by decide), f2 64 (by decide) (by decide) (by decide), f2 65 (by decide) (by decide) (by decide), f2 78 (by decide) (by decide) (by decide), f2 79 (by decide) (by decide) (by decide), f2 80 (by decide) (by decide) (by decide), f2 81 (by decide) (by decide) (by decide), f2 76 (by decide) (by decide) (by decide), f3 8 (by decide), f3 9 (by decide), f3 10 (by decide), f3 24 (by decide), f3 15 (by decide)]
  exact h
theorem RHo.out {nH h : Nat} {s s' u u' : St} {x : HS} {hu re : Int32} (hR : RHo nH (s 0 0 9) (s 26) (s 27) (u 60 0 42) (u 84 0)) (hX : HX s h x hu re s') (hM : HM u h x hu re u') : RHo nH (s' 0 0 9) (s' 26) (s' 27) (u' 60 0 42) (u' 84 0) := by
  obtain ⟨r1, r2, r3, r4⟩ := hR
  refine ⟨r1, ?_, ?_, fun k hk => ?_⟩
  · rw [hX.1 0 (by decide) (by decide)]
    exact r2
  · rw [hM.1 60 (by decide)]
    exact r3
  · obtain ⟨a0, a1, a2, a3, a4, a5, a9, a10, m, hm, am⟩ := r4 k hk
    by_cases e : k = h
    · subst e
      obtain ⟨x1, x2, x3, x4, x5, x6, x7⟩ := hX
      obtain ⟨m1, m2, m3, m4, m5, m6⟩ := hM
      refine ⟨?_, ?_, ?_, ?_, ?_, fun i hi => ?_, ?_, ?_, m, hm, ?_⟩
      · rw [m2 _ (by omega), x3 0 (by omega)]
        exact a0
      · rw [m2 _ (by omega), x3 1 (by omega)]
        exact a1
      · rw [m2 _ (by omega), x3 2 (by omega)]
        exact a2
      · rw [m3, x4]
      · rw [m2 _ (by omega), x3 3 (by omega)]
        exact a4
      · rw [m6 i hi, x7 i hi]
      · rw [m4, x5]
      · rw [m5, x6]
      · rw [x3 0 (by omega)]
        exact am
    · have z : ∀ j, j ≤ 10 → u' 84 0 (11 * k + j) = u 84 0 (11 * k + j) := fun j hj => hM.2.1 _ (by omega)
      rw [(hX.2.1 k e).1, (hX.2.1 k e).2]
      refine ⟨?_, ?_, ?_, ?_, ?_, fun i hi => ?_, ?_, ?_, m, hm, am⟩
      · have := z 0 (by omega)
        rw [Nat.add_zero] at this
        rw [this]
        exact a0
      · rw [z 1 (by omega)]
        exact a1
      · rw [z 2 (by omega)]
        exact a2
      · rw [z 3 (by omega)]
        exact a3
      · rw [z 4 (by omega)]
        exact a4
      · rw [show 11 * k + 5 + i = 11 * k + (5 + i) by omega, z (5 + i) (by omega), show 11 * k + (5 + i) = 11 * k + 5 + i by omega]
        exact a5 i hi
      · rw [z 9 (by omega)]
        exact a9
      · rw [z 10 (by omega)]
        exact a10
theorem bw_nI {m c : Nat} (hm : m < 1000) (hc : c < 1000) : bw (nI m) 0 (nI c - 1) = decide (m < c) := by
  unfold bw
  rw [decide_eq_true (nI_pos' (show m < 2 ^ 31 by omega)), Bool.true_and]
  cases c with
  | zero =>
    have : ¬ nI m ≤ nI 0 - 1 := fun e => by
      have h1 := nI_pos' (show m < 2 ^ 31 by omega)
      have h2 := Int32.le_trans h1 e
      exact absurd h2 (by decide)
    simp [this]
  | succ c =>
    rw [nI_pred]
    by_cases e : m ≤ c
    · rw [decide_eq_true ((nI_leI (by omega) (by omega)).mpr e), decide_eq_true (show m < c + 1 by omega)]
    · rw [decide_eq_false (fun z => e ((nI_leI (by omega) (by omega)).mp z)), decide_eq_false (show ¬ m < c + 1 by omega)]
theorem F_sortRun (g : Nat × Nat) {s : St} {m w nM : Nat} (hm : m ≤ 5) (hw : w ≤ 99) (hg : g.1 = nM) (h6 : nM ≤ 6) (h : s 4 0 12 = nI nM) : F_X1_sortRun g (nI m) (nI w) s = some (if m < nM then s 16 m w else -1000000, s) := by
  unfold F_X1_sortRun F_X1_hasMill
  have hwk : bw (nI w) 0 99 = true := by
    unfold bw
    rw [decide_eq_true (nI_pos' (show w < 2 ^ 31 by omega)), decide_eq_true (show nI w ≤ (99 : Int32) from nI_le (b := 99) hw (by omega))]
    rfl
  rw [h, F_within, bd_so, gd_of (isb_bI _), bd_so, bI_if, bw_nI (by omega) (by omega)]
  by_cases e : m < nM
  · rw [if_pos (decide_eq_true e), if_pos e, F_isWeek, bd_so, bI_if, if_pos hwk, gd_of (inb_nI (by omega) (by omega)), gd_of (by rw [hg]; exact ltb_nI e (by omega)), gd_of (inb_nI (show w < 100 by omega) (by omega)), nI_clamp (by omega), nI_clamp (by omega)]
  · rw [if_neg (by simpa using e), if_neg e]
theorem sub2 (a b c d : Int32) : a + ((b - c) - d) = (a + b) - (c + d) := by
  rw [Int32.sub_eq_add_neg, Int32.sub_eq_add_neg, Int32.sub_eq_add_neg, Int32.neg_add, Int32.sub_eq_add_neg]
  ac_rfl
theorem home_same (g : Nat × Nat) {nM nH h w : Nat} {s u s0 so : St} {br rl lm nF : Int32} (hg : g.1 = nM) (hg2 : g.2 = nH) (hh : h < nH) (hR : RHo nH (s 0 0 9) (s 26) (s 27) (u 60 0 42) (u 84 0)) (hC : HC w nM s u) (hs : ∀ t, t ≠ 21 → t ≠ 22 → t ≠ 26 → t ≠ 27 → s t = s0 t) (hord : F_X6_orderGoods g (nI w) s0 = some (nF, so)) (h21 : s 21 = so 21) (hbr : F_X6_inForce g (nI w) 6 s0 = some (br, s0)) (hrl : F_X6_inForce g (nI w) 4 s0 = some (rl, s0)) (hlm : F_X6_inForce g (nI w) 5 s0 = some (lm, s0)) (n : Nat) : ∃ s' u' : St, F_X10_liveHomes_53 g (n + 1) (nI w) br rl lm nF (nI h) s = F_X10_liveHomes_53 g n (nI w) br rl lm nF (nI (h + 1)) s' ∧ F_X11_live g (nI h) u = some ((), u') ∧ RHo nH (s' 0 0 9) (s' 26) (s' 27) (u' 60 0 42) (u' 84 0) ∧ FrH s s' u u' := by
  obtain ⟨c1, c2, c3, c4, c5, c6, c7, c8, c9⟩ := id hC
  obtain ⟨r1, r2, r3, r4⟩ := id hR
  obtain ⟨a0, a1, a2, a3, a4, a5, a9, a10, m, hm, am⟩ := r4 h hh
  have hRu : RRu (s0 17 0 5) (s0 18 0) (s0 19 0) (s0 20 0) (u 60 0 24) (u 78 0) (u 79 0) (u 80 0) (u 81 0) := by
    rw [← hs 17 (by decide) (by decide) (by decide) (by decide), ← hs 18 (by decide) (by decide) (by decide) (by decide), ← hs 19 (by decide) (by decide) (by decide) (by decide), ← hs 20 (by decide) (by decide) (by decide) (by decide)]
    exact c2
  obtain ⟨o, F, v, u1, o1, o2, o3, o4, o5, o6, o7, o8⟩ := ord_same hRu c3 hord
  subst o1
  have o4' : ∀ p, p < 4 → s 21 0 p = nI (o p) := fun p hp => by
    rw [h21]
    exact o4 p hp
  have hfr : FrH s s u u1 := ⟨fun _ _ _ => rfl, fun t t1 t2 t3 => o5 t t2 t3, o6⟩
  have hC1 := hC.fr hfr
  have e84 : u1 84 = u 84 := o5 84 (by decide) (by decide)
  have e76 : u1 76 = u 76 := o5 76 (by decide) (by decide)
  have hRu1 : RRu (s0 17 0 5) (s0 18 0) (s0 19 0) (s0 20 0) (u1 60 0 24) (u1 78 0) (u1 79 0) (u1 80 0) (u1 81 0) := by
    rw [o6 24 (by decide), o5 78 (by decide) (by decide), o5 79 (by decide) (by decide), o5 80 (by decide) (by decide), o5 81 (by decide) (by decide)]
    exact hRu
  have hX0 : HX s h (s 26 h 5, s 27 h) (s 26 h 6) (s 26 h 7) s := ⟨fun _ _ _ => rfl, fun _ _ => ⟨rfl, rfl⟩, fun _ _ => rfl, rfl, rfl, rfl, fun _ _ => rfl⟩
  have hM0 : HM u1 h (s 26 h 5, s 27 h) (s 26 h 6) (s 26 h 7) u1 := by
    refine ⟨fun _ _ => rfl, fun _ _ => rfl, ?_, ?_, ?_, fun q hq => ?_⟩
    · rw [e84]
      exact a3
    · rw [e84]
      exact a9
    · rw [e84]
      exact a10
    · rw [e84]
      exact a5 q hq
  have num : ∀ (u2 : St), (∀ t, t ≠ 84 → u2 t = u1 t) → F_X11_numberFor g (nI w) 3 0 u2 = some (br, u2) ∧ F_X11_numberFor g (nI w) 1 0 u2 = some (rl, u2) ∧ F_X11_numberFor g (nI w) 2 0 u2 = some (lm, u2) := fun u2 hu2 => by
    have hRu2 : RRu (s0 17 0 5) (s0 18 0) (s0 19 0) (s0 20 0) (u2 60 0 24) (u2 78 0) (u2 79 0) (u2 80 0) (u2 81 0) := by
      rw [hu2 60 (by decide), hu2 78 (by decide), hu2 79 (by decide), hu2 80 (by decide), hu2 81 (by decide)]
      exact hRu1
    obtain ⟨x6, y6, z6⟩ := rule_same (g := g) hRu2 (t := 6) (by omega) (nI w)
    obtain ⟨x4, y4, z4⟩ := rule_same (g := g) hRu2 (t := 4) (by omega) (nI w)
    obtain ⟨x5, y5, z5⟩ := rule_same (g := g) hRu2 (t := 5) (by omega) (nI w)
    have w6 : some (br, s0) = some (x6, s0) := hbr.symm.trans y6
    have w4 : some (rl, s0) = some (x4, s0) := hrl.symm.trans y4
    have w5 : some (lm, s0) = some (x5, s0) := hlm.symm.trans y5
    have v6 : br = x6 := congrArg Prod.fst (Option.some.inj w6)
    have v4 : rl = x4 := congrArg Prod.fst (Option.some.inj w4)
    have v5 : lm = x5 := congrArg Prod.fst (Option.some.inj w5)
    subst v6 v4 v5
    exact ⟨z6, z4, z5⟩
  have b0 : inb (nI (11 * h)) 132 = true := inb_nI (by omega) (by omega)
  have b1 : inb (nI (11 * h + 1)) 132 = true := inb_nI (by omega) (by omega)
  have b2 : inb (nI (11 * h + 2)) 132 = true := inb_nI (by omega) (by omega)
  have b3 : inb (nI (11 * h + 3)) 132 = true := inb_nI (by omega) (by omega)
  have b4 : inb (nI (11 * h + 4)) 132 = true := inb_nI (by omega) (by omega)
  have b10 : inb (nI (11 * h + 10)) 132 = true := inb_nI (by omega) (by omega)
  have i1 : nI (11 * h) + (1 : Int32) = nI (11 * h + 1) := nI_add (11 * h) 1
  have i2 : nI (11 * h) + (2 : Int32) = nI (11 * h + 2) := nI_add (11 * h) 2
  have i3 : nI (11 * h) + (3 : Int32) = nI (11 * h + 3) := nI_add (11 * h) 3
  have i4 : nI (11 * h) + (4 : Int32) = nI (11 * h + 4) := nI_add (11 * h) 4
  have i10 : nI (11 * h) + (10 : Int32) = nI (11 * h + 10) := nI_add (11 * h) 10
  have n0 : (nI (11 * h)).toNatClampNeg = 11 * h := nI_clamp (by omega)
  have n1 : (nI (11 * h + 1)).toNatClampNeg = 11 * h + 1 := nI_clamp (by omega)
  have n2 : (nI (11 * h + 2)).toNatClampNeg = 11 * h + 2 := nI_clamp (by omega)
  have n3 : (nI (11 * h + 3)).toNatClampNeg = 11 * h + 3 := nI_clamp (by omega)
  have n4 : (nI (11 * h + 4)).toNatClampNeg = 11 * h + 4 := nI_clamp (by omega)
  have n10 : (nI (11 * h + 10)).toNatClampNeg = 11 * h + 10 := nI_clamp (by omega)
  have row : ∀ (u2 : St) (x : HS) (hu re : Int32), HM u1 h x hu re u2 → u2 84 0 (11 * h + 1) = s 26 h 1 ∧ u2 84 0 (11 * h + 2) = s 26 h 2 ∧ u2 84 0 (11 * h + 4) = s 26 h 3 := fun u2 x hu re hm2 => by
    rw [hm2.2.1 _ (by omega), hm2.2.1 _ (by omega), hm2.2.1 _ (by omega), e84]
    exact ⟨a1, a2, a4⟩
  have fin : ∀ (s2 u2 : St) (x : HS) (hu re : Int32), HX s h x hu re s2 → HM u1 h x hu re u2 → ∃ s' u' : St, F_X10_liveHomes_148 g (F_X10_liveHomes_53 g n) (nI w) br rl lm (nI F) (nI h) h s2 = F_X10_liveHomes_53 g n (nI w) br rl lm (nI F) (nI (h + 1)) s' ∧ F_X11_live_252 g (nI h) (nI (11 * h)) u2 = some ((), u') ∧ RHo nH (s' 0 0 9) (s' 26) (s' 27) (u' 60 0 42) (u' 84 0) ∧ FrH s s' u u' := fun s2 u2 x hu re hx hm2 => by
    obtain ⟨s', u', x', hu', y1, y2, y3, y4⟩ := end_same g o3 (show h < 12 by omega) o4' o7 o8 hx hm2 (F_X10_liveHomes_53 g n) (nI w) br rl lm (nI F) (nI h)
    rw [nI_1] at y1
    refine ⟨s', u', y1, y2, RHo.out (u := u1) ?_ y3 y4, fun t t1 t2 => y3.1 t t1 t2, fun t t1 t2 t3 => (y4.1 t t1).trans (o5 t t2 t3), fun j hj => ?_⟩
    · rw [e84, o6 42 (by decide)]
      exact hR
    · rw [y4.1 60 (by decide)]
      exact o6 j hj
  have hsort : F_X1_sortRun g (s 26 h 0) (nI w) s = some (if m < nM then s 16 m w else -1000000, s) := by
    rw [am]
    exact F_sortRun g hm c3 hg c6 c7
  rw [F_X10_liveHomes_53, r2, if_neg (nI_ge hh (by omega)), gd_of (inb_nI (show h < 12 by omega) (by omega)), gd_of (by rw [hg2]; exact ltb_nI hh (by omega)), nI_clamp (show h < 2 ^ 31 by omega), hsort, bd_so]
  have hlive : F_X11_live g (nI h) u = F_X11_live_51 g (nI h) (nI (11 * h)) v (if m < nM then s 16 m w else -1000000) u1 := by
    unfold F_X11_live
    rw [c5, o2, bd_so, show (11 : Int32) * nI h = nI (11 * h) from pk_mul 11 h, gd_of b0, gd_of b0, n0, e84, a0, am, o6 15 (by decide), c8, o6 10 (by decide), c5, ix100]
    by_cases e : m < nM
    · rw [if_neg (nI_ge e (by omega)), gd_of (inb_nI (show 100 * m + w < 600 by omega) (by omega)), nI_clamp (show 100 * m + w < 2 ^ 31 by omega), if_pos e, e76, (c9 m e w (by omega)).1]
    · rw [if_pos (nI_le (by omega) (by omega)), if_neg e]
  rw [hlive]
  have hcase : (if m < nM then s 16 m w else -1000000) = -1000000 ∨ ∃ j : Nat, j < 4 ∧ (if m < nM then s 16 m w else -1000000) = nI j := by
    by_cases e : m < nM
    · rw [if_pos e]
      exact (c9 m e w (by omega)).2
    · rw [if_neg e]
      exact Or.inl rfl
  generalize (if m < nM then s 16 m w else -1000000) = sort at hcase
  have e60 : u1 60 0 10 = nI w := by
    rw [o6 10 (by decide)]
    exact c5
  rcases hcase with e | ⟨j, hj, e⟩
  · subst e
    obtain ⟨q1, q2, q3⟩ := row u1 _ _ _ hM0
    have hX1 := hX0.sv (s 26 h 5 - (s 26 h 1 * br + s 26 h 3))
    have hM1 := hM0.sv (s 26 h 5 - (s 26 h 1 * br + s 26 h 3))
    rw [if_pos rfl, F_X3_spend, bd_so, F_X11_live_51, i3, gd_of b3, if_pos rfl, F_X11_live_92, i1, i4, i3, gd_of b1, n1, n3, e60, (num u1 (fun _ _ => rfl)).1, bd_so, gd_of b4, gd_of b3, if_pos rfl, gd_of b3, n4, q1, q3, hM0.2.2.1, sub2, Int32.add_zero]
    have hf27 : ∀ q, q < 4 → up s 26 h 5 (s 26 h 5 - (s 26 h 1 * br + s 26 h 3)) 27 h q = s 27 h q := fun q hq => rfl
    have xm := X_means g o3 (s := up s 26 h 5 (s 26 h 5 - (s 26 h 1 * br + s 26 h 3))) (k := h) o4' hf27 rl lm (F_X3_beRelieved_36 g h rl lm 21 0 (nI F)) (s 26 h 5 - (s 26 h 1 * br + s 26 h 3)) F 0 fu (by omega) (lt_fu (by have := o3.2.2.1; omega))
    have z0 : sm4 (cF (s 27 h) o 0) (s 26 h 5 - (s 26 h 1 * br + s 26 h 3)) = s 26 h 5 - (s 26 h 1 * br + s 26 h 3) := by
      unfold sm4 cF inF
      simp
    rw [z0, nI_0] at xm
    have mw := M_worth g (show h < 12 by omega) hM1.2.2.2.2.2 v (nI h) (F_X11_live_185 g (nI h)) (s 26 h 5 - (s 26 h 1 * br + s 26 h 3))
    have eqw : sm4 (fun q => if ((v >>> (nI q &&& 31)) &&& (1 : Int32)) = 1 then s 27 h q else 0) (s 26 h 5 - (s 26 h 1 * br + s 26 h 3)) = sm4 (cF (s 27 h) o F) (s 26 h 5 - (s 26 h 1 * br + s 26 h 3)) := by
      have eq1 : ∀ q, q < 4 → (if ((v >>> (nI q &&& 31)) &&& (1 : Int32)) = 1 then s 27 h q else 0) = cF (s 27 h) o F q := fun q hq => by
        unfold cF
        exact ifc ((o3.2.2.2.1 q hq).trans (inF_iff o q F).symm)
      simp only [sm4, eq1 0 (by omega), eq1 1 (by omega), eq1 2 (by omega), eq1 3 (by omega)]
    have y5 : up s 26 h 5 (s 26 h 5 - (s 26 h 1 * br + s 26 h 3)) 26 h 5 = s 26 h 5 - (s 26 h 1 * br + s 26 h 3) := up_at
    have y5' : up u1 84 0 (11 * h + 3) (s 26 h 5 - (s 26 h 1 * br + s 26 h 3)) 84 0 (11 * h + 3) = s 26 h 5 - (s 26 h 1 * br + s 26 h 3) := up_at
    rw [F_X3_beRelieved, y5, xm, y5']
    have mw' : F_X11_live_143 g (nI h) (F_X11_live_185 g (nI h)) fu (nI (11 * h)) v (s 26 h 5 - (s 26 h 1 * br + s 26 h 3)) 0 (up u1 84 0 (11 * h + 3) (s 26 h 5 - (s 26 h 1 * br + s 26 h 3))) = F_X11_live_185 g (nI h) (nI (11 * h)) (sm4 (cF (s 27 h) o F) (s 26 h 5 - (s 26 h 1 * br + s 26 h 3))) (up u1 84 0 (11 * h + 3) (s 26 h 5 - (s 26 h 1 * br + s 26 h 3))) := by
      rw [← eqw]
      exact mw
    rw [mw']
    generalize sm4 (cF (s 27 h) o F) (s 26 h 5 - (s 26 h 1 * br + s 26 h 3)) = W
    generalize s 26 h 5 - (s 26 h 1 * br + s 26 h 3) = D at hX1 hM1
    obtain ⟨t1, t2, t3⟩ := num (up u1 84 0 (11 * h + 3) D) hM1.1
    obtain ⟨p1, p2, p3⟩ := row _ _ _ _ hM1
    have e60' : up u1 84 0 (11 * h + 3) D 60 0 10 = nI w := e60
    have y1 : up s 26 h 5 D 26 h 1 = s 26 h 1 := by simp [up]
    have y7 : up (up s 26 h 5 D) 26 h 5 (D + rl * s 26 h 1) 26 h 7 = s 26 h 7 := by simp [up]
    have y55 : up s 26 h 5 D 26 h 5 = D := up_at
    have y33 : up u1 84 0 (11 * h + 3) D 84 0 (11 * h + 3) = D := up_at
    have mfin : ∀ X : Int32, F_X11_live_223 g (nI h) (nI (11 * h)) X (up u1 84 0 (11 * h + 3) D) = F_X11_live_252 g (nI h) (nI (11 * h)) (up (up (up u1 84 0 (11 * h + 3) D) 84 0 (11 * h + 3) (D + X)) 84 0 (11 * h + 10) (s 26 h 7 + X)) := fun X => by
      have y10 : up (up u1 84 0 (11 * h + 3) D) 84 0 (11 * h + 3) (D + X) 84 0 (11 * h + 10) = s 26 h 7 := (hM1.sv (D + X)).2.2.2.2.1
      unfold F_X11_live_223
      rw [i3, i10, gd_of b3, gd_of b3, gd_of b10, gd_of b10, n3, n10, y33, y10]
    rw [F_X3_beRelieved_36, y1, y55, F_X11_live_185, e60', t3, bd_so]
    by_cases q : lm < W
    · rw [if_pos q, if_pos q, bd_so, mfin 0, Int32.add_zero, Int32.add_zero]
      have hM2 := (hM1.sv D).re (s 26 h 7)
      exact fin _ _ _ _ _ hX1 hM2
    · rw [if_neg q, if_neg q, bd_so, e60', t2, bd_so, i1, gd_of b1, n1, p1, mfin]
      have hX2 := (hX1.sv (D + rl * s 26 h 1)).re (s 26 h 7 + rl * s 26 h 1)
      have hM2 := (hM1.sv (D + rl * s 26 h 1)).re (s 26 h 7 + rl * s 26 h 1)
      have y77 : up s 26 h 5 D 26 h 7 = s 26 h 7 := by simp [up]
      first
        | rw [y7]
        | rw [y77]
      exact fin _ _ _ _ _ hX2 hM2
  · subst e
    obtain ⟨er, x1, x2⟩ := earn_same (g := g) hC1.1 hC1.2.1 hj (nI w)
    obtain ⟨q1, q2, q3⟩ := row u1 _ _ _ hM0
    have hX1 := (hX0.sv (s 26 h 5 + s 26 h 2 * er)).sv (s 26 h 5 + s 26 h 2 * er - (s 26 h 1 * br + s 26 h 3))
    have hM1 := hM0.sv (s 26 h 5 + s 26 h 2 * er - (s 26 h 1 * br + s 26 h 3))
    have y1 : up s 26 h 5 (s 26 h 5 + s 26 h 2 * er) 26 h 1 = s 26 h 1 := by simp [up]
    have y3 : up s 26 h 5 (s 26 h 5 + s 26 h 2 * er) 26 h 3 = s 26 h 3 := by simp [up]
    have y5 : up s 26 h 5 (s 26 h 5 + s 26 h 2 * er) 26 h 5 = s 26 h 5 + s 26 h 2 * er := up_at
    rw [if_neg (no_n (by omega)), x1, bd_so, F_X3_spend, bd_so, y1, y3, y5, F_X11_live_51, i3, gd_of b3, if_neg (no_n (by omega)), i2, gd_of b2, e60, x2, bd_so, F_X11_live_92, i1, i4, gd_of b1, n1, n2, n3, e60, (num u1 (fun _ _ => rfl)).1, bd_so, gd_of b4, gd_of b3, if_neg (no_n (by omega)), n4, q1, q2, q3, hM0.2.2.1, sub2]
    exact fin _ _ _ _ _ hX1 hM1
