/-! lists: rule by rule -/
def FrX (s0 s : St) : Prop := (∀ t, t ≠ 17 → t ≠ 18 → t ≠ 19 → t ≠ 20 → t ≠ 23 → s t = s0 t) ∧ s 17 0 5 = s0 17 0 5 ∧ s 23 0 1 = s0 23 0 1
def FrM (u0 u : St) : Prop := (∀ t, t ≠ 60 → t ≠ 78 → t ≠ 79 → t ≠ 80 → t ≠ 81 → u t = u0 t) ∧ ∀ j, j ≠ 29 → j < 33 ∨ 39 < j → u 60 0 j = u0 60 0 j
def RuR (c : Nat) (s u : St) : Prop := ∀ i, i < c → RR1 (s 18 0 i) (s 19 0 i) (s 20 0 i) (u 78 0 i) (u 79 0 i) (u 80 0 i) (u 81 0 i)
def PS (b : Nat → Nat) (L c c' : Nat) (s0 u0 s u : St) (a e : Nat) : Prop := FrX s0 s ∧ FrM u0 u ∧ u 60 0 38 = 0 ∧ s 23 0 2 = s0 23 0 2 ∧ TokR b L s u a e ∧ c ≤ c' ∧ c' ≤ 30 ∧ s 17 0 6 = nI c' ∧ u 60 0 29 = nI c' ∧ RuR c' s u
def FS (c : Nat) (s0 u0 s u : St) : Prop := FrX s0 s ∧ FrM u0 u ∧ (∃ F : Int32, (F = 1 ∨ F = 2 ∨ F = 3) ∧ ∃ a : Nat, a ≤ 400 ∧ u 60 0 38 = F ∧ s 23 0 2 = F ∧ s 23 0 3 = nI a ∧ u 60 0 39 = nI a) ∧ RuR c s u
theorem RuR.le {c c' : Nat} {s u : St} (h : RuR c' s u) (hc : c ≤ c') : RuR c s u := fun i hi => h i (by omega)
theorem RuR.fr {c : Nat} {s u s' u' : St} (h : RuR c s u) (hs : ∀ t, t ≠ 23 → s' t = s t) (hu : ∀ t, t ≠ 60 → u' t = u t) : RuR c s' u' := fun i hi => by
  rw [hs 18 (by decide), hs 19 (by decide), hs 20 (by decide), hu 78 (by decide), hu 79 (by decide), hu 80 (by decide), hu 81 (by decide)]
  exact h i hi
theorem FrX.tr {s0 s s' : St} (h : FrX s0 s) (hs : ∀ t, t ≠ 23 → s' t = s t) (hj : ∀ j, j < 4 → s' 23 0 j = s 23 0 j) : FrX s0 s' := by
  refine ⟨fun t h1 h2 h3 h4 h5 => ?_, ?_, ?_⟩
  · rw [hs t h5]
    exact h.1 t h1 h2 h3 h4 h5
  · rw [hs 17 (by decide)]
    exact h.2.1
  · rw [hj 1 (by decide)]
    exact h.2.2
theorem FrM.tr {u0 u u' : St} (h : FrM u0 u) (hu : ∀ t, t ≠ 60 → u' t = u t) (hj : ∀ j, j < 34 ∨ 37 < j → u' 60 0 j = u 60 0 j) : FrM u0 u' := by
  refine ⟨fun t h1 h2 h3 h4 h5 => ?_, fun j h1 h2 => ?_⟩
  · rw [hu t h1]
    exact h.1 t h1 h2 h3 h4 h5
  · rw [hj j (by omega)]
    exact h.2 j h1 h2
/-- the next token -/
theorem adv (g : Nat × Nat) {b : Nat → Nat} {L c c' a e : Nat} {s0 u0 s u : St} (h : PS b L c c' s0 u0 s u a e) : ∃ (s' u' : St) (a' e' : Nat), F_X8_takeToken g s = some ((), s') ∧ F_X11_next g u = some ((), u') ∧ FrT s s' u u' ∧ e ≤ a' ∧ PS b L c c' s0 u0 s' u' a' e' := by
  obtain ⟨f1, f2, f3, f4, ⟨hB, hC, h1, h33, hae, heL, h5, h6, h36, h34, h37, hK⟩, r1, r2, r3, r4, r5⟩ := h
  obtain ⟨s', u', a', e', t1, t2, t3, t4, t5⟩ := tok_same g hB hC h1 h33 heL h6 h34
  refine ⟨s', u', a', e', t1, t2, t3, t4, f1.tr t3.1 t3.2.1, f2.tr t3.2.2.1 t3.2.2.2, ?_, ?_, t5, r1, r2, ?_, ?_, r5.fr t3.1 t3.2.2.1⟩
  · rw [t3.2.2.2 38 (by omega)]
    exact f3
  · rw [t3.2.1 2 (by omega)]
    exact f4
  · rw [t3.1 17 (by decide)]
    exact r3
  · rw [t3.2.2.2 29 (by omega)]
    exact r4
/-- a fault found -/
theorem PS.bad {b : Nat → Nat} {L c c' a e : Nat} {s0 u0 s u : St} (h : PS b L c c' s0 u0 s u a e) {F : Int32} (hF : F = 1 ∨ F = 2 ∨ F = 3) : FS c s0 u0 (up (up s 23 0 2 F) 23 0 3 (nI a)) (up (up u 60 0 38 F) 60 0 39 (nI a)) := by
  obtain ⟨f1, f2, f3, f4, ⟨hB, hC, h1, h33, hae, heL, h5, h6, h36, h34, h37, hK⟩, r1, r2, r3, r4, r5⟩ := h
  have hL := hB.1
  refine ⟨⟨fun t h1 h2 h3 h4 h5 => ?_, f1.2.1, f1.2.2⟩, ⟨fun t h1 h2 h3 h4 h5 => ?_, fun j h1 h2 => ?_⟩, ⟨F, hF, a, by omega, by simp [up], by simp [up], by simp [up], by simp [up]⟩, fun i hi => r5 i (by omega)⟩
  · rw [← f1.1 t h1 h2 h3 h4 h5]
    funext x y
    simp [up, h5]
  · rw [← f2.1 t h1 h2 h3 h4 h5]
    funext x y
    simp [up, h1]
  · rw [← f2.2 j h1 h2]
    have e1 : ¬ j = 38 := by omega
    have e2 : ¬ j = 39 := by omega
    simp [up, e1, e2]
/-- what the reference writes behind its rules -/
theorem PS.w {b : Nat → Nat} {L c c' a e : Nat} {s0 u0 s u : St} (h : PS b L c c' s0 u0 s u a e) {t : Nat} (ht : t = 78 ∨ t = 79 ∨ t = 80 ∨ t = 81) (v : Int32) : PS b L c c' s0 u0 s (up u t 0 c' v) a e := by
  obtain ⟨f1, f2, f3, f4, ⟨hB, hC, h1, h33, hae, heL, h5, h6, h36, h34, h37, hK⟩, r1, r2, r3, r4, r5⟩ := h
  have e60 : up u t 0 c' v 60 = u 60 := by
    funext x y
    have : ¬ 60 = t := by omega
    simp [up, this]
  have e82 : up u t 0 c' v 82 = u 82 := by
    funext x y
    have : ¬ 82 = t := by omega
    simp [up, this]
  have eR : ∀ t' i, i < c' → up u t 0 c' v t' 0 i = u t' 0 i := fun t' i hi => by
    have : ¬ i = c' := by omega
    simp [up, this]
  refine ⟨f1, ⟨fun t' h1 h2 h3 h4 h5 => ?_, fun j h1 h2 => ?_⟩, ?_, f4, ⟨hB, ?_, h1, ?_, hae, heL, h5, h6, ?_, ?_, ?_, ?_⟩, r1, r2, r3, ?_, fun i hi => ?_⟩
  · rw [← f2.1 t' h1 h2 h3 h4 h5]
    funext x y
    have : ¬ t' = t := by omega
    simp [up, this]
  · rw [e60]
    exact f2.2 j h1 h2
  · rw [e60]
    exact f3
  · rw [e82]
    exact hC
  · rw [e60]
    exact h33
  · rw [e60]
    exact h36
  · rw [e60]
    exact h34
  · rw [e60]
    exact h37
  · rw [e60]
    exact hK
  · rw [e60]
    exact r4
  · rw [eR 78 i hi, eR 79 i hi, eR 80 i hi, eR 81 i hi]
    exact r5 i hi
theorem FS.w {c c' : Nat} {s0 u0 s u : St} (h : FS c s0 u0 s u) (hc : c ≤ c') {t : Nat} (ht : t = 78 ∨ t = 79 ∨ t = 80 ∨ t = 81) (v : Int32) : FS c s0 u0 s (up u t 0 c' v) := by
  obtain ⟨f1, f2, ⟨F, hF, a, h1, h2, h3, h4, h5⟩, r5⟩ := h
  have e60 : up u t 0 c' v 60 = u 60 := by
    funext x y
    have : ¬ 60 = t := by omega
    simp [up, this]
  have eR : ∀ t' i, i < c → up u t 0 c' v t' 0 i = u t' 0 i := fun t' i hi => by
    have : ¬ i = c' := by omega
    simp [up, this]
  refine ⟨f1, ⟨fun t' h1 h2 h3 h4 h5 => ?_, fun j h1 h2 => ?_⟩, ⟨F, hF, a, h1, ?_, h3, h4, ?_⟩, fun i hi => ?_⟩
  · rw [← f2.1 t' h1 h2 h3 h4 h5]
    funext x y
    have : ¬ t' = t := by omega
    simp [up, this]
  · rw [e60]
    exact f2.2 j h1 h2
  · rw [e60]
    exact h2
  · rw [e60]
    exact h5
  · rw [eR 78 i hi, eR 79 i hi, eR 80 i hi, eR 81 i hi]
    exact r5 i hi
theorem FS.n {c : Nat} {s0 u0 s u : St} (h : FS c s0 u0 s u) (v : Int32) : FS c s0 u0 s (up u 60 0 29 v) := by
  obtain ⟨f1, f2, ⟨F, hF, a, h1, h2, h3, h4, h5⟩, r5⟩ := h
  refine ⟨f1, ⟨fun t' h1 h2 h3 h4 h5 => ?_, fun j h1 h2 => ?_⟩, ⟨F, hF, a, h1, by simpa [up] using h2, h3, h4, by simpa [up] using h5⟩, r5⟩
  · rw [← f2.1 t' h1 h2 h3 h4 h5]
    funext x y
    simp [up, h1]
  · rw [← f2.2 j h1 h2]
    simp [up, h1]
theorem FS.f {c : Nat} {s0 u0 s u : St} (h : FS c s0 u0 s u) : ¬ u 60 0 38 = 0 ∧ ¬ u 60 0 38 ≤ 0 := by
  obtain ⟨f1, f2, ⟨F, hF, a, h1, h2, h3, h4, h5⟩, r5⟩ := h
  rw [h2]
  rcases hF with h | h | h <;> subst h <;> exact ⟨by decide, by decide⟩
theorem FS.num (g : Nat × Nat) {c : Nat} {s0 u0 s u : St} (h : FS c s0 u0 s u) (M : Int32) : F_X11_numberTo g M u = some (0, u) := by
  unfold F_X11_numberTo
  rw [if_neg h.f.2]
theorem FS.must (g : Nat × Nat) {c : Nat} {s0 u0 s u : St} (h : FS c s0 u0 s u) (x : Int32) : F_X11_must g x u = some ((), u) := by
  unfold F_X11_must F_X11_must_9 F_X11_bad
  rw [if_neg h.f.1, if_neg h.f.1, bd_so, if_neg h.f.1, ite_self]
theorem F_stage (g : Nat × Nat) {c' : Nat} (hc : c' < 30) (w v x : Int32) {s : St} (h : s 17 0 6 = nI c') : F_X6_stage g w v x s = some ((), up (up (up (up s 18 0 c' w) 19 0 c' v) 20 0 c' x) 17 0 6 (nI (c' + 1))) := by
  unfold F_X6_stage F_X6_hasRoom
  have e1 : up (up (up s 18 0 c' w) 19 0 c' v) 20 0 c' x 17 0 6 = nI c' := h
  rw [h, if_neg (show ¬ (30 : Int32) ≤ nI c' from nI_ge (b := 30) hc (by omega)), bd_so, if_neg (show ¬ (1 : Int32) = 0 by decide), h, gd_of (inb_nI hc (by omega)), gd_of (inb_nI hc (by omega)), gd_of (inb_nI hc (by omega)), nI_clamp (by omega), nI_1]
/-- the staged rule taken by both, and the next token -/
theorem fin_ok (g : Nat × Nat) {b : Nat → Nat} {L c c' a e : Nat} {s0 u0 s u : St} (h : PS b L c c' s0 u0 s u a e) (hc : c' < 30) {w v3 x w' of' nu : Int32} (h78 : u 78 0 c' = w) (h79 : u 79 0 c' = w') (hR : RR1 w v3 x w w' of' nu) : ∃ (s' u' : St) (a' e' : Nat), F_X8_takeToken g (up (up (up (up s 18 0 c' w) 19 0 c' v3) 20 0 c' x) 17 0 6 (nI (c' + 1))) = some ((), s') ∧ F_X11_next g u = some ((), u') ∧ u' 60 0 29 = nI c' ∧ (∀ t, t ≠ 60 → u' t = u t) ∧ e ≤ a' ∧ PS b L c (c' + 1) s0 u0 s' (up (up (up u' 80 0 c' of') 81 0 c' nu) 60 0 29 (nI (c' + 1))) a' e' := by
  obtain ⟨f1, f2, f3, f4, ⟨hB, hC, h1, h33, hae, heL, h5, h6, h36, h34, h37, hK⟩, r1, r2, r3, r4, r5⟩ := h
  obtain ⟨s', u', a', e', t1, t2, t3, t4, t5⟩ := tok_same g (s := up (up (up (up s 18 0 c' w) 19 0 c' v3) 20 0 c' x) 17 0 6 (nI (c' + 1))) hB hC h1 h33 heL h6 h34
  refine ⟨s', u', a', e', t1, t2, ?_, t3.2.2.1, t4, ⟨fun t k1 k2 k3 k4 k5 => ?_, ?_, ?_⟩, ⟨fun t k1 k2 k3 k4 k5 => ?_, fun j k1 k2 => ?_⟩, ?_, ?_, ?_, by omega, by omega, ?_, ?_, fun i hi => ?_⟩
  · rw [t3.2.2.2 29 (by omega)]
    exact r4
  · rw [t3.1 t k5, ← f1.1 t k1 k2 k3 k4 k5]
    funext y z
    simp [up, k1, k2, k3, k4]
  · rw [t3.1 17 (by decide), ← f1.2.1]
    rfl
  · rw [t3.2.1 1 (by omega), ← f1.2.2]
    rfl
  · rw [← f2.1 t k1 k2 k3 k4 k5, ← t3.2.2.1 t k1]
    funext y z
    simp [up, k1, k4, k5]
  · rw [← f2.2 j k1 k2, ← t3.2.2.2 j (by omega)]
    simp [up, k1]
  · rw [← f3, ← t3.2.2.2 38 (by omega)]
    rfl
  · rw [t3.2.1 2 (by omega), ← f4]
    rfl
  · exact t5
  · rw [t3.1 17 (by decide)]
    exact up_at
  · exact up_at
  · have n78 : up (up (up u' 80 0 c' of') 81 0 c' nu) 60 0 29 (nI (c' + 1)) 78 = u 78 := by
      rw [← t3.2.2.1 78 (by decide)]
      rfl
    have n79 : up (up (up u' 80 0 c' of') 81 0 c' nu) 60 0 29 (nI (c' + 1)) 79 = u 79 := by
      rw [← t3.2.2.1 79 (by decide)]
      rfl
    rw [n78, n79, t3.1 18 (by decide), t3.1 19 (by decide), t3.1 20 (by decide)]
    by_cases q : i = c'
    · subst q
      rw [h78, h79]
      have e1 : up (up (up (up s 18 0 i w) 19 0 i v3) 20 0 i x) 17 0 6 (nI (i + 1)) 18 0 i = w := by simp [up]
      have e2 : up (up (up (up s 18 0 i w) 19 0 i v3) 20 0 i x) 17 0 6 (nI (i + 1)) 19 0 i = v3 := by simp [up]
      have e3 : up (up (up (up s 18 0 i w) 19 0 i v3) 20 0 i x) 17 0 6 (nI (i + 1)) 20 0 i = x := by simp [up]
      have e4 : up (up (up u' 80 0 i of') 81 0 i nu) 60 0 29 (nI (i + 1)) 81 0 i = nu := by simp [up]
      have e5 : up (up (up u' 80 0 i of') 81 0 i nu) 60 0 29 (nI (i + 1)) 80 0 i = of' := by simp [up]
      rw [e1, e2, e3, e4, e5]
      exact hR
    · have e1 : up (up (up (up s 18 0 c' w) 19 0 c' v3) 20 0 c' x) 17 0 6 (nI (c' + 1)) 18 0 i = s 18 0 i := by simp [up, q]
      have e2 : up (up (up (up s 18 0 c' w) 19 0 c' v3) 20 0 c' x) 17 0 6 (nI (c' + 1)) 19 0 i = s 19 0 i := by simp [up, q]
      have e3 : up (up (up (up s 18 0 c' w) 19 0 c' v3) 20 0 c' x) 17 0 6 (nI (c' + 1)) 20 0 i = s 20 0 i := by simp [up, q]
      have e4 : up (up (up u' 80 0 c' of') 81 0 c' nu) 60 0 29 (nI (c' + 1)) 81 0 i = u 81 0 i := by
        rw [← t3.2.2.1 81 (by decide)]
        simp [up, q]
      have e5 : up (up (up u' 80 0 c' of') 81 0 c' nu) 60 0 29 (nI (c' + 1)) 80 0 i = u 80 0 i := by
        rw [← t3.2.2.1 80 (by decide)]
        simp [up, q]
      rw [e1, e2, e3, e4, e5]
      exact r5 i (by omega)
/-- both went on, or both found a fault -/
def RRes (b : Nat → Nat) (L c c' : Nat) (s0 u0 : St) (a : Nat) (x : Option (Int32 × St)) (m : Option (Unit × St)) : Prop := (∃ (s' u' : St) (a' e' : Nat), x = some (1, s') ∧ m = some ((), u') ∧ a < a' ∧ PS b L c (c' + 1) s0 u0 s' u' a' e') ∨ (∃ s' u' : St, x = some (0, s') ∧ m = some ((), u') ∧ FS c s0 u0 s' u')
theorem rd_num (g : Nat × Nat) {b : Nat → Nat} {L c c' a e : Nat} {s0 u0 s u : St} (h : PS b L c c' s0 u0 s u a e) (hc : c' < 30) {w v3 w' of' M : Int32} (hv : inb v3 8 = true) (hM : stV 4 v3.toNatClampNeg = M) (h78 : u 78 0 c' = w) (h79 : u 79 0 c' = w') (h80 : u 80 0 c' = of') (hR : ∀ n : Int32, RR1 w v3 n w w' of' n) : RRes b L c c' s0 u0 a (F_X8_readRule_57 g w v3 s) (F_X11_readRule_126 g w (nI c') M u) := by
  have hb : inb (nI c') 30 = true := inb_nI hc (by omega)
  unfold F_X8_readRule_57 F_X11_readRule_126
  rw [gd_of hv, hM]
  rcases num_same g h.2.2.2.2.1 h.2.2.1 M with ⟨v, v1, v2, v3', v4, v5, v6⟩ | ⟨F, v, hF, v5, v6⟩
  · obtain ⟨s', u', a', e', t1, t2, t3, t3', t4, t5⟩ := fin_ok g h hc h78 h79 (hR (nI v))
    rw [up_id (show u' 80 0 c' = of' by rw [t3' 80 (by decide)]; exact h80)] at t5
    rw [v5, bd_so, if_neg (show ¬ (1 : Int32) = 0 by decide), v6, t2, bd_so, bd_so, v3', F_stage g hc w v3 (nI v) h.2.2.2.2.2.2.2.1, bd_so, t1, bd_so, F_X11_readRule_129, gd_of hb, nI_clamp (by omega)]
    refine Or.inl ⟨s', _, a', e', rfl, rfl, by omega, ?_⟩
    have : up u' 81 0 c' (nI v) 60 0 29 + 1 = nI (c' + 1) := by
      rw [show up u' 81 0 c' (nI v) 60 0 29 = nI c' from t3, nI_1]
    rw [show u' 60 0 29 = nI c' from t3, nI_1]
    exact t5
  · have hf := h.bad (show F = 1 ∨ F = 2 ∨ F = 3 by rcases hF with q | q <;> simp [q])
    rw [v5, bd_so, if_pos rfl, v6, bd_so, F_X11_readRule_129, gd_of hb, nI_clamp (by omega)]
    exact Or.inr ⟨_, _, rfl, rfl, (hf.w h.2.2.2.2.2.1 (Or.inr (Or.inr (Or.inr rfl))) v).n _⟩
theorem RRes.mono {b : Nat → Nat} {L c c' a a2 : Nat} {s0 u0 : St} {x : Option (Int32 × St)} {m : Option (Unit × St)} (h : RRes b L c c' s0 u0 a2 x m) (ha : a ≤ a2) : RRes b L c c' s0 u0 a x m := by
  rcases h with ⟨s', u', a', e', h1, h2, h3, h4⟩ | h
  · exact Or.inl ⟨s', u', a', e', h1, h2, by omega, h4⟩
  · exact Or.inr h
theorem rw_no {w w' : Int32} (h : rwK w w') : ¬ w = -1000000 ∧ ¬ w' = -1000000 := by
  rcases h with ⟨h, h'⟩ | ⟨h, h'⟩ | ⟨h, h'⟩ | ⟨h, h'⟩ | ⟨h, h'⟩ <;> subst h <;> subst h' <;> exact ⟨by decide, by decide⟩
theorem rd_rule (g : Nat × Nat) {b : Nat → Nat} {L c c' a e w : Nat} {s0 u0 s u : St} (hb : ∀ i, b i < 256) (hw : w ≤ 99) (h : PS b L c c' s0 u0 s u a e) : RRes b L c c' s0 u0 a (F_X8_readRule g (nI w) s) (F_X11_readRule g (nI w) u) := by
  have h0 := h
  obtain ⟨f1, f2, f3, f4, tk, r1, r2, r3, r4, r5⟩ := h
  have tk0 := tk
  obtain ⟨hB, hC, h1, h33, hae, heL, h5, h6, h36, h34, h37, hK⟩ := tk
  unfold F_X8_readRule F_X11_readRule
  rcases rule_word g hb tk0 with ⟨e1, e2⟩ | ⟨k1, wx, wm, hw2, e1, e2⟩
  · have e3 : up (up u 60 0 38 1) 60 0 39 (nI a) 60 0 38 = 1 := by simp [up]
    rw [e1, bd_so, if_pos rfl, F_X8_faulty, bd_so, gd_of (by decide), h5, e2, bd_so, if_pos rfl, F_X11_readRule_25, if_pos rfl, F_X11_readRule_37, F_X11_must, if_pos rfl, F_X11_bad, f3, if_pos rfl, h36, bd_so, F_X11_must_9, e3, if_neg (by decide), bd_so, e3, if_neg (by decide)]
    exact Or.inr ⟨_, _, rfl, rfl, h0.bad (Or.inl rfl)⟩
  · obtain ⟨n1, n2⟩ := rw_no hw2
    rw [e1, bd_so, if_neg n1, F_X6_hasRoom, r3, e2, bd_so, if_neg n2, r4]
    by_cases q : c' = 30
    · have e3 : up (up u 60 0 38 3) 60 0 39 (nI a) 60 0 38 = 3 := by simp [up]
      rw [if_pos (show (30 : Int32) ≤ nI c' by rw [q]; decide), bd_so, if_pos rfl, F_X8_faulty, bd_so, gd_of (by decide), h5, if_pos (show nI c' = 30 by rw [q]; rfl), F_X11_bad, f3, if_pos rfl, h36, bd_so, F_X11_readRule_25, if_neg n2, F_X11_readRule_37, F_X11_must, if_neg (show ¬ (1 : Int32) = 0 by decide), F_X11_must_9, e3, if_neg (by decide), bd_so, e3, if_neg (by decide)]
      exact Or.inr ⟨_, _, rfl, rfl, h0.bad (Or.inr (Or.inr rfl))⟩
    · have hc : c' < 30 := by omega
      have hin : inb (nI c') 30 = true := inb_nI hc (by omega)
      obtain ⟨s1, u1, a1, e1', t1, t2, t3, t4, t5⟩ := adv g h0
      have v38 := t5.2.2.1
      have v29 := t5.2.2.2.2.2.2.2.2.1
      rw [if_neg (show ¬ (30 : Int32) ≤ nI c' from nI_ge (b := 30) hc (by omega)), bd_so, if_neg (show ¬ (1 : Int32) = 0 by decide), t1, bd_so, if_neg (show ¬ nI c' = 30 from nI_ne (b := 30) (by omega) (by omega) q), F_X11_readRule_25, if_neg n2, F_X11_readRule_37, F_X11_must, if_neg (show ¬ (1 : Int32) = 0 by decide), F_X11_must_9, f3, if_pos rfl, t2, bd_so, bd_so, v38, if_pos (show (0 : Int32) ≤ 0 by decide), v29, gd_of hin, gd_of hin, nI_clamp (by omega)]
      have p1 := (t5.w (Or.inl rfl) (nI w)).w (t := 79) (Or.inr (Or.inl rfl)) wm
      have w78 : ∀ t v, t = 80 ∨ t = 81 → up (up (up u1 78 0 c' (nI w)) 79 0 c' wm) t 0 c' v 78 0 c' = nI w := fun t v ht => by
        rcases ht with ht | ht <;> subst ht <;> simp [up]
      have w79 : ∀ t v, t = 80 ∨ t = 81 → up (up (up u1 78 0 c' (nI w)) 79 0 c' wm) t 0 c' v 79 0 c' = wm := fun t v ht => by
        rcases ht with ht | ht <;> subst ht <;> simp [up]
      have hww : ∃ w' : Nat, w' ≤ 99 ∧ nI w = nI w' := ⟨w, hw, rfl⟩
      have v29' : up (up u1 78 0 c' (nI w)) 79 0 c' wm 60 0 29 = nI c' := v29
      have plain : ∀ (M : Int32), stV 4 wx.toNatClampNeg = M → inb wx 8 = true → (∀ n : Int32, RR1 (nI w) wx n (nI w) wm 0 n) → RRes b L c c' s0 u0 a (F_X8_readRule_57 g (nI w) wx s1) (F_X11_readRule_126 g (nI w) (nI c') M (up (up (up u1 78 0 c' (nI w)) 79 0 c' wm) 80 0 c' 0)) := fun M hM hi hR =>
        RRes.mono (rd_num g (p1.w (t := 80) (Or.inr (Or.inr (Or.inl rfl))) 0) hc hi hM (w78 80 0 (Or.inl rfl)) (w79 80 0 (Or.inl rfl)) up_at hR) (by omega)
      rcases hw2 with ⟨rfl, rfl⟩ | ⟨rfl, rfl⟩ | ⟨rfl, rfl⟩ | ⟨rfl, rfl⟩ | ⟨rfl, rfl⟩
      · rw [if_pos rfl, if_pos rfl, F_X11_readRule_85]
        rcases num_same g p1.2.2.2.2.1 p1.2.2.1 3 with ⟨v, v1, v2, v3', v4, v5, v6⟩ | ⟨F, v, hF, v5, v6⟩
        · obtain ⟨s3, u3, a3, e3, y1, y2, y3, y4, y5⟩ := adv g p1
          have hv : v ≤ 3 := (nI_leI (b := 3) (by omega) (by omega)).mp v4
          have z29 := y5.2.2.2.2.2.2.2.2.1
          rw [v5, bd_so, if_neg (show ¬ (1 : Int32) = 0 by decide), y1, bd_so, v3', v6, y2, bd_so, bd_so, F_X11_readRule_94, gd_of hin, nI_clamp (by omega), if_neg (show ¬ (0 : Int32) = 4 by decide), if_neg (show ¬ (0 : Int32) = 2 by decide), z29]
          refine RRes.mono (rd_num g (y5.w (t := 80) (Or.inr (Or.inr (Or.inl rfl))) (nI v)) hc (inb_nI (show v < 8 by omega) (by omega)) ?_ (w' := 0) ?_ ?_ up_at (fun n => ⟨rfl, hww, Or.inl ⟨rfl, rfl, ⟨v, by omega, rfl⟩, rfl⟩⟩)) (by omega)
          · rw [nI_clamp (by omega)]
            have : v = 0 ∨ v = 1 ∨ v = 2 ∨ v = 3 := by omega
            rcases this with q | q | q | q <;> subst q <;> rfl
          · have : u3 78 0 c' = nI w := by
              rw [y3.2.2.1 78 (by decide)]
              simp [up]
            simpa [up] using this
          · have : u3 79 0 c' = 0 := by
              rw [y3.2.2.1 79 (by decide)]
              simp [up]
            simpa [up] using this
        · have hf := p1.bad (show F = 1 ∨ F = 2 ∨ F = 3 by rcases hF with q | q <;> simp [q])
          have hf2 := hf.w r1 (t := 80) (Or.inr (Or.inr (Or.inl rfl))) v
          have z29 : up (up (up (up u1 78 0 c' (nI w)) 79 0 c' 0) 60 0 38 F) 60 0 39 (nI a1) 60 0 29 = nI c' := v29
          rw [v5, bd_so, if_pos rfl, v6, bd_so, F_X11_readRule_94, gd_of hin, nI_clamp (by omega), if_neg (show ¬ (0 : Int32) = 4 by decide), if_neg (show ¬ (0 : Int32) = 2 by decide), z29, F_X11_readRule_126, hf2.num g 99, bd_so, F_X11_readRule_129, gd_of hin, nI_clamp (by omega)]
          exact Or.inr ⟨_, _, rfl, rfl, (hf2.w r1 (t := 81) (Or.inr (Or.inr (Or.inr rfl))) 0).n _⟩
      · rw [if_neg (show ¬ (4 : Int32) = 0 by decide), if_neg (show ¬ (1 : Int32) = 0 by decide), if_neg (show ¬ (1 : Int32) = 4 by decide), F_X11_readRule_94, gd_of hin, nI_clamp (by omega), if_neg (show ¬ (1 : Int32) = 4 by decide), if_neg (show ¬ (1 : Int32) = 2 by decide), v29']
        exact plain 99 rfl rfl (fun n => ⟨rfl, hww, Or.inr (Or.inl ⟨rfl, rfl, rfl, rfl⟩)⟩)
      · rw [if_neg (show ¬ (5 : Int32) = 0 by decide), if_neg (show ¬ (2 : Int32) = 0 by decide), if_neg (show ¬ (2 : Int32) = 4 by decide), F_X11_readRule_94, gd_of hin, nI_clamp (by omega), if_neg (show ¬ (2 : Int32) = 4 by decide), if_pos (show (2 : Int32) = 2 from rfl), v29']
        exact plain 9999 rfl rfl (fun n => ⟨rfl, hww, Or.inr (Or.inr (Or.inl ⟨rfl, rfl, rfl, rfl⟩))⟩)
      · rw [if_neg (show ¬ (6 : Int32) = 0 by decide), if_neg (show ¬ (3 : Int32) = 0 by decide), if_neg (show ¬ (3 : Int32) = 4 by decide), F_X11_readRule_94, gd_of hin, nI_clamp (by omega), if_neg (show ¬ (3 : Int32) = 4 by decide), if_neg (show ¬ (3 : Int32) = 2 by decide), v29']
        exact plain 99 rfl rfl (fun n => ⟨rfl, hww, Or.inr (Or.inr (Or.inr (Or.inl ⟨rfl, rfl, rfl, rfl⟩)))⟩)
      · rw [if_neg (show ¬ (7 : Int32) = 0 by decide), if_neg (show ¬ (4 : Int32) = 0 by decide), if_pos (show (4 : Int32) = 4 from rfl), F_X11_readRule_85, F_X8_readRule_57, gd_of (show inb (7 : Int32) 8 = true from rfl), show stV 4 (7 : Int32).toNatClampNeg = 3 from rfl]
        rcases num_same g p1.2.2.2.2.1 p1.2.2.1 3 with ⟨v, v1, v2, v3', v4, v5, v6⟩ | ⟨F, v, hF, v5, v6⟩
        · have hv : v ≤ 3 := (nI_leI (b := 3) (by omega) (by omega)).mp v4
          obtain ⟨s', u', a', e', y1, y2, y3, y3', y4, y5⟩ := fin_ok g p1 hc (w := nI w) (v3 := 7) (x := nI v) (w' := 4) (of' := nI v) (nu := 0) (by simp [up]) (by simp [up]) ⟨rfl, hww, Or.inr (Or.inr (Or.inr (Or.inr ⟨rfl, rfl, rfl, v, by omega, rfl⟩)))⟩
          have z29 : up (up u' 80 0 c' (nI v)) 81 0 c' 0 60 0 29 = nI c' := y3
          rw [v5, bd_so, if_neg (show ¬ (1 : Int32) = 0 by decide), v3', F_stage g hc (nI w) 7 (nI v) t5.2.2.2.2.2.2.2.1, bd_so, y1, bd_so, v6, y2, bd_so, bd_so, F_X11_readRule_94, gd_of hin, nI_clamp (by omega), if_pos (show (4 : Int32) = 4 from rfl), y3, F_X11_readRule_129, gd_of hin, nI_clamp (by omega)]
          refine Or.inl ⟨s', _, a', e', rfl, rfl, by omega, ?_⟩
          rw [show up u' 80 0 c' (nI v) 60 0 29 = nI c' from y3, nI_1]
          exact y5
        · have hf := p1.bad (show F = 1 ∨ F = 2 ∨ F = 3 by rcases hF with q | q <;> simp [q])
          have hf2 := hf.w r1 (t := 80) (Or.inr (Or.inr (Or.inl rfl))) v
          have z29 : up (up (up (up u1 78 0 c' (nI w)) 79 0 c' 4) 60 0 38 F) 60 0 39 (nI a1) 60 0 29 = nI c' := v29
          rw [v5, bd_so, if_pos rfl, v6, bd_so, F_X11_readRule_94, gd_of hin, nI_clamp (by omega), if_pos (show (4 : Int32) = 4 from rfl), z29, F_X11_readRule_129, gd_of hin, nI_clamp (by omega)]
          exact Or.inr ⟨_, _, rfl, rfl, (hf2.w r1 (t := 81) (Or.inr (Or.inr (Or.inr rfl))) 0).n _⟩
