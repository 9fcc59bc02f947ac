/-! thing -/
theorem nI_ne {a b : Nat} (ha : a < 2 ^ 31) (hb : b < 2 ^ 31) (h : a ≠ b) : ¬ nI a = nI b := fun q => h ((nI_eq ha hb).mp q)
/-- both sides add a THING of sort t, or are full -/
theorem thing_add {N : Nat} {g : Nat × Nat} {s u : St} (h : Rel (N + 1) g s u) {t : Nat} (ht : t ≤ 5) (n o : Int32) (ho : t = 2 ∨ t = 3 → ∃ (c j : Nat), s 38 0 4 = nI c ∧ c ≤ 16 ∧ j < c ∧ o = nI j) : Same N g (F_X0_addThing g (nI t) n o s) (F_X11_thing_85 g (nI t) n o u) := by
  obtain ⟨hA, hB, hC, hD, hE, hF, hG, hH, hI, hJ, hK, hL, hM⟩ := id h
  obtain ⟨c, hc, h1, h2, h3⟩ := id hK
  unfold F_X0_addThing F_X11_thing_85
  simp only [h1, h2]
  by_cases q : c < 16
  · have e1 : nI c < (16 : Int32) := nI_lt (b := 16) q (by omega)
    have e2 : ¬ nI c = (16 : Int32) := nI_ne (b := 16) (by omega) (by omega) (by omega)
    have hb : inb (nI c) 16 = true := inb_nI q (by omega)
    rw [if_pos e1, if_neg e2]
    simp only [gd_of hb, nI_clamp (show c < 2 ^ 31 by omega)]
    refine ⟨_, _, _, rfl, rfl, hA, hB, hC, hD, hE, hF, hG, hH, hI, hJ, ?_, hL, hM⟩
    have := RTh.push (n := n) (o := o) q h1 h2 h3 ht (fun q9 => by
      obtain ⟨c2, j, g1, g2, g3, g4⟩ := ho q9
      have : c2 = c := (nI_eq (by omega) (by omega)).mp (g1.symm.trans h1)
      exact ⟨j, by omega, g4⟩)
    exact this
  · have e : c = 16 := by omega
    subst e
    rw [if_neg (by decide), if_pos (by decide)]
    exact ⟨_, _, _, rfl, rfl, h⟩
theorem bd_ite {α β : Type} {c : Prop} [Decidable c] (x y : Option (α × St)) (f : α → St → Option β) : bd (if c then x else y) f = if c then bd x f else bd y f := by
  by_cases h : c
  · rw [if_pos h, if_pos h]
  · rw [if_neg h, if_neg h]
theorem bd_gd {α β : Type} (b : Bool) (x : Option (α × St)) (f : α → St → Option β) : bd (gd b x) f = gd b (bd x f) := by
  unfold gd
  rw [bd_ite]
  rfl
theorem i10 : ((1 : Int32) = 0) = False := eq_false (by decide)
theorem Same.ret {N : Nat} {g : Nat × Nat} {x m : Option (Int32 × St)} (h : Same N g x m) : Same N g (bd x (fun r s' => some (r, s'))) m := by
  obtain ⟨r, s', u', e1, e2, e3⟩ := h
  exact ⟨r, s', u', by rw [e1]; rfl, e2, e3⟩
theorem op_thing {N : Nat} {g : Nat × Nat} {s u : St} (h : Rel N g s u) (a b o : Int32) : Same N g (F_X10_thing g a b o s) (F_X11_thing g a b o u) := by
  have hR := h.read
  obtain ⟨c, hc, h1, h2, h3⟩ := id hR.2.2.2.2.2.2.2.2.2.2.1
  have bad : Same N g (some (-1000001, s)) (some (-1000001, up u 60 0 0 0)) := ⟨_, _, _, rfl, rfl, hR⟩
  -- a THING that is made of another one
  have made : ∀ t : Nat, (t = 2 ∨ t = 3) → Same N g (if bw o 0 (nI c - 1) = true then gd (inb o 16) (if s 39 0 o.toNatClampNeg = stV 0 t then bd (F_X0_addThing g (nI t) b o s) (fun r s' => some (r, s')) else some (-1000001, s)) else some (-1000001, s))
      (if bw o 0 (nI c - 1) = true then gd (inb o 16) (if up u 60 0 0 0 88 0 o.toNatClampNeg = nI t - 1 then F_X11_thing_85 g (nI t) b o (up u 60 0 0 0) else some (-1000001, up u 60 0 0 0)) else some (-1000001, up u 60 0 0 0)) := by
    intro t ht
    by_cases q : bw o 0 (nI c - 1) = true
    · obtain ⟨j, hj, rfl⟩ := bw_lt (by omega) q
      have e1 : up u 60 0 0 0 88 0 j = s 39 0 j := (h3 j hj).1
      have e2 : stV 0 t = nI t - 1 := by rcases ht with rfl | rfl <;> decide
      simp only [q, if_true, gd_of (inb_nI (show j < 16 by omega) (by omega)), nI_clamp (show j < 2 ^ 31 by omega), e1, e2]
      by_cases q2 : s 39 0 j = nI t - 1
      · simp only [q2, if_true]
        exact (thing_add hR (by omega) b (nI j) (fun _ => ⟨c, j, h1, hc, hj, rfl⟩)).ret
      · simp only [q2]
        exact bad
    · simp only [q]
      exact bad
  -- one that isn't
  have plain : ∀ t : Nat, t ≤ 5 → ¬ (t = 2 ∨ t = 3) → Same N g (if o = -1000000 then bd (F_X0_addThing g (nI t) b o s) (fun r s' => some (r, s')) else some (-1000001, s)) (if o = -1000000 then F_X11_thing_85 g (nI t) b o (up u 60 0 0 0) else some (-1000001, up u 60 0 0 0)) := by
    intro t ht hn
    by_cases q : o = -1000000
    · rw [if_pos q, if_pos q]
      exact (thing_add hR ht b o (fun q9 => absurd q9 hn)).ret
    · rw [if_neg q, if_neg q]
      exact bad
  unfold F_X10_thing F_X11_thing F_X11_thing_15 F_X11_thing_20 F_X11_thing_57 F_X0_canBeMadeOf
  simp only [F_hasThing, G_isThing, F_within, in_0_5, in_0_999, bd_so, bI_if, h1, h2]
  by_cases q1 : bw a 0 5 = true
  · obtain ⟨t, ht, rfl⟩ := bw_of (n := 5) rfl q1
    have hb : inb (nI t) 6 = true := inb_nI (by omega) (by omega)
    by_cases q2 : bw b 0 999 = true
    · simp only [q1, q2, if_true, gd_of hb, nI_clamp (show t < 2 ^ 31 by omega)]
      simp only [bd_ite, bd_gd, bd_so, i10, if_true, if_false]
      by_cases q3 : t = 2 ∨ t = 3
      · have e0 : ¬ stV 0 t = -1000000 := by rcases q3 with rfl | rfl <;> decide
        have := made t q3
        rw [if_neg e0]
        rcases q3 with rfl | rfl
        · rw [if_pos (show nI 2 = (2 : Int32) by decide)]
          exact this
        · rw [if_neg (show ¬ nI 3 = (2 : Int32) by decide), if_pos (show nI 3 = (3 : Int32) by decide)]
          exact this
      · have e0 : stV 0 t = -1000000 := by
          rcases (show t = 0 ∨ t = 1 ∨ t = 4 ∨ t = 5 by omega) with rfl | rfl | rfl | rfl <;> decide
        have e1 : ¬ nI t = 2 := nI_ne (b := 2) (by omega) (by omega) (by omega)
        have e2 : ¬ nI t = 3 := nI_ne (b := 3) (by omega) (by omega) (by omega)
        rw [if_pos e0, if_neg e1, if_neg e2]
        exact plain t ht q3
    · simp only [q1, q2, if_true, ite_self, Bool.false_eq_true, if_false]
      exact bad
  · simp only [q1, ite_self, Bool.false_eq_true, if_false]
    exact bad
