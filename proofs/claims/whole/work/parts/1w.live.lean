/-! step: a home's week -/
def HX (s0 : St) (k : Nat) (x : HS) (hu re : Int32) (s : St) : Prop := (∀ t, t ≠ 26 → t ≠ 27 → s t = s0 t) ∧ (∀ k', k' ≠ k → s 26 k' = s0 26 k' ∧ s 27 k' = s0 27 k') ∧ (∀ j, j < 5 ∨ 7 < j → s 26 k j = s0 26 k j) ∧ s 26 k 5 = x.1 ∧ s 26 k 6 = hu ∧ s 26 k 7 = re ∧ ∀ q, q < 4 → s 27 k q = x.2 q
def HM (u0 : St) (k : Nat) (x : HS) (hu re : Int32) (u : St) : Prop := (∀ t, t ≠ 84 → u t = u0 t) ∧ (∀ j, j < 11 * k + 3 ∨ j = 11 * k + 4 ∨ 11 * k + 11 ≤ j → u 84 0 j = u0 84 0 j) ∧ u 84 0 (11 * k + 3) = x.1 ∧ u 84 0 (11 * k + 9) = hu ∧ u 84 0 (11 * k + 10) = re ∧ ∀ q, q < 4 → u 84 0 (11 * k + 5 + q) = x.2 q
theorem HX.sv {s0 s : St} {k : Nat} {x : HS} {hu re : Int32} (h : HX s0 k x hu re s) (v : Int32) : HX s0 k (v, x.2) hu re (up s 26 k 5 v) := by
  obtain ⟨h1, h2, h3, h4, h5, h6, h7⟩ := h
  refine ⟨fun t t1 t2 => ?_, fun k' e => ⟨?_, (h2 k' e).2⟩, fun j hj => ?_, by simp [up], by simpa [up] using h5, by simpa [up] using h6, h7⟩
  · rw [← h1 t t1 t2]
    funext a b
    simp [up, t1]
  · rw [← (h2 k' e).1]
    funext b
    simp [up, e]
  · rw [← h3 j hj]
    have : ¬ j = 5 := by omega
    simp [up, this]
theorem HX.hu {s0 s : St} {k : Nat} {x : HS} {hu re : Int32} (h : HX s0 k x hu re s) (v : Int32) : HX s0 k x v re (up s 26 k 6 v) := by
  obtain ⟨h1, h2, h3, h4, h5, h6, h7⟩ := h
  refine ⟨fun t t1 t2 => ?_, fun k' e => ⟨?_, (h2 k' e).2⟩, fun j hj => ?_, by simpa [up] using h4, by simp [up], by simpa [up] using h6, h7⟩
  · rw [← h1 t t1 t2]
    funext a b
    simp [up, t1]
  · rw [← (h2 k' e).1]
    funext b
    simp [up, e]
  · rw [← h3 j hj]
    have : ¬ j = 6 := by omega
    simp [up, this]
theorem HX.re {s0 s : St} {k : Nat} {x : HS} {hu re : Int32} (h : HX s0 k x hu re s) (v : Int32) : HX s0 k x hu v (up s 26 k 7 v) := by
  obtain ⟨h1, h2, h3, h4, h5, h6, h7⟩ := h
  refine ⟨fun t t1 t2 => ?_, fun k' e => ⟨?_, (h2 k' e).2⟩, fun j hj => ?_, by simpa [up] using h4, by simpa [up] using h5, by simp [up], h7⟩
  · rw [← h1 t t1 t2]
    funext a b
    simp [up, t1]
  · rw [← (h2 k' e).1]
    funext b
    simp [up, e]
  · rw [← h3 j hj]
    have : ¬ j = 7 := by omega
    simp [up, this]
theorem HX.good {s0 s : St} {k : Nat} {x : HS} {hu re : Int32} (h : HX s0 k x hu re s) (p : Nat) (v : Int32) : HX s0 k (x.1, fun c => if c = p then v else x.2 c) hu re (up s 27 k p v) := by
  obtain ⟨h1, h2, h3, h4, h5, h6, h7⟩ := h
  refine ⟨fun t t1 t2 => ?_, fun k' e => ⟨(h2 k' e).1, ?_⟩, h3, h4, h5, h6, fun q hq => ?_⟩
  · rw [← h1 t t1 t2]
    funext a b
    simp [up, t2]
  · rw [← (h2 k' e).2]
    funext b
    simp [up, e]
  · show up s 27 k p v 27 k q = if q = p then v else x.2 q
    by_cases e : q = p
    · subst e
      simp [up]
    · rw [if_neg e, ← h7 q hq]
      simp [up, e]
theorem HM.sv {u0 u : St} {k : Nat} {x : HS} {hu re : Int32} (h : HM u0 k x hu re u) (v : Int32) : HM u0 k (v, x.2) hu re (up u 84 0 (11 * k + 3) v) := by
  obtain ⟨h1, h2, h3, h4, h5, h6⟩ := h
  refine ⟨fun t t1 => ?_, fun j hj => ?_, by simp [up], by simpa [up] using h4, by simpa [up] using h5, fun q hq => ?_⟩
  · rw [← h1 t t1]
    funext a b
    simp [up, t1]
  · rw [← h2 j hj]
    have : ¬ j = 11 * k + 3 := by omega
    simp [up, this]
  · have : ¬ 11 * k + 5 + q = 11 * k + 3 := by omega
    have e := h6 q hq
    simpa [up, this] using e
theorem HM.hu {u0 u : St} {k : Nat} {x : HS} {hu re : Int32} (h : HM u0 k x hu re u) (v : Int32) : HM u0 k x v re (up u 84 0 (11 * k + 9) v) := by
  obtain ⟨h1, h2, h3, h4, h5, h6⟩ := h
  refine ⟨fun t t1 => ?_, fun j hj => ?_, by simpa [up] using h3, by simp [up], by simpa [up] using h5, fun q hq => ?_⟩
  · rw [← h1 t t1]
    funext a b
    simp [up, t1]
  · rw [← h2 j hj]
    have : ¬ j = 11 * k + 9 := by omega
    simp [up, this]
  · have : ¬ 11 * k + 5 + q = 11 * k + 9 := by omega
    have e := h6 q hq
    simpa [up, this] using e
theorem HM.re {u0 u : St} {k : Nat} {x : HS} {hu re : Int32} (h : HM u0 k x hu re u) (v : Int32) : HM u0 k x hu v (up u 84 0 (11 * k + 10) v) := by
  obtain ⟨h1, h2, h3, h4, h5, h6⟩ := h
  refine ⟨fun t t1 => ?_, fun j hj => ?_, by simpa [up] using h3, by simpa [up] using h4, by simp [up], fun q hq => ?_⟩
  · rw [← h1 t t1]
    funext a b
    simp [up, t1]
  · rw [← h2 j hj]
    have : ¬ j = 11 * k + 10 := by omega
    simp [up, this]
  · have : ¬ 11 * k + 5 + q = 11 * k + 10 := by omega
    have e := h6 q hq
    simpa [up, this] using e
theorem HM.good {u0 u : St} {k : Nat} {x : HS} {hu re : Int32} (h : HM u0 k x hu re u) {p : Nat} (hp : p < 4) (v : Int32) : HM u0 k (x.1, fun c => if c = p then v else x.2 c) hu re (up u 84 0 (11 * k + 5 + p) v) := by
  obtain ⟨h1, h2, h3, h4, h5, h6⟩ := h
  refine ⟨fun t t1 => ?_, fun j hj => ?_, ?_, ?_, ?_, fun q hq => ?_⟩
  · rw [← h1 t t1]
    funext a b
    simp [up, t1]
  · rw [← h2 j hj]
    have : ¬ j = 11 * k + 5 + p := by omega
    simp [up, this]
  · have : ¬ 11 * k + 3 = 11 * k + 5 + p := by omega
    simpa [up, this] using h3
  · have : ¬ 11 * k + 9 = 11 * k + 5 + p := by omega
    simpa [up, this] using h4
  · have : ¬ 11 * k + 10 = 11 * k + 5 + p := by omega
    simpa [up, this] using h5
  · show up u 84 0 (11 * k + 5 + p) v 84 0 (11 * k + 5 + q) = if q = p then v else x.2 q
    by_cases e : q = p
    · subst e
      simp [up]
    · rw [if_neg e, ← h6 q hq]
      have : ¬ 11 * k + 5 + q = 11 * k + 5 + p := by omega
      simp [up, e]
theorem X_sellG (g : Nat × Nat) {s0 : St} {k : Nat} {hu re : Int32} {o : Nat → Nat} (ho : ∀ p, p < 4 → s0 21 0 p = nI (o p)) (ho2 : ∀ p, p < 4 → o p < 4) : ∀ (m i n : Nat) (s : St) (x : HS), HX s0 k x hu re s → i + m = 4 → m < n → ∃ s' : St, F_X3_sellGoods_2 g k 21 0 n (nI i) s = some ((), s') ∧ HX s0 k (slo o i m x) hu re s'
  | 0, i, n + 1, s, x, h, hi, _ => by
    have : i = 4 := by omega
    subst this
    refine ⟨s, ?_, h⟩
    rw [F_X3_sellGoods_2, if_pos (show (4 : Int32) ≤ nI 4 by decide)]
  | m + 1, i, n + 1, s, x, h, hi, hn => by
    rw [F_X3_sellGoods_2, if_neg (show ¬ (4 : Int32) ≤ nI i from nI_ge (b := 4) (by omega) (by omega)), h.2.2.2.1]
    by_cases e : 0 ≤ x.1
    · rw [if_pos e, slo_pos e]
      exact ⟨s, rfl, h⟩
    · have h21 : s 21 0 i = nI (o i) := by
        rw [h.1 21 (by decide) (by decide)]
        exact ho i (by omega)
      have oi := ho2 i (by omega)
      rw [if_neg e, gd_of (show inb (nI i) (lna 21) = true from (show inb (nI i) 4 = true from inb_nI (by omega) (by omega))), nI_clamp (by omega), h21, F_changed g (show lna 27 = 4 from rfl) oi (by omega), bd_so, h.2.2.2.2.2.2 (o i) oi, nI_1, slo]
      have hx : HX s0 k (s1 x (o i)) hu re (up (up s 27 k (o i) 0) 26 k 5 (x.1 + x.2 (o i))) := by
        unfold s1
        rw [if_neg e]
        exact (h.good (o i) 0).sv (x.1 + x.2 (o i))
      exact X_sellG g ho ho2 m (i + 1) n _ _ hx (by omega) (by omega)
theorem ix11p {k : Nat} (j : Nat) {y : Int32} (hy : y = nI j) : (11 : Int32) * nI k + y = nI (11 * k + j) := by
  rw [hy]
  exact ix11
theorem M_sell1 (g : Nat × Nat) {u0 u : St} {k q : Nat} {x : HS} {hu re : Int32} (hk : k < 12) (hq : q < 4) (h : HM u0 k x hu re u) : ∃ u' : St, F_X11_sell g (nI k) (nI q) u = some ((), u') ∧ HM u0 k (s1 x q) hu re u' := by
  unfold F_X11_sell
  have b1 : inb (nI (11 * k + 3)) 132 = true := inb_nI (by omega) (by omega)
  have b2 : inb (nI (11 * k + 5 + q)) 132 = true := inb_nI (by omega) (by omega)
  rw [ix11p 3 (y := (3 : Int32)) rfl, ix11p 5 (y := (5 : Int32)) rfl, nI_add, gd_of b1, gd_of b1, gd_of b1, gd_of b2, gd_of b2, nI_clamp (show 11 * k + 3 < 2 ^ 31 by omega), nI_clamp (show 11 * k + 5 + q < 2 ^ 31 by omega), h.2.2.1, h.2.2.2.2.2 q hq]
  unfold s1
  by_cases e : 0 ≤ x.1
  · rw [if_pos e, if_pos e]
    exact ⟨u, rfl, h⟩
  · rw [if_neg e, if_neg e]
    exact ⟨_, rfl, (h.sv (x.1 + x.2 q)).good hq 0⟩
theorem M_sellF (g : Nat × Nat) {u0 : St} {k F : Nat} {hu re v2 : Int32} {o : Nat → Nat} (hh : Int32 → St → Option (Unit × St)) (hk : k < 12) (hF : F ≤ 4) (h40 : u0 60 0 40 = nI F) (ho : ∀ p, p < F → u0 83 0 p = nI (o p)) (ho2 : ∀ p, p < 4 → o p < 4) : ∀ (m i n : Nat) (u : St) (x : HS), HM u0 k x hu re u → i + m = F → m < n → ∃ u' : St, F_X11_live_255 g (nI k) hh n v2 (nI i) u = hh v2 u' ∧ HM u0 k (slo o i m x) hu re u'
  | 0, i, n + 1, u, x, h, hi, _ => by
    have : i = F := by omega
    subst this
    refine ⟨u, ?_, h⟩
    rw [F_X11_live_255, h.1 60 (by decide), h40, if_pos (nI_le (Nat.le_refl _) (by omega))]
  | m + 1, i, n + 1, u, x, h, hi, hn => by
    have oi := ho2 i (by omega)
    obtain ⟨u', e1, e2⟩ := M_sell1 g hk oi h
    rw [F_X11_live_255, h.1 60 (by decide), h40, if_neg (nI_ge (by omega) (by omega)), gd_of (inb_nI (by omega) (by omega)), nI_clamp (by omega), h.1 83 (by decide), ho i (by omega), e1, bd_so, nI_1, slo]
    exact M_sellF g hh hk hF h40 ho ho2 m (i + 1) n u' _ e2 (by omega) (by omega)
theorem M_sell4 (g : Nat × Nat) {u0 : St} {k : Nat} {hu re v2 : Int32} (hh : Int32 → St → Option (Unit × St)) (hk : k < 12) : ∀ (m i n : Nat) (u : St) (x : HS), HM u0 k x hu re u → i + m = 4 → m < n → ∃ u' : St, F_X11_live_285 g (nI k) hh n v2 (nI i) u = hh v2 u' ∧ HM u0 k (slo (fun q => q) i m x) hu re u'
  | 0, i, n + 1, u, x, h, hi, _ => by
    have : i = 4 := by omega
    subst this
    refine ⟨u, ?_, h⟩
    rw [F_X11_live_285, if_pos (show (4 : Int32) ≤ nI 4 by decide)]
  | m + 1, i, n + 1, u, x, h, hi, hn => by
    obtain ⟨u', e1, e2⟩ := M_sell1 g hk (show i < 4 by omega) h
    rw [F_X11_live_285, if_neg (show ¬ (4 : Int32) ≤ nI i from nI_ge (b := 4) (by omega) (by omega)), e1, bd_so, nI_1, slo]
    exact M_sell4 g hh hk m (i + 1) n u' _ e2 (by omega) (by omega)
/-- the end of a home's week: goods sold, hunger -/
theorem end_same (g : Nat × Nat) {s0 s u0 u : St} {k F : Nat} {x : HS} {hu re v : Int32} {o : Nat → Nat} (hO : Ord o F v) (hk : k < 12) (h21 : ∀ p, p < 4 → s0 21 0 p = nI (o p)) (h40 : u0 60 0 40 = nI F) (h83 : ∀ p, p < F → u0 83 0 p = nI (o p)) (hX : HX s0 k x hu re s) (hM : HM u0 k x hu re u) (h53 : Int32 → Int32 → Int32 → Int32 → Int32 → Int32 → St → Option (Unit × St)) (v1 v2 v3 v4 v5 v6 : Int32) : ∃ (s' u' : St) (x' : HS) (hu' : Int32), F_X10_liveHomes_148 g h53 v1 v2 v3 v4 v5 v6 k s = h53 v1 v2 v3 v4 v5 (v6 + 1) s' ∧ F_X11_live_252 g (nI k) (nI (11 * k)) u = some ((), u') ∧ HX s0 k x' hu' re s' ∧ HM u0 k x' hu' re u' := by
  obtain ⟨s2, x1, x2⟩ := X_sellG g h21 hO.1 4 0 fu s x hX (by omega) (lt_fu (by omega))
  obtain ⟨u2, m1, m2⟩ := M_sellF g (F_X11_live_282 g (nI k)) (v2 := nI (11 * k)) hk hO.2.2.1 h40 h83 hO.1 F 0 fu u x hM (by omega) (lt_fu (by have := hO.2.2.1; omega))
  obtain ⟨u3, m3, m4⟩ := M_sell4 g (F_X11_live_304 g (nI k)) (v2 := nI (11 * k)) hk 4 0 fu u2 _ m2 (by omega) (lt_fu (by omega))
  rw [slo_same hO] at m4
  rw [nI_0] at x1 m1 m3
  have b1 : inb (nI (11 * k + 3)) 132 = true := inb_nI (by omega) (by omega)
  have b2 : inb (nI (11 * k + 9)) 132 = true := inb_nI (by omega) (by omega)
  unfold F_X10_liveHomes_148 F_X3_sellGoods F_X3_hungerIfShort F_X11_live_252
  rw [x1, bd_so, m1, F_X11_live_282, m3, F_X11_live_304, show nI (11 * k) + (3 : Int32) = nI (11 * k + 3) from nI_add (11 * k) 3, show nI (11 * k) + (9 : Int32) = nI (11 * k + 9) from nI_add (11 * k) 9, gd_of b1, gd_of b1, gd_of b2, gd_of b2, nI_clamp (show 11 * k + 3 < 2 ^ 31 by omega), nI_clamp (show 11 * k + 9 < 2 ^ 31 by omega), x2.2.2.2.1, m4.2.2.1]
  generalize slo o 0 4 x = y at x2 m4
  by_cases e : 0 ≤ y.1
  · rw [if_pos e, if_pos e, bd_so]
    exact ⟨s2, u3, y, hu, rfl, rfl, x2, m4⟩
  · have z1 : up u3 84 0 (11 * k + 3) 0 84 0 (11 * k + 9) = hu := by
      have := m4.2.2.2.1
      simpa [up] using this
    rw [if_neg e, if_neg e, bd_so, x2.2.2.2.2.1, z1]
    exact ⟨_, _, (0, y.2), hu + 1, rfl, rfl, (x2.sv 0).hu (hu + 1), (m4.sv 0).hu (hu + 1)⟩
/-! means -/
def inF (o : Nat → Nat) : Nat → Nat → Bool
  | 0, _ => false
  | F + 1, q => inF o F q || decide (o F = q)
theorem inF_iff (o : Nat → Nat) (q : Nat) : ∀ F, inF o F q = true ↔ ∃ p, p < F ∧ o p = q
  | 0 => by
    rw [inF]
    exact ⟨fun e => by simp at e, fun ⟨p, hp, _⟩ => by omega⟩
  | F + 1 => by
    rw [inF, Bool.or_eq_true, inF_iff o q F, decide_eq_true_eq]
    constructor
    · rintro (⟨p, hp, e⟩ | e)
      · exact ⟨p, by omega, e⟩
      · exact ⟨F, by omega, e⟩
    · rintro ⟨p, hp, e⟩
      by_cases z : p = F
      · subst z
        exact Or.inr e
      · exact Or.inl ⟨p, by omega, e⟩
def sm4 (c : Nat → Int32) (v : Int32) : Int32 := v + c 0 + c 1 + c 2 + c 3
def cF (f : Nat → Int32) (o : Nat → Nat) (F q : Nat) : Int32 := if inF o F q = true then f q else 0
theorem cF_up {f : Nat → Int32} {o : Nat → Nat} {F q : Nat} (h : ¬ q = o F) : cF f o (F + 1) q = cF f o F q := by
  unfold cF
  rw [inF, decide_eq_false (fun e => h e.symm), Bool.or_false]
theorem cF_at {f : Nat → Int32} {o : Nat → Nat} {F : Nat} : cF f o (F + 1) (o F) = f (o F) := by
  unfold cF
  rw [inF, decide_eq_true rfl, Bool.or_true, if_pos rfl]
theorem sm4_up {f : Nat → Int32} {o : Nat → Nat} {F : Nat} (h4 : o F < 4) (hn : inF o F (o F) = false) (v : Int32) : sm4 (cF f o (F + 1)) v = sm4 (cF f o F) v + f (o F) := by
  have e0 : cF f o F (o F) = 0 := by
    unfold cF
    rw [hn]
    rfl
  have e1 : cF f o (F + 1) (o F) = f (o F) := cF_at
  have e2 : ∀ q, ¬ q = o F → cF f o (F + 1) q = cF f o F q := fun q hq => cF_up hq
  unfold sm4
  generalize cF f o (F + 1) = c' at e1 e2
  generalize cF f o F = c at e0 e2
  generalize f (o F) = y at e1
  have : o F = 0 ∨ o F = 1 ∨ o F = 2 ∨ o F = 3 := by omega
  rcases this with e | e | e | e
  · rw [e] at e0 e1 e2
    rw [e2 1 (by omega), e2 2 (by omega), e2 3 (by omega), e1, e0, Int32.add_zero]
    ac_rfl
  · rw [e] at e0 e1 e2
    rw [e2 0 (by omega), e2 2 (by omega), e2 3 (by omega), e1, e0, Int32.add_zero]
    ac_rfl
  · rw [e] at e0 e1 e2
    rw [e2 0 (by omega), e2 1 (by omega), e2 3 (by omega), e1, e0, Int32.add_zero]
    ac_rfl
  · rw [e] at e0 e1 e2
    rw [e2 0 (by omega), e2 1 (by omega), e2 2 (by omega), e1, e0, Int32.add_zero]
theorem X_means (g : Nat × Nat) {s : St} {k F : Nat} {o : Nat → Nat} {v : Int32} (hO : Ord o F v) (h21 : ∀ p, p < 4 → s 21 0 p = nI (o p)) {f : Nat → Int32} (hf : ∀ q, q < 4 → s 27 k q = f q) (a1 a2 : Int32) (hh : Int32 → St → Option (Unit × St)) (b : Int32) : ∀ (m i n : Nat), i + m = F → m < n → F_X3_beRelieved_9 g k a1 a2 21 0 (nI F) hh n (sm4 (cF f o i) b) (nI i) s = hh (sm4 (cF f o F) b) s
  | 0, i, n + 1, hi, _ => by
    have : i = F := by omega
    subst this
    have := hO.2.2.1
    rw [F_X3_beRelieved_9, if_pos (nI_le (Nat.le_refl _) (by omega))]
  | m + 1, i, n + 1, hi, hn => by
    have h4 := hO.2.2.1
    have oi := hO.1 i (by omega)
    have hn2 : inF o i (o i) = false := by
      by_cases z : inF o i (o i) = true
      · obtain ⟨p, hp, e⟩ := (inF_iff o (o i) i).mp z
        have := hO.2.1 p i (by omega) (by omega) e
        omega
      · simpa using z
    rw [F_X3_beRelieved_9, if_neg (nI_ge (by omega) (by omega)), gd_of (show inb (nI i) (lna 21) = true from (show inb (nI i) 4 = true from inb_nI (by omega) (by omega))), nI_clamp (show i < 2 ^ 31 by omega), h21 i (by omega), gd_of (inb_nI oi (by omega)), nI_clamp (show o i < 2 ^ 31 by omega), hf (o i) oi, nI_1, ← sm4_up oi hn2]
    exact X_means g hO h21 hf a1 a2 hh b m (i + 1) n (by omega) (by omega)
theorem M_worth (g : Nat × Nat) {u : St} {k : Nat} (hk : k < 12) {f : Nat → Int32} (hf : ∀ q, q < 4 → u 84 0 (11 * k + 5 + q) = f q) (v3 : Int32) (a1 : Int32) (hh : Int32 → Int32 → St → Option (Unit × St)) (b : Int32) : F_X11_live_143 g a1 hh fu (nI (11 * k)) v3 b 0 u = hh (nI (11 * k)) (sm4 (fun q => if ((v3 >>> (nI q &&& 31)) &&& (1 : Int32)) = 1 then f q else 0) b) u := by
  have st : ∀ (i n : Nat) (c : Int32), i < 4 → F_X11_live_143 g a1 hh (n + 1) (nI (11 * k)) v3 c (nI i) u = F_X11_live_143 g a1 hh n (nI (11 * k)) v3 (c + (if ((v3 >>> (nI i &&& 31)) &&& (1 : Int32)) = 1 then f i else 0)) (nI (i + 1)) u := fun i n c hi => by
    have b1 : inb (nI (11 * k + 5 + i)) 132 = true := inb_nI (by omega) (by omega)
    rw [F_X11_live_143, if_neg (show ¬ (4 : Int32) ≤ nI i from nI_ge (b := 4) hi (by omega)), F_X11_live_176, F_X11_live_176, show nI (11 * k) + (5 : Int32) = nI (11 * k + 5) from nI_add (11 * k) 5, nI_add, gd_of b1, nI_clamp (by omega), hf i hi, nI_1]
    by_cases q : ((v3 >>> (nI i &&& 31)) &&& (1 : Int32)) = 1
    · rw [if_pos q, if_pos q]
    · rw [if_neg q, if_neg q]
  have e0 := st 0 999999 b (by omega)
  rw [nI_0] at e0
  rw [show fu = 999999 + 1 from rfl, e0, st 1 999998 _ (by omega), st 2 999997 _ (by omega), st 3 999996 _ (by omega), F_X11_live_143, if_pos (show (4 : Int32) ≤ nI (3 + 1) by decide)]
  rfl
