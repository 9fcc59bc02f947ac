/-! a home more: both answer alike -/
def fndH (s : St) (k : Nat) (a2 : Int32) : Int32 := if s 2 k 1 = 0 then (if rch a2 9 (s 2 k 3) = true then 0 else 2) else 1
theorem home_look {N : Nat} {g : Nat × Nat} {s u : St} (h : Rel N g s u) {k : Nat} (hk : k < 8) (a2 : Int32) :
    (¬ fndH s k a2 = 0 ∧ (fndH s k a2 = 1 ∨ fndH s k a2 = 2) ∧ ∀ gg : Nat × Nat, F_X11_lookItems gg (nI k) a2 9 u = some (-1000010 - fndH s k a2, up u 60 0 1 (fndH s k a2))) ∨
    (fndH s k a2 = 0 ∧ ∃ i : Nat, i + 9 ≤ 80 ∧ a2 = nI i ∧ ∀ gg : Nat × Nat, F_X11_lookItems gg (nI k) a2 9 u = some (0, u)) := by
  have e9 : nI 9 = 9 := rfl
  have hF : F_X7_findingAt g k a2 9 s = some (fndH s k a2, s) := F_findingAt g k a2 9 s
  have hg : ∀ gg : Nat × Nat, F_X11_lookItems gg (nI k) a2 9 u = F_X11_lookItems g (nI k) a2 9 u := fun gg => rfl
  rcases look_same h hk a2 (show 9 < 1000 by omega) with ⟨v, hv, e1, e2⟩ | ⟨i, hi, hi2, e1, e2⟩
  · rw [e9] at e1 e2
    have e3 : v = fndH s k a2 := congrArg Prod.fst (Option.some.inj (e1.symm.trans hF))
    rw [e3] at hv e2
    refine Or.inl ⟨?_, hv, fun gg => (hg gg).trans e2⟩
    rcases hv with q | q <;> rw [q] <;> decide
  · rw [e9] at e1 e2
    have e3 : (0 : Int32) = fndH s k a2 := congrArg Prod.fst (Option.some.inj (e1.symm.trans hF))
    exact Or.inr ⟨e3.symm, i, hi, hi2, fun gg => (hg gg).trans e2⟩
def hoF (it : Nat → Int32) (i : Int32) : Nat → Int32 := fun j => match j with
  | 0 => it i.toNatClampNeg
  | 1 => it (i + 1).toNatClampNeg
  | 2 => it (i + 2).toNatClampNeg
  | 3 => it (i + 4).toNatClampNeg
  | 5 => it (i + 3).toNatClampNeg
  | _ => 0
def hgF (it : Nat → Int32) (i : Int32) : Nat → Int32 := va_cpy it (fun _ => 0) (i + 5).toNatClampNeg (0 : Int32).toNatClampNeg (4 : Int32).toNatClampNeg
def sHome (s : St) (n : Nat) (ho gs : Nat → Int32) : St := fun t k => match t with
  | 0 => fun j => if j = 9 then s 0 0 9 + 1 else if j = 10 then 0 else s 0 k j
  | 26 => if k = n then ho else s 26 k
  | 27 => if k = n then gs else s 27 k
  | t => s t k
theorem op_home {N : Nat} {g : Nat × Nat} {s u : St} (h : Rel N g s u) {k : Nat} (hk : k < 8) (a1 a2 : Int32) (ha : bw a1 0 7 = true → a1 = nI k) :
    (¬ bw a1 0 7 = true → ∃ u' : St, (∀ gg, F_X11_home gg a1 a2 u = some (-1000001, u')) ∧ Rel (N + 1) g s u') ∧
    (bw a1 0 7 = true → ¬ s 0 0 9 < 12 → ∃ u' : St, (∀ gg, F_X11_home gg a1 a2 u = some (-1000003, u')) ∧ Rel (N + 1) g s u') ∧
    (bw a1 0 7 = true → s 0 0 9 < 12 → ¬ fndH s k a2 = 0 → ∃ u' : St, (∀ gg, F_X11_home gg a1 a2 u = some (-1000010 - fndH s k a2, u')) ∧ Rel (N + 1) g (up s 0 0 10 (fndH s k a2)) u') ∧
    (bw a1 0 7 = true → s 0 0 9 < 12 → fndH s k a2 = 0 → ¬ hft (fun q => s 3 k (a2.toNatClampNeg + q)) = true → ∃ u' : St, (∀ gg, F_X11_home gg a1 a2 u = some (-1000001, u')) ∧ Rel (N + 1) g s u') ∧
    (bw a1 0 7 = true → s 0 0 9 < 12 → fndH s k a2 = 0 → hft (fun q => s 3 k (a2.toNatClampNeg + q)) = true → ∃ u' : St, (∀ gg, F_X11_home gg a1 a2 u = some (s 0 0 9 + 1 - 1, u')) ∧ Rel (N + 1) (g.1, g.2 + 1) (sHome s g.2 (hoF (s 3 k) a2) (hgF (s 3 k) a2)) u') := by
  have hR := h.read
  have hL := home_look hR hk a2
  obtain ⟨j0, j1, j2, j3⟩ := id h.2.2.2.2.2.2.2.2.2.1
  have hlt : s 0 0 9 < 12 → g.2 < 12 := fun z => by
    rcases Nat.lt_or_ge g.2 12 with y | y
    · exact y
    · have e : g.2 = 12 := by omega
      rw [j1, e] at z
      exact absurd z (by decide)
  have hne : g.2 < 12 → ¬ up u 60 0 0 0 60 0 42 = 12 := fun z => by
    rw [show up u 60 0 0 0 60 0 42 = nI g.2 from j2]
    exact nI_ne (b := 12) (by omega) (by omega) (by omega)
  refine ⟨fun hb => ⟨up u 60 0 0 0, fun gg => ?_, hR⟩, fun hb hs => ⟨up u 60 0 0 0, fun gg => ?_, hR⟩, fun hb hs hf => ⟨up (up u 60 0 0 0) 60 0 1 (fndH s k a2), fun gg => ?_, hR.unf _⟩, fun hb hs hf hq => ?_, fun hb hs hf hq => ?_⟩
  · unfold F_X11_home
    rw [G_isSheet, bd_so, bI_if, if_neg hb]
  · have e12 : g.2 = 12 := by
      rcases Nat.lt_or_ge g.2 12 with y | y
      · exact absurd (by rw [j1]; exact nI_lt (b := 12) y (by omega)) hs
      · omega
    have e : up u 60 0 0 0 60 0 42 = 12 := by
      rw [show up u 60 0 0 0 60 0 42 = nI g.2 from j2, e12]
      rfl
    unfold F_X11_home
    rw [G_isSheet, bd_so, bI_if, if_pos hb, if_pos e]
  · rcases hL with ⟨-, hv, hl⟩ | ⟨h0, -⟩
    · have e1 := ha hb
      unfold F_X11_home
      rw [G_isSheet, bd_so, bI_if, if_pos hb, if_neg (hne (hlt hs)), e1, hl gg, bd_so, if_neg (neg_f _ hv)]
    · exact absurd h0 hf
  · rcases hL with ⟨hn, -⟩ | ⟨-, i, hi, rfl, hl⟩
    · exact absurd hf hn
    · have e1 := ha hb
      subst e1
      rw [nI_clamp (show i < 2 ^ 31 by omega)] at hq
      refine ⟨up u 60 0 0 0, fun gg => ?_, hR⟩
      rw [G_home gg hk hi (hlt hs) u (fun q => s 3 k (i + q)) j2 (fun q hq9 => by
        rw [show 80 * k + i + q = 80 * k + (i + q) by omega]
        exact (h.1 k hk).2.2.2 (i + q) (by omega)) (hl gg), if_neg hq]
  · rcases hL with ⟨hn, -⟩ | ⟨-, i, hi, rfl, hl⟩
    · exact absurd hf hn
    · have e1 := ha hb
      subst e1
      rw [nI_clamp (show i < 2 ^ 31 by omega)] at hq
      have hH := hlt hs
      refine ⟨up (fih (up (up u 60 0 0 0) 60 0 1 0) g.2 (hrw (fun q => s 3 k (i + q))) 11) 60 0 42 (nI g.2 + 1), fun gg => ?_, ?_⟩
      · rw [G_home gg hk hi hH u (fun q => s 3 k (i + q)) j2 (fun q hq9 => by
          rw [show 80 * k + i + q = 80 * k + (i + q) by omega]
          exact (h.1 k hk).2.2.2 (i + q) (by omega)) (hl gg), if_pos hq, j1]
      · obtain ⟨hA, hB, hC, hD, hE, hF, hG, hH2, hI, hJ, hK, hL2, hM⟩ := hR
        have q0 : ∀ t : Nat, t ≠ 84 → fih (up (up u 60 0 0 0) 60 0 1 0) g.2 (hrw (fun q => s 3 k (i + q))) 11 t = up (up u 60 0 0 0) 60 0 1 0 t := fun t ht => fih_ne ht
        have hX : Rel (N + 1) g s (up u 60 0 0 0) := ⟨hA, hB, hC, hD, hE, hF, hG, hH2, hI, hJ, hK, hL2, hM⟩
        have hrow : ∀ j, j < 11 → up (fih (up (up u 60 0 0 0) 60 0 1 0) g.2 (hrw (fun q => s 3 k (i + q))) 11) 60 0 42 (nI g.2 + 1) 84 0 (11 * g.2 + j) = hrw (fun q => s 3 k (i + q)) j := fun j hj => by
          rw [up_ne (by omega)]
          exact fih_at hj
        have hold : ∀ c, c < 11 * g.2 → up (fih (up (up u 60 0 0 0) 60 0 1 0) g.2 (hrw (fun q => s 3 k (i + q))) 11) 60 0 42 (nI g.2 + 1) 84 0 c = u 84 0 c := fun c hc => by
          rw [up_ne (by omega)]
          exact (fih_off hc).trans rfl
        have hit : ∀ m : Nat, m < 9 → (nI i + nI m).toNatClampNeg = i + m := fun m hm => by
          rw [nI_add, nI_clamp (by omega)]
        refine ⟨hA, rfl, hC, hD, hE, hF, hG, hH2, hI, ⟨by show g.2 + 1 ≤ 12; omega, ?_, ?_, fun k' hk' => ?_⟩, hK, hL2, hM⟩
        · show s 0 0 9 + 1 = nI (g.2 + 1)
          rw [j1]
          exact nI_1 g.2
        · show nI g.2 + 1 = nI (g.2 + 1)
          exact nI_1 g.2
        · by_cases e : k' = g.2
          · subst e
            have m26 : sHome s g.2 (hoF (s 3 k) (nI i)) (hgF (s 3 k) (nI i)) 26 g.2 = hoF (s 3 k) (nI i) := if_pos rfl
            have m27 : sHome s g.2 (hoF (s 3 k) (nI i)) (hgF (s 3 k) (nI i)) 27 g.2 = hgF (s 3 k) (nI i) := if_pos rfl
            rw [m26, m27]
            refine ⟨?_, ?_, ?_, ?_, ?_, fun w hw => ?_, ?_, ?_, ?_⟩
            · refine (hrow 0 (by omega)).trans ?_
              show s 3 k (i + 0) = s 3 k (nI i).toNatClampNeg
              rw [nI_clamp (by omega)]
              rfl
            · refine (hrow 1 (by omega)).trans ?_
              show s 3 k (i + 1) = s 3 k (nI i + 1).toNatClampNeg
              rw [show (nI i + 1).toNatClampNeg = i + 1 from hit 1 (by omega)]
            · refine (hrow 2 (by omega)).trans ?_
              show s 3 k (i + 2) = s 3 k (nI i + 2).toNatClampNeg
              rw [show (nI i + 2).toNatClampNeg = i + 2 from hit 2 (by omega)]
            · refine (hrow 3 (by omega)).trans ?_
              show s 3 k (i + 3) = s 3 k (nI i + 3).toNatClampNeg
              rw [show (nI i + 3).toNatClampNeg = i + 3 from hit 3 (by omega)]
            · refine (hrow 4 (by omega)).trans ?_
              show s 3 k (i + 4) = s 3 k (nI i + 4).toNatClampNeg
              rw [show (nI i + 4).toNatClampNeg = i + 4 from hit 4 (by omega)]
            · rw [show 11 * g.2 + 5 + w = 11 * g.2 + (5 + w) by omega]
              refine (hrow (5 + w) (by omega)).trans ?_
              unfold hrw hgF
              rw [if_pos (by omega), show (nI i + 5).toNatClampNeg = i + 5 from hit 5 (by omega)]
              show s 3 k (i + (5 + w)) = va_cpy (s 3 k) (fun _ => 0) (i + 5) 0 4 w
              rw [pk_cpy_in (Nat.zero_le _) (by omega), Nat.sub_zero, Nat.add_assoc]
            · exact hrow 9 (by omega)
            · exact hrow 10 (by omega)
            · obtain ⟨m, hm, e⟩ := bw_of (n := 5) rfl (hft_0 hq)
              refine ⟨m, hm, ?_⟩
              show s 3 k (nI i).toNatClampNeg = nI m
              rw [nI_clamp (by omega)]
              exact e
          · have hk2 : k' < g.2 := by have : k' < g.2 + 1 := hk'; omega
            have m26 : sHome s g.2 (hoF (s 3 k) (nI i)) (hgF (s 3 k) (nI i)) 26 k' = s 26 k' := if_neg e
            have m27 : sHome s g.2 (hoF (s 3 k) (nI i)) (hgF (s 3 k) (nI i)) 27 k' = s 27 k' := if_neg e
            rw [m26, m27]
            obtain ⟨r0, r1, r2, r3, r4, r5, r9, r10, rm⟩ := j3 k' hk2
            exact ⟨(hold _ (by omega)).trans r0, (hold _ (by omega)).trans r1, (hold _ (by omega)).trans r2, (hold _ (by omega)).trans r3, (hold _ (by omega)).trans r4, fun w hw => (hold _ (by omega)).trans (r5 w hw), (hold _ (by omega)).trans r9, (hold _ (by omega)).trans r10, rm⟩
