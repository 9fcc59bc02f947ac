/-! a mill more, on both sides -/
theorem lkL_41 : LkV R_law 41 yX10_mill 0 iX10_mill 4 := ⟨10, 11, TX10, rfl, rfl, kw_402, kw_403, kw_404, kw_1, kw_405, ⟨by decide, by decide, by decide⟩⟩
theorem cnR_none {f : Nat → Int32} : ∀ n : Nat, (∀ j, j < n → f j = -1000000) → cnR f n = 0
  | 0, _ => rfl
  | n + 1, h => by
    show cnR f n + (if f n = -1000000 then 0 else 1) = 0
    rw [cnR_none n (fun j hj => h j (by omega)), if_pos (h n (by omega))]
theorem G_mill (gg : Nat × Nat) (a b c d : Int32) (u : St) : F_X11_mill gg a b c d u = (if bw a 1 50 = true then (if bw b 1 15 = true then (if bw c 0 1000 = true then (if bw d 0 5000 = true then (if u 60 0 15 = 6 then some (-1000003, up u 60 0 0 0) else gd (inb (u 60 0 15) 6) (some (u 60 0 15 + 1 - 1, up (up (up (up (up (up u 60 0 0 0) 70 0 (u 60 0 15).toNatClampNeg a) 71 0 (u 60 0 15).toNatClampNeg b) 72 0 (u 60 0 15).toNatClampNeg c) 73 0 (u 60 0 15).toNatClampNeg d) 60 0 15 (u 60 0 15 + 1)))) else some (-1000001, up u 60 0 0 0)) else some (-1000001, up u 60 0 0 0)) else some (-1000001, up u 60 0 0 0)) else some (-1000001, up u 60 0 0 0)) := by
  unfold F_X11_mill
  simp only [in_1_50, in_1_15, in_0_1000, in_0_5000, bd_so, bI_if]
  have e : up u 60 0 0 0 60 0 15 = u 60 0 15 := rfl
  rw [e]
  cases hb : inb (u 60 0 15) 6 <;> rfl
theorem op_mill {N : Nat} {g : Nat × Nat} {s u : St} (h : Rel N g s u) (a b c d : Int32) :
    (¬ ok_mill a b c d → ∃ u' : St, (∀ gg, F_X11_mill gg a b c d u = some (-1000001, u')) ∧ Rel (N + 1) g s u') ∧
    (ok_mill a b c d → ¬ s 4 0 12 < 6 → ∃ u' : St, (∀ gg, F_X11_mill gg a b c d u = some (-1000003, u')) ∧ Rel (N + 1) g s u') ∧
    (ok_mill a b c d → s 4 0 12 < 6 → ∀ f2 : Nat → Int32, (∀ j, j < 100 → f2 j = -1000000) → ∃ u' : St, (∀ gg, F_X11_mill gg a b c d u = some (s 4 0 12 + 1 - 1, u')) ∧ Rel (N + 1) (g.1 + 1, g.2) (sMill s g.1 a b c d f2) u') := by
  have hR := h.read
  refine ⟨fun hb => ⟨up u 60 0 0 0, fun gg => ?_, hR⟩, fun hk hs => ⟨up u 60 0 0 0, fun gg => ?_, hR⟩, fun hk hs f2 hf2 => ?_⟩
  · rw [G_mill]
    by_cases q1 : bw a 1 50 = true
    · by_cases q2 : bw b 1 15 = true
      · by_cases q3 : bw c 0 1000 = true
        · by_cases q4 : bw d 0 5000 = true
          · exact absurd ⟨q1, q2, q3, q4⟩ hb
          · rw [if_pos q1, if_pos q2, if_pos q3, if_neg q4]
        · rw [if_pos q1, if_pos q2, if_neg q3]
      · rw [if_pos q1, if_neg q2]
    · rw [if_neg q1]
  · obtain ⟨q1, q2, q3, q4⟩ := hk
    obtain ⟨h0, h1, h2, h3, h4⟩ := h.2.2.2.2.2.2.1
    have e6 : g.1 = 6 := by
      rcases Nat.lt_or_ge g.1 6 with z | z
      · exact absurd (by rw [h1]; exact nI_lt (b := 6) z (by omega)) hs
      · omega
    rw [G_mill, if_pos q1, if_pos q2, if_pos q3, if_pos q4, h2, e6]
    rfl
  · obtain ⟨q1, q2, q3, q4⟩ := hk
    obtain ⟨hA, hB, hC, hD, hE, hF, hG, hH, hI, hJ, hK, hL, hM⟩ := hR
    obtain ⟨h0, h1, h2, h3, h4⟩ := id hG
    have e6 : g.1 < 6 := by
      rcases Nat.lt_or_ge g.1 6 with z | z
      · exact z
      · have : g.1 = 6 := by omega
        rw [h1, this] at hs
        exact absurd hs (by decide)
    have h2' : u 60 0 15 = nI g.1 := h2
    have hc : (u 60 0 15).toNatClampNeg = g.1 := by rw [h2', nI_clamp (by omega)]
    have hne : ¬ u 60 0 15 = 6 := by rw [h2']; exact nI_ne (b := 6) (by omega) (by omega) (by omega)
    have hb : inb (u 60 0 15) 6 = true := by rw [h2']; exact inb_nI e6 (by omega)
    refine ⟨up (up (up (up (up (up u 60 0 0 0) 70 0 g.1 a) 71 0 g.1 b) 72 0 g.1 c) 73 0 g.1 d) 60 0 15 (nI g.1 + 1), fun gg => by rw [G_mill, if_pos q1, if_pos q2, if_pos q3, if_pos q4, if_neg hne, gd_of hb, hc, h1, h2'], hA, hB, hC, fun i hi => ?_, hE, hF, ⟨by omega, ?_, ?_, fun k hk => ?_, fun k hk hk6 => ?_⟩, hH, hI, hJ, hK, hL, hM⟩
    · obtain ⟨d1, d2, d3, d4⟩ := hD i hi
      refine ⟨d1, d2, fun k hk => ?_, fun k hk hk6 => d4 k (by have : g.1 + 1 ≤ k := hk; omega) hk6⟩
      by_cases e : k = g.1
      · subst e
        have m15 : sMill s g.1 a b c d f2 15 g.1 = fun _ => 0 := if_pos rfl
        rw [m15]
        exact ⟨d4 g.1 (Nat.le_refl _) e6, 0, by omega, rfl⟩
      · have m15 : sMill s g.1 a b c d f2 15 k = s 15 k := if_neg e
        rw [m15]
        exact d3 k (by have : k < g.1 + 1 := hk; omega)
    · show s 4 0 12 + 1 = nI (g.1 + 1)
      rw [h1]
      exact nI_1 g.1
    · show nI g.1 + 1 = nI (g.1 + 1)
      exact nI_1 g.1
    · by_cases e : k = g.1
      · subst e
        have m14 : sMill s g.1 a b c d f2 14 g.1 = mlF a b c d := if_pos rfl
        have m16 : sMill s g.1 a b c d f2 16 g.1 = f2 := if_pos rfl
        rw [m14, m16]
        obtain ⟨a', ha, ha2, rfl⟩ := bw_of1 (a := 1) (n := 50) rfl (by omega) rfl q1
        obtain ⟨b', hb1, hb2, rfl⟩ := bw_of1 (a := 1) (n := 15) rfl (by omega) rfl q2
        obtain ⟨c', hc1, rfl⟩ := bw_of (n := 1000) rfl q3
        obtain ⟨d', hd1, rfl⟩ := bw_of (n := 5000) rfl q4
        refine ⟨by simp [up, mlF], by simp [up, mlF], by simp [up, mlF], by simp [up, mlF], ?_, ⟨a', ha, ha2, rfl⟩, ⟨b', hb2, rfl⟩, ⟨c', hc1, rfl⟩, ⟨d', hd1, rfl⟩, ⟨0, by omega, rfl⟩, ?_, fun w hw => ⟨?_, fun _ => hf2 w hw, Or.inl (hf2 w hw)⟩⟩
        · exact (h4 g.1 (Nat.le_refl _) e6).1
        · rw [cnR_none 100 hf2]
          rfl
        · rw [hf2 w hw]
          exact (h4 g.1 (Nat.le_refl _) e6).2 w hw
      · have m14 : sMill s g.1 a b c d f2 14 k = s 14 k := if_neg e
        have m16 : sMill s g.1 a b c d f2 16 k = s 16 k := if_neg e
        rw [m14, m16]
        have hk2 : k < g.1 := by have : k < g.1 + 1 := hk; omega
        have := h3 k hk2
        have m4 : sMill s g.1 a b c d f2 4 0 13 = s 4 0 13 := rfl
        simpa [up, e, m4] using this
    · have hk2 : g.1 + 1 ≤ k := hk
      exact h4 k (by omega) hk6
theorem mem_mill {g : Nat × Nat} {L : List (Nat × Nat)} (hm : ∀ t k, (t, k) ∈ [(4, 0), (13, 0)] ++ L ↔ exX g t k) {t k : Nat} (hx : exX (g.1 + 1, g.2) t k) : (t, k) ∈ [(16, g.1), (15, g.1), (14, g.1), (4, 0), (13, 0)] ++ L := by
  by_cases h0 : exX g t k
  · exact List.mem_append_right [(16, g.1), (15, g.1), (14, g.1)] ((hm t k).mpr h0)
  · obtain ⟨ht, hk⟩ := hx
    have hc : t = 14 ∨ t = 15 ∨ t = 16 ∨ t = 0 ∨ t = 1 ∨ t = 2 ∨ t = 3 ∨ t = 4 ∨ t = 5 ∨ t = 6 ∨ t = 7 ∨ t = 8 ∨ t = 9 ∨ t = 10 ∨ t = 11 ∨ t = 12 ∨ t = 13 ∨ t = 17 ∨ t = 18 ∨ t = 19 ∨ t = 20 ∨ t = 21 ∨ t = 22 ∨ t = 23 ∨ t = 24 ∨ t = 25 ∨ t = 26 ∨ t = 27 ∨ t = 28 ∨ t = 29 ∨ t = 30 ∨ t = 31 ∨ t = 32 ∨ t = 33 ∨ t = 34 ∨ t = 35 ∨ t = 36 ∨ t = 37 ∨ t = 38 ∨ t = 39 ∨ t = 40 ∨ t = 41 ∨ t = 42 ∨ t = 43 ∨ t = 44 ∨ t = 45 ∨ t = 46 := by omega
    rcases hc with rfl | rfl | rfl | rfl | rfl | rfl | rfl | rfl | rfl | rfl | rfl | rfl | rfl | rfl | rfl | rfl | rfl | rfl | rfl | rfl | rfl | rfl | rfl | rfl | rfl | rfl | rfl | rfl | rfl | rfl | rfl | rfl | rfl | rfl | rfl | rfl | rfl | rfl | rfl | rfl | rfl | rfl | rfl | rfl | rfl | rfl | rfl
    · have e : k = g.1 := by
        have h1 : k < g.1 + 1 := hk
        have h2 : ¬ k < g.1 := fun z => h0 ⟨ht, z⟩
        omega
      rw [e]
      simp
    · have e : k = g.1 := by
        have h1 : k < g.1 + 1 := hk
        have h2 : ¬ k < g.1 := fun z => h0 ⟨ht, z⟩
        omega
      rw [e]
      simp
    · have e : k = g.1 := by
        have h1 : k < g.1 + 1 := hk
        have h2 : ¬ k < g.1 := fun z => h0 ⟨ht, z⟩
        omega
      rw [e]
      simp
    all_goals exact absurd ⟨ht, hk⟩ h0
theorem aMill_ge {a : Nat → Nat → Nat} {n h q1 q2 t k : Nat} (ht : 100 ≤ t) : aMill a n h q1 q2 t k = a t k := by
  unfold aMill
  split <;> first | omega | rfl
theorem NI.nil : NI [] := fun i j p hi _ => by simp at hi
theorem sp_mill : NI [(4, 0), (13, 0)] := (NI.nil.snoc (p := (4, 0)) (by decide)).snoc (p := (13, 0)) (by decide)
set_option maxRecDepth 100000 in
theorem law_6 {l : Launch} {b L : Nat} {xs : Nat → Int32} {D : va_G} {c : Nat → ClassId} {ad : Nat → Nat → Nat} {sz kc ks N : Nat} {g : Nat × Nat} {aX aM : Nat → Nat → Nat} {s u : St} {i : Int32} (hAd : LAd sz ad g aX aM) (hi : ∀ k : Nat, k < 6 → vp_in (i + nI k) L) (hkc : kc ≤ 500000) (hks : ks ≤ 7000000) (hR : Rel N g s u) (k : ∀ (g' : Nat × Nat) (a' : Nat → Nat → Nat) (s' u' : St), a' 0 0 = aX 0 0 → LAd sz ad g' a' aM → Rel (N + 1) g' s' u' → LA l b L xs D c ad sz (kc + 3) (ks + 112) 1268 (lvL b aX aM i) [] (LJ D c g' a' aM s' u')) : LA l b L xs D c ad sz kc ks 436 (lvL b aX aM i) [] (LJ D c g aX aM s u) := by
  obtain ⟨K, hNI, hm⟩ := all_ex g [(4, 0), (13, 0)] sp_mill (fun t k h => by
    rcases List.mem_cons.mp h with h | h
    · cases h
      exact ⟨by decide, Nat.one_pos⟩
    · rcases List.mem_cons.mp h with h | h
      · cases h
        exact ⟨by decide, Nat.one_pos⟩
      · cases h)
  obtain ⟨h0, h1, h2, h3, h4⟩ := id hR.2.2.2.2.2.2.1
  obtain ⟨o1, o2, o3⟩ := op_mill hR (xs (i + 1).toNatClampNeg) (xs (i + 2).toNatClampNeg) (xs (i + 3).toNatClampNeg) (xs (i + 4).toNatClampNeg)
  have hn : (s 4 0 12).toNatClampNeg = g.1 := by rw [h1, nI_clamp (by omega)]
  have hn6 : s 4 0 12 < 6 → vp_in (s 4 0 12) 6 := fun z => by
    rw [h1] at z ⊢
    refine inb_vp (inb_nI ?_ (by omega))
    rcases Nat.lt_or_ge g.1 6 with y | y
    · exact y
    · have e : g.1 = 6 := by omega
      rw [e] at z
      exact absurd z (by decide)
  refine l_aload_n dL_law_436 1 rfl rfl ?_
  refine l_aload_n dL_law_437 0 rfl rfl ?_
  refine l_iload_n dL_law_438 3 rfl rfl ?_
  refine l_iconst (v := 1) dL_law_439 (by decide) ?_
  refine l_iadd dL_law_440 ?_
  refine l_scr (hi 1 (by decide)) dL_law_441 ?_
  refine l_aload_n dL_law_442 0 rfl rfl ?_
  refine l_iload_n dL_law_443 3 rfl rfl ?_
  refine l_iconst (v := 2) dL_law_444 (by decide) ?_
  refine l_iadd dL_law_445 ?_
  refine l_scr (hi 2 (by decide)) dL_law_446 ?_
  refine l_aload_n dL_law_447 0 rfl rfl ?_
  refine l_iload_n dL_law_448 3 rfl rfl ?_
  refine l_iconst (v := 3) dL_law_449 (by decide) ?_
  refine l_iadd dL_law_450 ?_
  refine l_scr (hi 3 (by decide)) dL_law_451 ?_
  refine l_aload_n dL_law_452 0 rfl rfl ?_
  refine l_iload_n dL_law_453 3 rfl rfl ?_
  refine l_iconst (v := 4) dL_law_454 (by decide) ?_
  refine l_iadd dL_law_455 ?_
  refine l_scr (hi 4 (by decide)) dL_law_456 ?_
  refine l_callG hAd (As := [.int (xs (i + 1).toNatClampNeg), .int (xs (i + 2).toNatClampNeg), .int (xs (i + 3).toNatClampNeg), .int (xs (i + 4).toNatClampNeg)]) (rest := []) (Pst := P_mill D c aX g s K (xs (i + 1).toNatClampNeg) (xs (i + 2).toNatClampNeg) (xs (i + 3).toNatClampNeg) (xs (i + 4).toNatClampNeg)) (fun r g' s' => ∃ u' : St, (∀ gg, F_X11_mill gg (xs (i + 1).toNatClampNeg) (xs (i + 2).toNatClampNeg) (xs (i + 3).toNatClampNeg) (xs (i + 4).toNatClampNeg) u = some (r, u')) ∧ Rel (N + 1) g' s' u') lkL_41 ⟨⟨by decide, by decide⟩, by show kc + 3 ≤ 600000; omega, by show ks + 112 ≤ 7302250; omega⟩ rfl (Nat.le_of_ble_eq_true rfl) dL_law_457 (fun A n hZ hA hAx => s_X10_mill l D c A (fun q => sz ≤ q) ad aX g n s (xs (i + 1).toNatClampNeg) (xs (i + 2).toNatClampNeg) (xs (i + 3).toNatClampNeg) (xs (i + 4).toNatClampNeg) K hA (fun t k h => (hm t k).mp h) hNI hAd.2.2.1 hAx hZ hn6) (fun r w hp => ?_) (fun r g' a' s' hGd h00 hAd' => ?_)
  · rcases hp with ⟨hb, rfl, h7⟩ | ⟨hb, hs, rfl, h7⟩ | ⟨hb, hs, rfl, hh, q1, q2, f2, hf2, h7⟩
    · exact ⟨g, aX, s, _, h7, fun t k h => (hm t k).mpr h, fun _ _ _ => rfl, rfl, o1 hb⟩
    · exact ⟨g, aX, s, _, h7, fun t k h => (hm t k).mpr h, fun _ _ _ => rfl, rfl, o2 hb hs⟩
    · exact ⟨(g.1 + 1, g.2), aMill aX g.1 hh q1 q2, sMill s g.1 (xs (i + 1).toNatClampNeg) (xs (i + 2).toNatClampNeg) (xs (i + 3).toNatClampNeg) (xs (i + 4).toNatClampNeg) f2, _, h7.trans (mill_cls hn (fun t k h => (hm t k).mp h) hNI), fun t k h => mem_mill hm h, fun t k h => aMill_ge h, rfl, o3 hb hs f2 hf2⟩
  obtain ⟨u', hM, hR'⟩ := hGd
  refine l_aload_n dL_law_460 2 rfl rfl ?_
  refine l_aload_n dL_law_461 0 rfl rfl ?_
  refine l_iload_n dL_law_462 3 rfl rfl ?_
  refine l_iconst (v := 1) dL_law_463 (by decide) ?_
  refine l_iadd dL_law_464 ?_
  refine l_scr (hi 1 (by decide)) dL_law_465 ?_
  refine l_aload_n dL_law_466 0 rfl rfl ?_
  refine l_iload_n dL_law_467 3 rfl rfl ?_
  refine l_iconst (v := 2) dL_law_468 (by decide) ?_
  refine l_iadd dL_law_469 ?_
  refine l_scr (hi 2 (by decide)) dL_law_470 ?_
  refine l_aload_n dL_law_471 0 rfl rfl ?_
  refine l_iload_n dL_law_472 3 rfl rfl ?_
  refine l_iconst (v := 3) dL_law_473 (by decide) ?_
  refine l_iadd dL_law_474 ?_
  refine l_scr (hi 3 (by decide)) dL_law_475 ?_
  refine l_aload_n dL_law_476 0 rfl rfl ?_
  refine l_iload_n dL_law_477 3 rfl rfl ?_
  refine l_iconst (v := 4) dL_law_478 (by decide) ?_
  refine l_iadd dL_law_479 ?_
  refine l_scr (hi 4 (by decide)) dL_law_480 ?_
  refine l_callM hAd' (As := [.int (xs (i + 1).toNatClampNeg), .int (xs (i + 2).toNatClampNeg), .int (xs (i + 3).toNatClampNeg), .int (xs (i + 4).toNatClampNeg)]) (rest := [.int r]) lkL_44 ⟨⟨by decide, by decide⟩, by show kc + 3 + 0 ≤ 600000; omega, by show ks + 112 + 0 ≤ 7302250; omega⟩ rfl (Nat.le_of_ble_eq_true rfl) dL_law_481 (fun Z hZ hg => m_X11_mill hZ (hM _)) ?_
  exact l_same 1268 dL_law_484 (by decide) (k g' a' s' u' h00 hAd' hR')
