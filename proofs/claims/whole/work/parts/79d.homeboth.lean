/-! the home's cells -/
def aHome (a : Nat → Nat → Nat) (n h q1 : Nat) : Nat → Nat → Nat := fun t k => match t with
  | 26 => if k = n then h else a 26 k
  | 27 => if k = n then q1 else a 27 k
  | t => a t k
set_option maxHeartbeats 8000000 in
set_option maxRecDepth 100000 in
theorem home_cls {D : va_G} {c : Nat → ClassId} {a : Nat → Nat → Nat} {g : Nat × Nat} {s : St} {k0 : Nat} {L : List (Nat × Nat)} {i : Int32} {h q1 : Nat} (hn : (s 0 0 9).toNatClampNeg = g.2) (hx : ∀ t k, (t, k) ∈ [(3, k0), (0, 0), (25, 0)] ++ L → exX g t k) (hK : NI ([(3, k0), (0, 0), (25, 0)] ++ L)) :
    hm_new c a g s k0 i h q1 ++ cls D c a g s L = cls D c (aHome a g.2 h q1) (g.1, g.2 + 1) (sHome s g.2 (hoF (s 3 k0) i) (hgF (s 3 k0) i)) ([(27, g.2), (26, g.2), (3, k0), (0, 0), (25, 0)] ++ L) := by
  have n0 : (0, 0) ∉ L := fun h => by
    obtain ⟨i, hi⟩ := List.mem_iff_getElem?.mp h
    have := hK 1 (3 + i) (0, 0) rfl (by rw [List.getElem?_append_right (by show 3 ≤ 3 + i; omega)]; simpa using hi)
    omega
  have n25 : (25, 0) ∉ L := fun h => by
    obtain ⟨i, hi⟩ := List.mem_iff_getElem?.mp h
    have := hK 2 (3 + i) (25, 0) rfl (by rw [List.getElem?_append_right (by show 3 ≤ 3 + i; omega)]; simpa using hi)
    omega
  have hL : cls D c a g s L = cls D c (aHome a g.2 h q1) (g.1, g.2 + 1) (sHome s g.2 (hoF (s 3 k0) i) (hgF (s 3 k0) i)) L := by
    refine List.map_congr_left (fun p hp => ?_)
    obtain ⟨t, k⟩ := p
    obtain ⟨h1, h2⟩ := hx t k (List.mem_append_right _ hp)
    have hc : t = 0 ∨ t = 1 ∨ t = 2 ∨ t = 3 ∨ t = 4 ∨ t = 5 ∨ t = 6 ∨ t = 7 ∨ t = 8 ∨ t = 9 ∨ t = 10 ∨ t = 11 ∨ t = 12 ∨ t = 13 ∨ t = 14 ∨ t = 15 ∨ t = 16 ∨ t = 17 ∨ t = 18 ∨ t = 19 ∨ t = 20 ∨ t = 21 ∨ t = 22 ∨ t = 23 ∨ t = 24 ∨ t = 25 ∨ t = 26 ∨ t = 27 ∨ t = 28 ∨ t = 29 ∨ t = 30 ∨ t = 31 ∨ t = 32 ∨ t = 33 ∨ t = 34 ∨ t = 35 ∨ t = 36 ∨ t = 37 ∨ t = 38 ∨ t = 39 ∨ t = 40 ∨ t = 41 ∨ t = 42 ∨ t = 43 ∨ t = 44 ∨ t = 45 ∨ t = 46 := by omega
    rcases hc with rfl | rfl | rfl | rfl | rfl | rfl | rfl | rfl | rfl | rfl | rfl | rfl | rfl | rfl | rfl | rfl | rfl | rfl | rfl | rfl | rfl | rfl | rfl | rfl | rfl | rfl | rfl | rfl | rfl | rfl | rfl | rfl | rfl | rfl | rfl | rfl | rfl | rfl | rfl | rfl | rfl | rfl | rfl | rfl | rfl | rfl | rfl
    · have : k < 1 := h2
      have e : k = 0 := by omega
      subst e
      exact absurd hp n0
    case _ | _ | _ | _ | _ | _ | _ | _ | _ | _ | _ | _ | _ | _ | _ | _ | _ | _ | _ | _ | _ | _ | _ | _ => rfl
    · have : k < 1 := h2
      exact absurd (show (25, 0) ∈ L by rw [show (0 : Nat) = k by omega]; exact hp) n25
    · have hne : ¬ k = g.2 := by
        have : k < g.2 := h2
        omega
      show (a 26 k, (Sum.inr (3, [.int (s 26 k 0), .int (s 26 k 1), .int (s 26 k 2), .int (s 26 k 3), .ref (a 27 k), .int (s 26 k 5), .int (s 26 k 6), .int (s 26 k 7)]) : va_E)) = (if k = g.2 then h else a 26 k, (Sum.inr (3, [.int ((if k = g.2 then hoF (s 3 k0) i else s 26 k) 0), .int ((if k = g.2 then hoF (s 3 k0) i else s 26 k) 1), .int ((if k = g.2 then hoF (s 3 k0) i else s 26 k) 2), .int ((if k = g.2 then hoF (s 3 k0) i else s 26 k) 3), .ref (if k = g.2 then q1 else a 27 k), .int ((if k = g.2 then hoF (s 3 k0) i else s 26 k) 5), .int ((if k = g.2 then hoF (s 3 k0) i else s 26 k) 6), .int ((if k = g.2 then hoF (s 3 k0) i else s 26 k) 7)]) : va_E))
      simp only [if_neg hne]
    · have hne : ¬ k = g.2 := by
        have : k < g.2 := h2
        omega
      show (a 27 k, (Sum.inl (c 0, 4, .inl (s 27 k)) : va_E)) = (if k = g.2 then q1 else a 27 k, .inl (c 0, 4, .inl (if k = g.2 then hgF (s 3 k0) i else s 27 k)))
      simp only [if_neg hne]
    all_goals rfl
  rw [hL]
  have e5 : va_up (fun i => if i < g.2 then some (a 26 i) else none) (s 0 0 9).toNatClampNeg (some h) = fun i => if i < g.2 + 1 then some (if i = g.2 then h else a 26 i) else none := by
    rw [hn]
    funext i
    show (if i = g.2 then some h else if i < g.2 then some (a 26 i) else none) = _
    by_cases z1 : i = g.2
    · rw [if_pos z1, if_pos (by omega), if_pos z1]
    · rw [if_neg z1, if_neg z1]
      by_cases z2 : i < g.2
      · rw [if_pos z2, if_pos (by omega)]
      · rw [if_neg z2, if_neg (by omega)]
  have e : hm_new c a g s k0 i h q1 = cls D c (aHome a g.2 h q1) (g.1, g.2 + 1) (sHome s g.2 (hoF (s 3 k0) i) (hgF (s 3 k0) i)) [(27, g.2), (26, g.2), (3, k0), (0, 0), (25, 0)] := by
    unfold hm_new
    rw [e5]
    show _ = [((if g.2 = g.2 then q1 else a 27 g.2), (Sum.inl (c 0, 4, .inl (if g.2 = g.2 then hgF (s 3 k0) i else s 27 g.2)) : va_E)), ((if g.2 = g.2 then h else a 26 g.2), .inr (3, [.int ((if g.2 = g.2 then hoF (s 3 k0) i else s 26 g.2) 0), .int ((if g.2 = g.2 then hoF (s 3 k0) i else s 26 g.2) 1), .int ((if g.2 = g.2 then hoF (s 3 k0) i else s 26 g.2) 2), .int ((if g.2 = g.2 then hoF (s 3 k0) i else s 26 g.2) 3), .ref (if g.2 = g.2 then q1 else a 27 g.2), .int ((if g.2 = g.2 then hoF (s 3 k0) i else s 26 g.2) 5), .int ((if g.2 = g.2 then hoF (s 3 k0) i else s 26 g.2) 6), .int ((if g.2 = g.2 then hoF (s 3 k0) i else s 26 g.2) 7)])), (a 3 k0, .inl (c 0, 80, .inl (s 3 k0))), (a 0 0, .inr (10, fsO a (s 0 0 9 + 1) 0)), (a 25 0, .inl (c 3, 12, .inr (.inr (.inr (.inr (fun i => if i < g.2 + 1 then some (if i = g.2 then h else a 26 i) else none))))))]
    simp only [↓reduceIte]
    rfl
  rw [e]
  exact List.map_append.symm
theorem mem_home {g : Nat × Nat} {k0 : Nat} {L : List (Nat × Nat)} (hm : ∀ t k, (t, k) ∈ [(3, k0), (0, 0), (25, 0)] ++ L ↔ exX g t k) {t k : Nat} (hx : exX (g.1, g.2 + 1) t k) : (t, k) ∈ [(27, g.2), (26, g.2), (3, k0), (0, 0), (25, 0)] ++ L := by
  by_cases h0 : exX g t k
  · exact List.mem_append_right [(27, g.2), (26, g.2)] ((hm t k).mpr h0)
  · obtain ⟨ht, hk⟩ := hx
    have hc : t = 26 ∨ t = 27 ∨ t = 0 ∨ t = 1 ∨ t = 2 ∨ t = 3 ∨ t = 4 ∨ t = 5 ∨ t = 6 ∨ t = 7 ∨ t = 8 ∨ t = 9 ∨ t = 10 ∨ t = 11 ∨ t = 12 ∨ t = 13 ∨ t = 14 ∨ t = 15 ∨ t = 16 ∨ t = 17 ∨ t = 18 ∨ t = 19 ∨ t = 20 ∨ t = 21 ∨ t = 22 ∨ t = 23 ∨ t = 24 ∨ t = 25 ∨ t = 28 ∨ t = 29 ∨ t = 30 ∨ t = 31 ∨ t = 32 ∨ t = 33 ∨ t = 34 ∨ t = 35 ∨ t = 36 ∨ t = 37 ∨ t = 38 ∨ t = 39 ∨ t = 40 ∨ t = 41 ∨ t = 42 ∨ t = 43 ∨ t = 44 ∨ t = 45 ∨ t = 46 := by omega
    rcases hc with rfl | rfl | rfl | rfl | rfl | rfl | rfl | rfl | rfl | rfl | rfl | rfl | rfl | rfl | rfl | rfl | rfl | rfl | rfl | rfl | rfl | rfl | rfl | rfl | rfl | rfl | rfl | rfl | rfl | rfl | rfl | rfl | rfl | rfl | rfl | rfl | rfl | rfl | rfl | rfl | rfl | rfl | rfl | rfl | rfl | rfl | rfl
    · have e : k = g.2 := by
        have h1 : k < g.2 + 1 := hk
        have h2 : ¬ k < g.2 := fun z => h0 ⟨ht, z⟩
        omega
      rw [e]
      simp
    · have e : k = g.2 := by
        have h1 : k < g.2 + 1 := hk
        have h2 : ¬ k < g.2 := fun z => h0 ⟨ht, z⟩
        omega
      rw [e]
      simp
    all_goals exact absurd ⟨ht, hk⟩ h0
theorem aHome_ge {a : Nat → Nat → Nat} {n h q1 t k : Nat} (ht : 100 ≤ t) : aHome a n h q1 t k = a t k := by
  unfold aHome
  split <;> first | omega | rfl
theorem sp_home (k : Nat) : NI [(3, k), (0, 0), (25, 0), (2, k)] := (((NI.nil.snoc (p := (3, k)) (by simp)).snoc (p := (0, 0)) (by simp)).snoc (p := (25, 0)) (by simp)).snoc (p := (2, k)) (by simp)
theorem lkL_90 : LkV R_law 90 yX10_home 0 iX10_home 2 := ⟨10, 11, TX10, rfl, rfl, kw_740, kw_741, kw_742, kw_1, kw_743, ⟨by decide, by decide, by decide⟩⟩
set_option maxRecDepth 100000 in
theorem law_17 {l : Launch} {b L : Nat} {xs : Nat → Int32} {D : va_G} {c : Nat → ClassId} {ad : Nat → Nat → Nat} {sz kc ks N : Nat} {g : Nat × Nat} {aX aM : Nat → Nat → Nat} {s u : St} {i : Int32} (hAd : LAd sz ad g aX aM) (hi : ∀ k : Nat, k < 6 → vp_in (i + nI k) L) (hkc : kc ≤ 500000) (hks : ks ≤ 7000000) (hR : Rel N g s u) (k : ∀ (g' : Nat × Nat) (a' : Nat → Nat → Nat) (s' u' : St), a' 0 0 = aX 0 0 → LAd sz ad g' a' aM → Rel (N + 1) g' s' u' → LA l b L xs D c ad sz (kc + 2) (ks + 12) 1268 (lvL b aX aM i) [] (LJ D c g' a' aM s' u')) : LA l b L xs D c ad sz kc ks 809 (lvL b aX aM i) [] (LJ D c g aX aM s u) := by
  obtain ⟨k0, hk0, hka⟩ : ∃ k0 : Nat, k0 < 8 ∧ (bw (xs (i + 1).toNatClampNeg) 0 7 = true → xs (i + 1).toNatClampNeg = nI k0) := by
    by_cases q : bw (xs (i + 1).toNatClampNeg) 0 7 = true
    · obtain ⟨k0, h1, h2⟩ := bw_of (n := 7) rfl q
      exact ⟨k0, by omega, fun _ => h2⟩
    · exact ⟨0, by omega, fun z => absurd z q⟩
  obtain ⟨K, hNI, hm⟩ := all_ex g [(3, k0), (0, 0), (25, 0), (2, k0)] (sp_home k0) (fun t k h => by
    rcases List.mem_cons.mp h with h | h
    · cases h
      exact ⟨by decide, hk0⟩
    · rcases List.mem_cons.mp h with h | h
      · cases h
        exact ⟨by decide, Nat.one_pos⟩
      · rcases List.mem_cons.mp h with h | h
        · cases h
          exact ⟨by decide, Nat.one_pos⟩
        · rcases List.mem_cons.mp h with h | h
          · cases h
            exact ⟨by decide, hk0⟩
          · cases h)
  have hNI' : NI ([(3, k0), (0, 0), (25, 0)] ++ ((2, k0) :: K)) := hNI
  have hm' : ∀ t k, (t, k) ∈ [(3, k0), (0, 0), (25, 0)] ++ ((2, k0) :: K) ↔ exX g t k := hm
  obtain ⟨h0, h1, h2, h3⟩ := id hR.2.2.2.2.2.2.2.2.2.1
  obtain ⟨o1, o2, o3, o4, o5⟩ := op_home hR hk0 (xs (i + 1).toNatClampNeg) (xs (i + 2).toNatClampNeg) hka
  have hn : (s 0 0 9).toNatClampNeg = g.2 := by rw [h1, nI_clamp (by omega)]
  have hn12 : s 0 0 9 < 12 → vp_in (s 0 0 9) 12 := fun z => by
    rw [h1] at z ⊢
    refine inb_vp (inb_nI ?_ (by omega))
    rcases Nat.lt_or_ge g.2 12 with y | y
    · exact y
    · have e : g.2 = 12 := by omega
      rw [e] at z
      exact absurd z (by decide)
  have hz : fndH s k0 (xs (i + 2).toNatClampNeg) = 0 → ∃ z : Nat, z + 9 ≤ 80 ∧ xs (i + 2).toNatClampNeg = nI z := fun z => by
    rcases home_look hR hk0 (xs (i + 2).toNatClampNeg) with ⟨h, -⟩ | ⟨-, z1, z2, z3, -⟩
    · exact absurd z h
    · exact ⟨z1, z2, z3⟩
  refine l_aload_n dL_law_809 1 rfl rfl ?_
  refine l_aload_n dL_law_810 0 rfl rfl ?_
  refine l_iload_n dL_law_811 3 rfl rfl ?_
  refine l_iconst (v := 1) dL_law_812 (by decide) ?_
  refine l_iadd dL_law_813 ?_
  refine l_scr (hi 1 (by decide)) dL_law_814 ?_
  refine l_aload_n dL_law_815 0 rfl rfl ?_
  refine l_iload_n dL_law_816 3 rfl rfl ?_
  refine l_iconst (v := 2) dL_law_817 (by decide) ?_
  refine l_iadd dL_law_818 ?_
  refine l_scr (hi 2 (by decide)) dL_law_819 ?_
  refine l_callG hAd (As := [.int (xs (i + 1).toNatClampNeg), .int (xs (i + 2).toNatClampNeg)]) (rest := []) (Pst := P_home D c aX g s k0 K (xs (i + 1).toNatClampNeg) (xs (i + 2).toNatClampNeg)) (fun r g' s' => ∃ u' : St, (∀ gg, F_X11_home gg (xs (i + 1).toNatClampNeg) (xs (i + 2).toNatClampNeg) u = some (r, u')) ∧ Rel (N + 1) g' s' u') lkL_90 ⟨⟨by decide, by decide⟩, by show kc + 2 ≤ 600000; omega, by show ks + 12 ≤ 7302250; omega⟩ rfl (Nat.le_of_ble_eq_true rfl) dL_law_820 (fun A n hZ hA hAx => s_X10_home l D c A (fun q => sz ≤ q) ad aX g n s k0 hk0 (xs (i + 1).toNatClampNeg) (xs (i + 2).toNatClampNeg) K hA (fun t k h => (hm' t k).mp h) hNI' hAd.2.2.1 hAx hZ hn12 hka hz) (fun r w hp => ?_) (fun r g' a' s' hGd h00 hAd' => ?_)
  · rcases hp with ⟨hb, rfl, h7⟩ | ⟨hb, hs, rfl, h7⟩ | ⟨hb, hs, hf, rfl, h7⟩ | ⟨hb, hs, hf, hq, rfl, h7⟩ | ⟨hb, hs, hf, hq, rfl, hh, q1, h7⟩
    · exact ⟨g, aX, s, _, h7, fun t k h => (hm' t k).mpr h, fun _ _ _ => rfl, rfl, o1 hb⟩
    · exact ⟨g, aX, s, _, h7, fun t k h => (hm' t k).mpr h, fun _ _ _ => rfl, rfl, o2 hb hs⟩
    · exact ⟨g, aX, up s 0 0 10 (fndH s k0 (xs (i + 2).toNatClampNeg)), _, h7, fun t k h => (hm' t k).mpr h, fun _ _ _ => rfl, rfl, o3 hb hs hf⟩
    · exact ⟨g, aX, s, _, h7, fun t k h => (hm' t k).mpr h, fun _ _ _ => rfl, rfl, o4 hb hs hf hq⟩
    · exact ⟨(g.1, g.2 + 1), aHome aX g.2 hh q1, sHome s g.2 (hoF (s 3 k0) (xs (i + 2).toNatClampNeg)) (hgF (s 3 k0) (xs (i + 2).toNatClampNeg)), _, h7.trans (home_cls hn (fun t k h => (hm' t k).mp h) hNI'), fun t k h => mem_home hm' h, fun t k h => aHome_ge h, rfl, o5 hb hs hf hq⟩
  obtain ⟨u', hM, hR'⟩ := hGd
  refine l_aload_n dL_law_823 2 rfl rfl ?_
  refine l_aload_n dL_law_824 0 rfl rfl ?_
  refine l_iload_n dL_law_825 3 rfl rfl ?_
  refine l_iconst (v := 1) dL_law_826 (by decide) ?_
  refine l_iadd dL_law_827 ?_
  refine l_scr (hi 1 (by decide)) dL_law_828 ?_
  refine l_aload_n dL_law_829 0 rfl rfl ?_
  refine l_iload_n dL_law_830 3 rfl rfl ?_
  refine l_iconst (v := 2) dL_law_831 (by decide) ?_
  refine l_iadd dL_law_832 ?_
  refine l_scr (hi 2 (by decide)) dL_law_833 ?_
  refine l_callM hAd' (As := [.int (xs (i + 1).toNatClampNeg), .int (xs (i + 2).toNatClampNeg)]) (rest := [.int r]) lkL_93 ⟨⟨by decide, by decide⟩, by show kc + 2 + 0 ≤ 600000; omega, by show ks + 12 + 0 ≤ 7302250; omega⟩ rfl (Nat.le_of_ble_eq_true rfl) dL_law_834 (fun Z hZ hg => m_X11_home hZ (hM _)) ?_
  exact l_same 1268 dL_law_837 (by decide) (k g' a' s' u' h00 hAd' hR')
