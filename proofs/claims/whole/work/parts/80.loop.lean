/-! THE LAW'S LOOP -/
theorem Rel.more {N : Nat} {g : Nat × Nat} {s u : St} (h : Rel N g s u) : Rel (N + 1) g s u := by
  obtain ⟨hA, hB, hC, hD, hE⟩ := h
  exact ⟨hA, hB, hC, hD.more, hE⟩
set_option maxRecDepth 100000 in
theorem law_all {l : Launch} {b L : Nat} {xs : Nat → Int32} {D : va_G} {c : Nat → ClassId} {ad : Nat → Nat → Nat} {sz kc ks N : Nat} {g : Nat × Nat} {aX aM : Nat → Nat → Nat} {s u : St} {i : Int32} (hAd : LAd sz ad g aX aM) (hi : ∀ k : Nat, k < 6 → vp_in (i + nI k) L) (hkc : kc ≤ 500000) (hks : ks ≤ 7000000) (hN : N < 580) (hR : Rel N g s u) (n : Nat) (hn : n < 32)
    (k : ∀ (g' : Nat × Nat) (a' : Nat → Nat → Nat) (s' u' : St) (kc' ks' : Nat), kc' ≤ kc + 3 → ks' ≤ ks + 112 → a' 0 0 = aX 0 0 → LAd sz ad g' a' aM → Rel (N + 1) g' s' u' → LA l b L xs D c ad sz kc' ks' 1268 (lvL b aX aM i) [] (LJ D c g' a' aM s' u')) : LA l b L xs D c ad sz kc ks 33 (lvL b aX aM i) [.int (nI n)] (LJ D c g aX aM s u) := by
  have one : ∀ {s' u' : St}, Rel (N + 1) g s' u' → LA l b L xs D c ad sz kc ks 1268 (lvL b aX aM i) [] (LJ D c g aX aM s' u') := fun h => k g aX _ _ kc ks (by omega) (by omega) rfl hAd h
  have hc : n = 0 ∨ n = 1 ∨ n = 2 ∨ n = 3 ∨ n = 4 ∨ n = 5 ∨ n = 6 ∨ n = 7 ∨ n = 8 ∨ n = 9 ∨ n = 10 ∨ n = 11 ∨ n = 12 ∨ n = 13 ∨ n = 14 ∨ n = 15 ∨ n = 16 ∨ n = 17 ∨ n = 18 ∨ n = 19 ∨ n = 20 ∨ n = 21 ∨ n = 22 ∨ n = 23 ∨ n = 24 ∨ n = 25 ∨ n = 26 ∨ n = 27 ∨ n = 28 ∨ n = 29 ∨ n = 30 ∨ n = 31 := by omega
  rcases hc with rfl | rfl | rfl | rfl | rfl | rfl | rfl | rfl | rfl | rfl | rfl | rfl | rfl | rfl | rfl | rfl | rfl | rfl | rfl | rfl | rfl | rfl | rfl | rfl | rfl | rfl | rfl | rfl | rfl | rfl | rfl | rfl
  · refine l_tabIn (off := 135) 168 dL_law_33 (by decide) (by decide) (by decide) (by decide) ?_
    obtain ⟨r, s', u', e1, e2, hR'⟩ := op_sheet hR (xs (i + 1).toNatClampNeg) (xs (i + 2).toNatClampNeg) (xs (i + 3).toNatClampNeg)
    exact law_0 hAd hi hkc hks e1 e2 (one hR')
  · refine l_tabIn (off := 178) 211 dL_law_33 (by decide) (by decide) (by decide) (by decide) ?_
    obtain ⟨r, s', u', e1, e2, hR'⟩ := op_set hR (xs (i + 1).toNatClampNeg) (xs (i + 2).toNatClampNeg) (xs (i + 3).toNatClampNeg)
    exact law_1 hAd hi hkc hks e1 e2 (one hR')
  · refine l_tabIn (off := 221) 254 dL_law_33 (by decide) (by decide) (by decide) (by decide) ?_
    obtain ⟨r, s', u', e1, e2, hR'⟩ := op_copy hR (xs (i + 1).toNatClampNeg) (xs (i + 2).toNatClampNeg) (xs (i + 3).toNatClampNeg) (xs (i + 4).toNatClampNeg) (xs (i + 5).toNatClampNeg)
    exact law_2 hAd hi hkc hks e1 e2 (one hR')
  · refine l_tabIn (off := 284) 317 dL_law_33 (by decide) (by decide) (by decide) (by decide) ?_
    obtain ⟨r, s', u', e1, e2, hR'⟩ := op_drop hR (xs (i + 1).toNatClampNeg)
    exact law_3 hAd hi hkc hks e1 e2 (one hR')
  · refine l_tabIn (off := 307) 340 dL_law_33 (by decide) (by decide) (by decide) (by decide) ?_
    obtain ⟨r, s', u', e1, e2, hR'⟩ := op_stuff hR (xs (i + 1).toNatClampNeg) (xs (i + 2).toNatClampNeg) (xs (i + 3).toNatClampNeg)
    exact law_4 hAd hi hkc hks e1 e2 (one hR')
  · refine l_tabIn (off := 350) 383 dL_law_33 (by decide) (by decide) (by decide) (by decide) ?_
    obtain ⟨r, s', u', e1, e2, hR'⟩ := op_ship hR (xs (i + 1).toNatClampNeg) (xs (i + 2).toNatClampNeg) (xs (i + 3).toNatClampNeg) (xs (i + 4).toNatClampNeg)
    exact law_5 hAd hi hkc hks e1 e2 (one hR')
  · refine l_tabIn (off := 403) 436 dL_law_33 (by decide) (by decide) (by decide) (by decide) ?_
    exact law_6 hAd hi hkc hks hR (fun g' a' s' u' h1 h2 h3 => k g' a' s' u' (kc + 3) (ks + 112) (by omega) (by omega) h1 h2 h3)
  · refine l_tabIn (off := 456) 489 dL_law_33 (by decide) (by decide) (by decide) (by decide) ?_
    obtain ⟨r, s', u', e1, e2, hR'⟩ := op_stock hR (xs (i + 1).toNatClampNeg) (xs (i + 2).toNatClampNeg) (xs (i + 3).toNatClampNeg)
    exact law_7 hAd hi hkc hks e1 e2 (one hR')
  · refine l_tabIn (off := 499) 532 dL_law_33 (by decide) (by decide) (by decide) (by decide) ?_
    obtain ⟨r, s', u', e1, e2, hR'⟩ := op_told hR (xs (i + 1).toNatClampNeg) (xs (i + 2).toNatClampNeg)
    exact law_8 hAd hi hkc hks e1 e2 (one hR')
  · refine l_tabIn (off := 532) 565 dL_law_33 (by decide) (by decide) (by decide) (by decide) ?_
    obtain ⟨r, s', u', e1, e2, hR'⟩ := op_step hN hR (xs (i + 1).toNatClampNeg)
    exact law_9 hAd hi hkc hks e1 e2 (one hR')
  · refine l_tabIn (off := 555) 588 dL_law_33 (by decide) (by decide) (by decide) (by decide) ?_
    obtain ⟨r, s', u', e1, e2, hR'⟩ := op_ran hR (xs (i + 1).toNatClampNeg) (xs (i + 2).toNatClampNeg)
    exact law_10 hAd hi hkc hks e1 e2 (one hR')
  · refine l_tabIn (off := 588) 621 dL_law_33 (by decide) (by decide) (by decide) (by decide) ?_
    obtain ⟨r, s', u', e1, e2, hR'⟩ := op_price (show N < 600 by omega) hR (xs (i + 1).toNatClampNeg) (xs (i + 2).toNatClampNeg)
    exact law_11 hAd hi hkc hks e1 e2 (one hR')
  · refine l_tabIn (off := 621) 654 dL_law_33 (by decide) (by decide) (by decide) (by decide) ?_
    obtain ⟨r, s', u', e1, e2, hR'⟩ := op_feed hR (((xs (i + 1).toNatClampNeg).toInt64 <<< ((32 : Int32).toInt64 &&& 63)) ||| ((xs (i + 2).toNatClampNeg).toInt64 &&& 4294967295)) (xs (i + 3).toNatClampNeg)
    exact law_12 hAd hi hkc hks e1 e2 (one hR')
  · refine l_tabIn (off := 684) 717 dL_law_33 (by decide) (by decide) (by decide) (by decide) ?_
    obtain ⟨r, s', u', e1, e2, hR'⟩ := op_lists hR 
    exact law_13 hAd hi hkc hks e1 e2 (one hR')
  · refine l_tabIn (off := 697) 730 dL_law_33 (by decide) (by decide) (by decide) (by decide) ?_
    obtain ⟨r, s', u', e1, e2, hR'⟩ := op_fault hR 
    exact law_14 hAd hi hkc hks e1 e2 (one hR')
  · refine l_tabIn (off := 710) 743 dL_law_33 (by decide) (by decide) (by decide) (by decide) ?_
    obtain ⟨r, s', u', e1, e2, hR'⟩ := op_holds hR (xs (i + 1).toNatClampNeg) (xs (i + 2).toNatClampNeg)
    exact law_15 hAd hi hkc hks e1 e2 (one hR')
  · refine l_tabIn (off := 743) 776 dL_law_33 (by decide) (by decide) (by decide) (by decide) ?_
    obtain ⟨r, s', u', e1, e2, hR'⟩ := op_first hR (xs (i + 1).toNatClampNeg) (xs (i + 2).toNatClampNeg)
    exact law_16 hAd hi hkc hks e1 e2 (one hR')
  · refine l_tabIn (off := 776) 809 dL_law_33 (by decide) (by decide) (by decide) (by decide) ?_
    exact law_17 hAd hi hkc hks hR (fun g' a' s' u' h1 h2 h3 => k g' a' s' u' (kc + 2) (ks + 12) (by omega) (by omega) h1 h2 h3)
  · refine l_tabIn (off := 809) 842 dL_law_33 (by decide) (by decide) (by decide) (by decide) ?_
    obtain ⟨r, s', u', e1, e2, hR'⟩ := op_house hR (xs (i + 1).toNatClampNeg) (xs (i + 2).toNatClampNeg)
    exact law_18 hAd hi hkc hks e1 e2 (one hR')
  · refine l_tabIn (off := 842) 875 dL_law_33 (by decide) (by decide) (by decide) (by decide) ?_
    obtain ⟨r, s', u', e1, e2, hR'⟩ := op_paid hR (xs (i + 1).toNatClampNeg) (xs (i + 2).toNatClampNeg) (xs (i + 3).toNatClampNeg) (xs (i + 4).toNatClampNeg)
    exact law_19 hAd hi hkc hks e1 e2 (one hR')
  · refine l_tabIn (off := 895) 928 dL_law_33 (by decide) (by decide) (by decide) (by decide) ?_
    obtain ⟨r, s', u', e1, e2, hR'⟩ := op_thing hR (xs (i + 1).toNatClampNeg) (xs (i + 2).toNatClampNeg) (xs (i + 3).toNatClampNeg)
    exact law_20 hAd hi hkc hks e1 e2 (one hR')
  · refine l_tabIn (off := 938) 971 dL_law_33 (by decide) (by decide) (by decide) (by decide) ?_
    obtain ⟨r, s', u', e1, e2, hR'⟩ := op_works hR (xs (i + 1).toNatClampNeg) (xs (i + 2).toNatClampNeg) (xs (i + 3).toNatClampNeg) (xs (i + 4).toNatClampNeg) (xs (i + 5).toNatClampNeg)
    exact law_21 hAd hi hkc hks e1 e2 (one hR')
  · refine l_tabIn (off := 1001) 1034 dL_law_33 (by decide) (by decide) (by decide) (by decide) ?_
    obtain ⟨r, s', u', e1, e2, hR'⟩ := op_news hR (xs (i + 1).toNatClampNeg) (xs (i + 2).toNatClampNeg) (xs (i + 3).toNatClampNeg) (xs (i + 4).toNatClampNeg)
    exact law_22 hAd hi hkc hks e1 e2 (one hR')
  · refine l_tabIn (off := 1054) 1087 dL_law_33 (by decide) (by decide) (by decide) (by decide) ?_
    obtain ⟨r, s', u', e1, e2, hR'⟩ := op_known hR (xs (i + 1).toNatClampNeg) (xs (i + 2).toNatClampNeg)
    exact law_23 hAd hi hkc hks e1 e2 (one hR')
  · refine l_tabIn (off := 1087) 1120 dL_law_33 (by decide) (by decide) (by decide) (by decide) ?_
    obtain ⟨r, s', u', e1, e2, hR'⟩ := op_kind hR (xs (i + 1).toNatClampNeg)
    exact law_24 hAd hi hkc hks e1 e2 (one hR')
  · refine l_tabIn (off := 1110) 1143 dL_law_33 (by decide) (by decide) (by decide) (by decide) ?_
    obtain ⟨r, s', u', e1, e2, hR'⟩ := op_as hR (xs (i + 1).toNatClampNeg) (xs (i + 2).toNatClampNeg)
    exact law_25 hAd hi hkc hks e1 e2 (one hR')
  · refine l_tabIn (off := 1143) 1176 dL_law_33 (by decide) (by decide) (by decide) (by decide) ?_
    obtain ⟨r, s', u', e1, e2, hR'⟩ := op_ask hR (xs (i + 1).toNatClampNeg) (xs (i + 2).toNatClampNeg)
    exact law_26 hAd hi hkc hks e1 e2 (one hR')
  · refine l_tabIn (off := 1176) 1209 dL_law_33 (by decide) (by decide) (by decide) (by decide) ?_
    obtain ⟨r, s', u', e1, e2, hR'⟩ := op_trace hR (xs (i + 1).toNatClampNeg)
    exact law_27 hAd hi hkc hks e1 e2 (one hR')
  · refine l_tabIn (off := 1199) 1232 dL_law_33 (by decide) (by decide) (by decide) (by decide) ?_
    obtain ⟨r, s', u', e1, e2, hR'⟩ := op_count (show N < 600 by omega) hR (xs (i + 1).toNatClampNeg)
    exact law_28 hAd hi hkc hks e1 e2 (one hR')
  · refine l_tabIn (off := 1222) 1255 dL_law_33 (by decide) (by decide) (by decide) (by decide) ?_
    obtain ⟨r, s', u', e1, e2, hR'⟩ := op_status hR 
    exact law_29 hAd hi hkc hks e1 e2 (one hR')
  · exact l_tabOut 1268 dL_law_33 (Or.inr (by decide)) (by decide) (one hR.more)
  · exact l_tabOut 1268 dL_law_33 (Or.inr (by decide)) (by decide) (one hR.more)
theorem lt_len {L j : Nat} (hL : L ≤ 3072) (h1 : 6 * j ≤ L) (h : L < 6 * j + 6) : Int32.ofNat L - 6 < nI (6 * j) := by
  show nI L - nI 6 < nI (6 * j)
  by_cases q : 6 ≤ L
  · rw [pk_sub q]
    exact nI_lt (by omega) (by omega)
  · have : j = 0 := by omega
    subst this
    rcases (show L = 0 ∨ L = 1 ∨ L = 2 ∨ L = 3 ∨ L = 4 ∨ L = 5 by omega) with rfl | rfl | rfl | rfl | rfl | rfl <;> decide
theorem law_loop {l : Launch} {b L : Nat} {xs : Nat → Int32} {D : va_G} {c : Nat → ClassId} {ad : Nat → Nat → Nat} {sz : Nat} {aM : Nat → Nat → Nat} (hL : L ≤ 3072) : ∀ (m j : Nat) (g : Nat × Nat) (aX : Nat → Nat → Nat) (s u : St) (kc ks : Nat), 6 * j ≤ L → L + 6 ≤ 6 * (j + m) → kc ≤ 1000 + 3 * j → ks ≤ 20000 + 112 * j → LAd sz ad g aX aM → Rel j g s u → LA l b L xs D c ad sz kc ks 18 (lvL b aX aM (nI (6 * j))) [] (LJ D c g aX aM s u)
  | 0, j, g, aX, s, u, kc, ks, h1, h2, _, _, _, _ => absurd h2 (by omega)
  | m + 1, j, g, aX, s, u, kc, ks, h1, h2, hkc, hks, hAd, hR => by
    refine l_iload_n dL_law_18 3 rfl rfl ?_
    refine l_aload_n dL_law_19 0 rfl rfl ?_
    refine l_len dL_law_20 ?_
    refine l_bipush (v := 6) dL_law_21 (by decide) ?_
    refine l_isub dL_law_23 ?_
    refine l_icmp_gt 1274 dL_law_24 (by decide) (fun q => ?_) (fun q => ?_)
    · refine l_iconst (v := 1) dL_law_1274 (by decide) ?_
      exact l_end (by omega) (by omega) dL_law_1275
    · have h6 : 6 * j + 6 ≤ L := by
        rcases Nat.lt_or_ge L (6 * j + 6) with z | z
        · exact absurd (lt_len hL h1 z) q
        · exact z
      have hi : ∀ k : Nat, k < 6 → vp_in (nI (6 * j) + nI k) L := fun k hk => by
        rw [nI_add]
        exact vp_in_nI (by omega) (by omega)
      refine l_aload_n dL_law_27 0 rfl rfl ?_
      refine l_iload_n dL_law_28 3 rfl rfl ?_
      refine l_scr (vp_in_nI (by omega) (by omega)) dL_law_29 ?_
      refine l_bipush (v := 31) dL_law_30 (by decide) ?_
      refine l_iand dL_law_32 ?_
      obtain ⟨n, hn, e⟩ := pk_andE (xs (nI (6 * j)).toNatClampNeg) (m := 31) 5 (by decide)
      rw [e]
      refine law_all hAd hi (by omega) (by omega) (by omega) hR n hn (fun g' a' s' u' kc' ks' k1 k2 h00 hAd' hR' => ?_)
      rw [show lvL b aX aM (nI (6 * j)) = lvL b a' aM (nI (6 * j)) by unfold lvL; rw [h00]]
      refine l_iinc (v := nI (6 * (j + 1))) [(3, .int (nI (6 * (j + 1)))), (0, .ref b), (1, .ref (a' 0 0)), (2, .ref (aM 60 0))] dL_law_1268 3 rfl (nI_add (6 * j) 6) (by decide) rfl ?_
      refine l_goto 18 dL_law_1271 (by decide) ?_
      refine l_loc (lvL b a' aM (nI (6 * (j + 1)))) [1, 2, 3, 0] rfl ?_
      exact law_loop hL m (j + 1) g' a' s' u' kc' ks' (by omega) (by omega) (by omega) (by omega) hAd' hR'
