/-! feed -/
theorem low8 (x : Int64) : (x &&& 255).toInt32 = x.toInt32 &&& 255 := by
  rw [Int64.toInt32_and]
  rfl
theorem low8_in (x : Int32) : ∃ b : Nat, b < 256 ∧ x &&& 255 = nI b := by
  obtain ⟨j, h1, h2⟩ := pk_andE x (m := 255) 8 (by decide)
  exact ⟨j, h1, h2⟩
theorem feed_loop {N : Nat} {g : Nat × Nat} (w : Int64) (a : Int32) : ∀ (m c n : Nat) (s u : St), Rel (N + 1) g s u → s 23 0 1 = nI c → c + m ≤ 400 → m < n → Same N g (F_X8_append_20 g w a n (nI m - 1) s) (F_X11_feed_40 g w a n (nI m - 1) u)
  | 0, c, n + 1, s, u, h, hc, hm, _ => by
    obtain ⟨c2, -, h1, h2, -⟩ := h.2.2.2.2.2.2.2.2.1
    rw [F_X8_append_20, F_X11_feed_40, if_pos (by decide), if_pos (by decide)]
    exact ⟨_, _, _, rfl, by rw [h1, h2], h⟩
  | m + 1, c, n + 1, s, u, h, hc, hm, hn => by
    obtain ⟨hA, hB, hC, hD, hE, hF, hG, hH, hI, hJ, hK, hL, hM⟩ := id h
    obtain ⟨c2, hc2, h1, h2, h3, h4⟩ := hI
    have : c = c2 := (nI_eq (by omega) (by omega)).mp (hc.symm.trans h1)
    subst this
    have hneg : ¬ nI m < 0 := nI_pos (by omega)
    rw [nI_pred, F_X8_append_20, F_X11_feed_40, if_neg hneg, if_neg hneg, h1, h2, gd_of (inb_nI (by omega) (by omega)), gd_of (inb_nI (by omega) (by omega)), nI_clamp (by omega), low8]
    have e0 : nI m + (-1) = nI m - 1 := (Int32.sub_eq_add_neg _ _).symm
    rw [e0, nI_1]
    obtain ⟨b, hb, eb⟩ := low8_in (w >>> (((8 : Int32) * nI m).toInt64 &&& 63)).toInt32
    rw [eb]
    refine feed_loop w a m (c + 1) n _ _ ⟨hA, hB, hC, hD, hE, hF, hG, hH, ?_, hJ, hK, hL, hM⟩ rfl (by omega) (by omega)
    refine ⟨c + 1, by omega, rfl, rfl, h3, fun i hi => ?_⟩
    by_cases e : i = c
    · subst e
      exact ⟨by simp [up], b, hb, by simp [up]⟩
    · have := h4 i (by omega)
      simpa [up, e] using this
theorem op_feed {N : Nat} {g : Nat × Nat} {s u : St} (h : Rel N g s u) (w : Int64) (a : Int32) : Same N g (F_X10_feed g w a s) (F_X11_feed g w a u) := by
  have hR := h.read
  obtain ⟨c, hc, h1, h2, -⟩ := id hR.2.2.2.2.2.2.2.2.1
  unfold F_X10_feed F_X11_feed F_X8_append
  simp only [F_within, in_1_8, bd_so, bI_if, h1, h2]
  by_cases q : bw a 1 8 = true
  · obtain ⟨m, m1, m2, rfl⟩ := bw_of1 (a := 1) (n := 8) rfl (by omega) rfl q
    simp only [q, if_true, nI_add]
    by_cases q2 : c + m ≤ 400
    · have e : nI (c + m) ≤ (400 : Int32) := nI_le (b := 400) q2 (by omega)
      rw [if_pos e, if_pos e]
      exact (feed_loop w (nI m) m c fu s (up u 60 0 0 0) hR h1 q2 (lt_fu (by omega))).ret
    · have e : ¬ nI (c + m) ≤ (400 : Int32) := nI_ge (a := 400) (b := c + m) (by omega) (by omega)
      rw [if_neg e, if_neg e]
      exact ⟨_, _, _, rfl, rfl, hR⟩
  · simp only [q]
    exact ⟨_, _, _, rfl, rfl, hR⟩
