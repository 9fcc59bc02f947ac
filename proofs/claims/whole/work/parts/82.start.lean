/-! the law's start: both objects come to be -/
def JW (D : va_G) (sz : Nat) (ws : va_W) : Heap → Prop := fun H => va_P D vwCl ws H ∧ va_D (fun q => sz ≤ q) ws
section LST
variable {l : Launch} {b L : Nat} {xs : Nat → Int32} {D : va_G} {c : Nat → ClassId} {ad : Nat → Nat → Nat} {sz kc ks pc : Nat} {lv : List (Nat × Value)} {st : List Value}
theorem l_new {ws : va_W} {idx ci N : Nat} {C0 : String} {T : u_T} {ty : Nat → FieldType} {fs : List Value} (hin : ∀ w ∈ u_ws C0 T N, w ∈ gtab) (hty : ∀ k, k < N → parseFieldDescriptor (T k).2.2.1 = some (ty k)) (w1 : Cond.classLink R_law idx C0 ∈ gtab) (w2 : Cond.instantiable C0 N ∈ gtab) (w3 : Cond.initialized C0 ∈ gtab) (hc : vwCl[ci]? = some (C0, T, N)) (hfs : ∀ j, j < N → defaultValue (ty j) = vp_V fs j) (hf : kc + 1 ≤ 600000 ∧ ks + N ≤ 7302250) (hd : decode cL_law pc = .ok (.new idx, 3))
    (k : ∀ q : Nat, LA l b L xs D c ad sz (kc + 1) (ks + N) (pc + 3) lv (.ref q :: st) (JW D sz ((q, .inr (ci, fs)) :: ws))) : LA l b L xs D c ad sz kc ks pc lv st (JW D sz ws) :=
  fun p e s0 m below meth cd H locs ls C hK hS hE hz hJ hV hl => by
    have hg : ∀ w ∈ gtab, w.before #[Value.ref b] s0 = true := fun w hw => C.2.2.2.2.2.1 w (gtab_good hw).1
    exact va_new C.1 C.2.1 hg hin ty hty C.2.2.2.2.1 (hg _ w1) (hg _ w2) (hg _ w3) hK hJ.1 hJ.2 hV (fun q hq => by rw [← hz]; exact hq) hc hfs hf.1 hf.2 hd (fun q H1 hP1 hD1 hS1 => k q p e s0 m below meth cd H1 locs ls C hK hS hE hz ⟨cons_P hP1, cons_D hD1⟩ hS1 hl)
theorem l_callI {y : MethodName} {N : MI} {idx a : Nat} {As rest : List Value} {ws wc wr : va_W} {Pst : va_W → Prop} (hr : mT N = none) (hl0 : LkI R_law idx y N As.length) (hf : (mD N + 1 ≤ 2048 ∧ 8 + (mL N + 11) + 40 * mD N ≤ 84000) ∧ kc + mK N ≤ 600000 ∧ ks + mN N ≤ 7302250) (hst : st = As.reverse ++ .ref a :: rest) (hrest : (rest.map fun v => v.category).sum ≤ 8) (hd : decode cL_law pc = .ok (.invokespecial idx, 3)) (hC : CSp l y N D c (.ref a :: As) wc Pst) (hw : ws = wc ++ wr)
    (kk : ∀ w1 : va_W, Pst w1 → LA l b L xs D c ad sz (kc + mK N) (ks + mN N) (pc + 3) lv rest (JW D sz (w1 ++ wr))) : LA l b L xs D c ad sz kc ks pc lv st (JW D sz ws) :=
  fun p e s0 m below meth cd H locs ls C hK hS hE hz hJ hV hl => by
    subst hst
    subst hw
    obtain ⟨hP, hD⟩ := hJ
    obtain ⟨h1, h2, h3, h5, h6, h7⟩ := hl0
    have hg : ∀ w ∈ gtab, w.before #[Value.ref b] s0 = true := fun w hw => C.2.2.2.2.2.1 w (gtab_good hw).1
    have hG := gtab_goodIn h5
    have hA0 : ∀ q, H.size ≤ q → sz ≤ q := fun q hq => Nat.le_trans (by rw [← hz]; exact hV.1) hq
    have hA1 : ∀ q, va_A wc H.size q → sz ≤ q := fun q hq => by
      rcases hq with ⟨i, e, hi⟩ | hq
      · exact (D_left hD).2 i _ hi
      · exact hA0 q hq
    have hcw : CallB room_1 s0 #[Value.ref b] R_law idx y (mC N) (mL N) (mT N) (Cond.code y (mC N) (mL N) (mT N) :: gtab) (gR N) (mK N) (mN N) As.length := callB_of As.length hg hG rfl rfl rfl (hg _ h3) (hg _ h1) h7 hf.1
    have hM := hC H.size
    rw [hr] at hcw hM
    refine va_callv (va_runI (As := As) (rest := rest) ⟨C.1, C.2.1, C.2.2.2.1, C.2.2.2.2.1, hg⟩ hM ⟨hcw, h6, hg _ h2⟩ ⟨c_blind, fun U hU hW => ⟨rfl, by rw [hU], by rw [hU]; exact P_left hP, va_K.moved hW.alike hK, (D_left hD).weaken (fun _ _ _ _ => trivial), hE.warm hW⟩⟩ rfl rfl hl.1 rfl (lv_room hrest) hd hf.2) hV (fun q _ h => hA1 q h) hA1 (fun w1 t H1 locs1 ht hvm hp hB hz1 hk1 hS1 => ?_)
    obtain ⟨hP1, hD1⟩ := hB
    rw [ht] at hP1
    obtain ⟨j1, j2⟩ := join_P hP hD hA0 hk1 hP1 hD1
    exact kk w1 hp p e s0 m below meth cd H1 locs1 ls C hK hS hE hz ⟨j1, j2⟩ hS1 hl
end LST
theorem lkI_9 : LkI R_law 9 yX10_init iX10_init 0 := ⟨kw_22, kw_23, kw_1, kw_24, rfl, ⟨by decide, by decide, by decide⟩⟩
theorem lkI_12 : LkI R_law 12 yX11_init iX11_init 0 := ⟨kw_947, kw_948, kw_10, kw_949, rfl, ⟨by decide, by decide, by decide⟩⟩
set_option maxRecDepth 100000 in
theorem fs_X10 : ∀ j, j < 11 → defaultValue (tyX10 j) = vp_V [.null, .null, .null, .null, .null, .null, .null, .null, .null, .int 0, .int 0] j := by intro j hj; rcases (show j = 0 ∨ j = 1 ∨ j = 2 ∨ j = 3 ∨ j = 4 ∨ j = 5 ∨ j = 6 ∨ j = 7 ∨ j = 8 ∨ j = 9 ∨ j = 10 by omega) with rfl | rfl | rfl | rfl | rfl | rfl | rfl | rfl | rfl | rfl | rfl <;> rfl
set_option maxRecDepth 100000 in
theorem fs_X11 : ∀ j, j < 57 → defaultValue (tyX11 j) = vp_V [.int 0, .int 0, .null, .null, .null, .null, .null, .null, .int 0, .int 0, .int 0, .int 0, .null, .null, .null, .int 0, .null, .null, .null, .null, .null, .null, .null, .null, .int 0, .null, .null, .null, .null, .int 0, .null, .int 0, .int 0, .int 0, .int 0, .int 0, .int 0, .int 0, .int 0, .int 0, .int 0, .null, .int 0, .null, .null, .null, .null, .int 0, .null, .null, .null, .int 0, .null, .null, .null, .null, .int 0] j := by intro j hj; rcases (show j = 0 ∨ j = 1 ∨ j = 2 ∨ j = 3 ∨ j = 4 ∨ j = 5 ∨ j = 6 ∨ j = 7 ∨ j = 8 ∨ j = 9 ∨ j = 10 ∨ j = 11 ∨ j = 12 ∨ j = 13 ∨ j = 14 ∨ j = 15 ∨ j = 16 ∨ j = 17 ∨ j = 18 ∨ j = 19 ∨ j = 20 ∨ j = 21 ∨ j = 22 ∨ j = 23 ∨ j = 24 ∨ j = 25 ∨ j = 26 ∨ j = 27 ∨ j = 28 ∨ j = 29 ∨ j = 30 ∨ j = 31 ∨ j = 32 ∨ j = 33 ∨ j = 34 ∨ j = 35 ∨ j = 36 ∨ j = 37 ∨ j = 38 ∨ j = 39 ∨ j = 40 ∨ j = 41 ∨ j = 42 ∨ j = 43 ∨ j = 44 ∨ j = 45 ∨ j = 46 ∨ j = 47 ∨ j = 48 ∨ j = 49 ∨ j = 50 ∨ j = 51 ∨ j = 52 ∨ j = 53 ∨ j = 54 ∨ j = 55 ∨ j = 56 by omega) with rfl | rfl | rfl | rfl | rfl | rfl | rfl | rfl | rfl | rfl | rfl | rfl | rfl | rfl | rfl | rfl | rfl | rfl | rfl | rfl | rfl | rfl | rfl | rfl | rfl | rfl | rfl | rfl | rfl | rfl | rfl | rfl | rfl | rfl | rfl | rfl | rfl | rfl | rfl | rfl | rfl | rfl | rfl | rfl | rfl | rfl | rfl | rfl | rfl | rfl | rfl | rfl | rfl | rfl | rfl | rfl | rfl <;> rfl
set_option maxRecDepth 100000 in
theorem law_start {l : Launch} {b L : Nat} {xs : Nat → Int32} {D : va_G} {c : Nat → ClassId} {ad : Nat → Nat → Nat} {sz : Nat} (hL : L ≤ 3072) : LA l b L xs D c ad sz 0 0 0 [(0, .ref b)] [] (JW D sz []) := by
  refine l_new (ci := 10) (fs := [.null, .null, .null, .null, .null, .null, .null, .null, .null, .int 0, .int 0]) gx_X10 tyX10_ok kw_20 kw_21 kw_1 rfl fs_X10 ⟨by decide, by decide⟩ dL_law_0 (fun q0 => ?_)
  refine l_dup dL_law_3 rfl ?_
  refine l_callI (As := []) (rest := [.ref q0]) (wr := []) rfl lkI_9 ⟨⟨by decide, by decide⟩, by decide, by decide⟩ rfl (Nat.le_of_ble_eq_true rfl) dL_law_4 (s_X10_init l D c q0) rfl (fun w10 hw10 => ?_)
  refine l_astore_n [(1, .ref q0), (0, .ref b)] dL_law_7 rfl (by decide) rfl ?_
  refine l_new (ci := 11) (fs := [.int 0, .int 0, .null, .null, .null, .null, .null, .null, .int 0, .int 0, .int 0, .int 0, .null, .null, .null, .int 0, .null, .null, .null, .null, .null, .null, .null, .null, .int 0, .null, .null, .null, .null, .int 0, .null, .int 0, .int 0, .int 0, .int 0, .int 0, .int 0, .int 0, .int 0, .int 0, .int 0, .null, .int 0, .null, .null, .null, .null, .int 0, .null, .null, .null, .int 0, .null, .null, .null, .null, .int 0]) gx_X11 tyX11_ok kw_945 kw_946 kw_10 rfl fs_X11 ⟨by decide, by decide⟩ dL_law_8 (fun q1 => ?_)
  refine l_dup dL_law_11 rfl ?_
  refine l_callI (As := []) (rest := [.ref q1]) (wr := w10 ++ []) rfl lkI_12 ⟨⟨by decide, by decide⟩, by decide, by decide⟩ rfl (Nat.le_of_ble_eq_true rfl) dL_law_12 (s_X11_init l D c q1) rfl (fun w11 hw11 => ?_)
  refine l_astore_n [(2, .ref q1), (1, .ref q0), (0, .ref b)] dL_law_15 rfl (by decide) rfl ?_
  refine l_iconst (v := 0) dL_law_16 (by decide) ?_
  refine l_istore_n [(3, .int 0), (2, .ref q1), (1, .ref q0), (0, .ref b)] dL_law_17 rfl (by decide) rfl ?_
  refine l_wid (kc' := 1000) (ks' := 20000) (by decide) (by decide) ?_
  intro p e s0 m below meth cd H locs ls C hK hS hE hz hJ hV hl
  obtain ⟨hP, hD⟩ := hJ
  obtain ⟨x0, x1, x2⟩ := X_cells ad hw10 (P_left (P_right hP))
  obtain ⟨y0, y1, f2, hf2, y2⟩ := M_cells ad hw11 (P_left hP)
  obtain ⟨a1, a2, a3⟩ := ad_facts (el := elX) (ix := ixX) (x := exX (0, 0)) (a := adX ad w10) (D_left (D_right hD)) x1 (fun t k h => if_neg (by have := h.1; omega)) (fun t k h => elX_at h)
  obtain ⟨b1, b2, b3⟩ := ad_facts (el := elM) (ix := ixM) (x := exM (0, 0)) (a := adM ad w11) (D_left hD) y1 (fun t k h => if_neg (by have := h.1.2; omega)) (fun t k h => elM_at h)
  have hAd : LAd sz ad (0, 0) (adX ad w10) (adM ad w11) := ⟨a1, b1, a2, b2, fun t k t' k' h h' e => by
    obtain ⟨i, e1, h1⟩ := a3 t k h
    obtain ⟨j, e2, h2⟩ := b3 t' k' h'
    exact D_ne hD h2 (by rw [List.append_nil]; exact h1) e.symm, fun t k h => if_pos h, fun t k h => if_pos h⟩
  have ev : lvL b (adX ad w10) (adM ad w11) (nI (6 * 0)) = [(0, .ref b), (1, .ref q0), (2, .ref q1), (3, .int 0)] := by
    show [(0, Value.ref b), (1, .ref (adX ad w10 0 0)), (2, .ref (adM ad w11 60 0)), (3, .int (nI (6 * 0)))] = _
    rw [x0, y0, Nat.mul_zero, nI_0]
  refine law_loop hL (L + 1) 0 (0, 0) (adX ad w10) stX (stM f2) 1000 20000 (Nat.zero_le _) (by omega) (by omega) (by omega) hAd (Rel0 hf2) p e s0 m below meth cd H locs ls C hK hS hE hz ⟨x2, y2⟩ hV ?_
  rw [ev]
  exact lv_sub hl [3, 2, 1, 0] rfl
theorem whole_start {p : Program} {e : Env} {s : State} {m : MethodId} {below : List Frame} {meth : Method} {c : Code} (l : Launch) {b L : Nat} {xs : Nat → Int32} (hL : L ≤ 3072) (C0 : lw_At p s m meth c b L xs) : W p l e room_1 s m #[Value.ref b] below meth c s.heap [] 0 0 (lw_Z below #[Value.ref b] s) (entryFrame m ([Value.ref b] : List Value).toArray 4) := by
  obtain ⟨hx, hb, hr, hml, hown, hts, hX, hbl, hlocks, hgv⟩ := id C0
  obtain ⟨D, c', hK⟩ := st_K hts
  obtain ⟨ad, hF⟩ := st_F (A := fun q => s.heap.size ≤ q) hts (flat_of_before _ hgv) (fun a h => Nat.not_le.mpr h)
  rw [lg_entry_eq]
  exact law_start (D := D) (c := c') (ad := ad) (sz := s.heap.size) hL p e s m below meth c s.heap [] _ C0 hK hF (st_E hts) rfl ⟨fun k q h => by simp at h, ⟨fun i j p q h => by simp at h, fun k q h => by simp at h⟩⟩ va_S.rf (lv_entry [.ref b] (Nat.le_of_ble_eq_true rfl))
