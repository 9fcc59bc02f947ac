/-! constructors: calls of static methods, copies, and the loops that fill an array -/
section CBS
variable {l : Launch} {M : MI} {nm : String} {D : va_G} {c : Nat → ClassId} {A : Nat → Prop} {sz : Nat} {Qc : Array Value → State → Outcome → State → Prop} {kc ks pc : Nat} {lv : List (Nat × Value)} {st : List Value} {ws : va_W}
theorem c_callS (hA : ∀ q, sz ≤ q → A q) {y : MethodName} {N : MI} {idx : Nat} {As rest : List Value} {wc wr : va_W} {Pst : va_W → Prop} (hr : mT N = none) (hl0 : LkS (mO M) idx y N As.length) (hf : Fit M N kc ks) (hst : st = As.reverse ++ rest) (hrest : (rest.map fun v => v.category).sum ≤ 8) (hd : decode (mC M) pc = .ok (.invokestatic idx, 3)) (hC : CSp l y N D c As wc Pst) (hw : ws = wc ++ wr)
    (kk : ∀ w1 : va_W, Pst w1 → CB l M nm D c A sz Qc (kc + mK N) (ks + mN N) (pc + 3) lv rest (w1 ++ wr)) : CB l M nm D c A sz Qc kc ks pc lv st ws :=
  fun p e s0 m args below meth cd H locs ls C hz hP hD hS hl => by
    subst hst
    subst hw
    obtain ⟨h1, h2, h3, h5, h6⟩ := hl0
    have hG := gtab_goodIn h5
    have hA0 : ∀ q, H.size ≤ q → A q := fun q hq => hA q (Nat.le_trans (by rw [← hz]; exact hS.1) hq)
    have hA1 : ∀ q, va_A wc H.size q → A q := fun q hq => by
      rcases hq with ⟨i, e, hi⟩ | hq
      · exact (D_left hD).2 i _ hi
      · exact hA0 q hq
    have hcw : CallB (gR M) s0 args (mO M) idx y (mC N) (mL N) (mT N) (Cond.code y (mC N) (mL N) (mT N) :: gtab) (gR N) (mK N) (mN N) As.length ∧ (Cond.static y).before args s0 = true :=
      ⟨callB_of As.length C.2.2.2.2.1 hG rfl rfl rfl (C.2.2.2.2.1 _ h3) (C.2.2.2.2.1 _ h1) h6 hf.1, C.2.2.2.2.1 _ h2⟩
    refine va_callv (va_runS (As := As) (rest := rest) ⟨C.1, C.2.1, C.2.2.1, C.2.2.2.1, C.2.2.2.2.1⟩ (hC H.size) hcw ⟨c_blind, fun U hU hW => ⟨rfl, by rw [hU], by rw [hU]; exact P_left hP, va_K.moved hW.alike C.2.2.2.2.2.2.2.1, (D_left hD).weaken (fun _ _ _ _ => trivial), C.2.2.2.2.2.2.2.2.1.warm hW⟩⟩ rfl rfl hl.1 rfl (lv_room hrest) hd hf.2) hS (fun q _ h => hA1 q h) hA1 (fun w1 t H1 locs1 ht hvm hp hB hz1 hk1 hS1 => ?_)
    obtain ⟨hP1, hD1⟩ := hB
    rw [ht] at hP1
    obtain ⟨j1, j2⟩ := join_P hP hD hA0 hk1 hP1 hD1
    exact kk w1 hp p e s0 m args below meth cd H1 locs1 ls C hz j1 j2 hS1 hl
theorem c_alen {n a : Nat} {v : Int32} {f : Nat → Int32} (q0 : Nat) (he : ws[q0]? = some (a, .inl (c 0, n, .inl f))) (hv : Int32.ofNat n = v) (hd : decode (mC M) pc = .ok (.arraylength, 1)) (k : CB l M nm D c A sz Qc kc ks (pc + 1) lv (.int v :: st) ws) : CB l M nm D c A sz Qc kc ks pc lv (.ref a :: st) ws :=
  fun p e s0 m args below meth cd H locs ls C hz hP hD hS hl => va_alen C.1 C.2.1 C.2.2.2.2.2.2.2.1 hP q0 0 he rfl hv hd (k p e s0 m args below meth cd H locs ls C hz hP hD hS hl)
theorem c_iadd {x y : Int32} (hd : decode (mC M) pc = .ok (.iadd, 1)) (k : CB l M nm D c A sz Qc kc ks (pc + 1) lv (.int (x + y) :: st) ws) : CB l M nm D c A sz Qc kc ks pc lv (.int y :: .int x :: st) ws :=
  fun p e s0 m args below meth cd H locs ls C hz hP hD hS hl => lv_iadd C.1 C.2.1 hd (k p e s0 m args below meth cd H locs ls C hz hP hD hS hl)
/-- one more is filled -/
theorem upd_fil {f : Nat → Int32} {v : Int32} {i : Nat} : upd (fun j => if j < i then v else f j) i v = fun j => if j < i + 1 then v else f j := by
  funext j
  unfold upd
  by_cases h : j = i
  · subst h
    simp
  · by_cases h2 : j < i
    · simp [h, h2, Nat.lt_succ_of_lt h2]
    · have h3 : ¬ j < i + 1 := by omega
      simp [h, h2, h3]
end CBS
/-- Arrays.fill, its loop -/
theorem fill_loop {l : Launch} {D : va_G} {c : Nat → ClassId} {A : Nat → Prop} {sz a n : Nat} {v : Int32} {f : Nat → Int32} (hn : n < 2 ^ 31) : ∀ (m i : Nat), i + m = n → CB l iJ7_fill_53178 yJ7_fill_53178.name D c A sz (cQ D A (fun w => ∃ f' : Nat → Int32, (∀ j, j < n → f' j = v) ∧ w = [(a, .inl (c 0, n, .inl f'))])) 0 0 5 [(0, .ref a), (1, .int v), (2, .int (nI i)), (3, .int (nI n))] [] [(a, .inl (c 0, n, .inl (fun j => if j < i then v else f j)))]
  | 0, i, hi => by
    have : i = n := by omega
    subst this
    refine c_iload_n dJ7_fill_53178_5 2 rfl rfl ?_
    refine c_iload_n dJ7_fill_53178_6 3 rfl rfl ?_
    refine c_icmp_ge 20 dJ7_fill_53178_7 (by decide) (fun _ => ?_) (fun h => absurd (nI_le (Nat.le_refl _) hn) h)
    exact c_ret rfl (by decide) (by decide) dJ7_fill_53178_20 ⟨_, fun j hj => if_pos hj, rfl⟩
  | m + 1, i, hi => by
    refine c_iload_n dJ7_fill_53178_5 2 rfl rfl ?_
    refine c_iload_n dJ7_fill_53178_6 3 rfl rfl ?_
    refine c_icmp_ge 20 dJ7_fill_53178_7 (by decide) (fun h => absurd h (nI_ge (by omega) hn)) (fun _ => ?_)
    refine c_aload_n dJ7_fill_53178_10 0 rfl rfl ?_
    refine c_iload_n dJ7_fill_53178_11 2 rfl rfl ?_
    refine c_iload_n dJ7_fill_53178_12 1 rfl rfl ?_
    refine c_iast 0 rfl (vp_in_nI (show i < n by omega) hn) dJ7_fill_53178_13 ?_
    refine c_iinc [(2, .int (nI (i + 1))), (0, .ref a), (1, .int v), (3, .int (nI n))] dJ7_fill_53178_14 2 rfl (nI_1 i) (by decide) rfl ?_
    refine c_goto 5 dJ7_fill_53178_17 (by decide) ?_
    refine c_loc [(0, .ref a), (1, .int v), (2, .int (nI (i + 1))), (3, .int (nI n))] [1, 2, 0, 3] rfl ?_
    refine c_ws (ws' := [(a, .inl (c 0, n, .inl (fun j => if j < i + 1 then v else f j)))]) ?_ (fill_loop hn m (i + 1) (by omega))
    show [(a, _)] = _
    rw [nI_clamp (by omega), upd_fil]
theorem s_fill (l : Launch) (D : va_G) (c : Nat → ClassId) (a n : Nat) (v : Int32) (f : Nat → Int32) (hn : n < 2 ^ 31) : CSp l yJ7_fill_53178 iJ7_fill_53178 D c [.ref a, .int v] [(a, .inl (c 0, n, .inl f))] (fun w => ∃ f' : Nat → Int32, (∀ j, j < n → f' j = v) ∧ w = [(a, .inl (c 0, n, .inl f'))]) := by
  refine CSp.of rfl rfl (Nat.le_of_ble_eq_true rfl) (fun A sz hA => ?_)
  refine c_iconst (v := 0) dJ7_fill_53178_0 (by decide) ?_
  refine c_istore_n [(2, .int 0), (0, .ref a), (1, .int v)] dJ7_fill_53178_1 rfl (by decide) rfl ?_
  refine c_aload_n dJ7_fill_53178_2 1 rfl rfl ?_
  refine c_alen (v := nI n) 0 rfl rfl dJ7_fill_53178_3 ?_
  refine c_istore_n [(3, .int (nI n)), (2, .int 0), (0, .ref a), (1, .int v)] dJ7_fill_53178_4 rfl (by decide) rfl ?_
  refine c_loc [(0, .ref a), (1, .int v), (2, .int (nI 0)), (3, .int (nI n))] [2, 3, 1, 0] rfl ?_
  refine c_ws (ws' := [(a, .inl (c 0, n, .inl (fun j => if j < 0 then v else f j)))]) ?_ (fill_loop hn n 0 (by omega))
  congr 6
theorem c_copy {l : Launch} {M : MI} {nm : String} {D : va_G} {c : Nat → ClassId} {A : Nat → Prop} {sz : Nat} {Qc : Array Value → State → Outcome → State → Prop} {kc ks pc : Nat} {lv : List (Nat × Value)} {st : List Value} {ws : va_W} {a0 a n0 n1 idx : Nat} {f g : Nat → Int32} {sp dp n : Int32} (q0 q1 : Nat) (ha0 : ws[q0]? = some (a0, .inl (c 0, n0, .inl f))) (ha1 : ws[q1]? = some (a, .inl (c 0, n1, .inl g))) (hb : ¬ sp < 0 ∧ ¬ dp < 0 ∧ ¬ n < 0 ∧ sp.toNatClampNeg + n.toNatClampNeg ≤ n0 ∧ dp.toNatClampNeg + n.toNatClampNeg ≤ n1)
    (w1 : Cond.methodLink (mO M) idx arraycopyName ∈ gtab) (w2 : Cond.native arraycopyName ∈ gtab) (w3 : Cond.static arraycopyName ∈ gtab) (w4 : Cond.initialized "java/lang/System" ∈ gtab) (hf : 1 ≤ mD M ∧ (st.map fun v => v.category).sum + (nativeFrameWords "java/lang/System" "arraycopy" 5 + 11) ≤ 40 * mD M) (hd : decode (mC M) pc = .ok (.invokestatic idx, 3))
    (k : CB l M nm D c A sz Qc kc ks (pc + 3) lv st (ws.set q1 (a, .inl (c 0, n1, .inl (va_cpy f g sp.toNatClampNeg dp.toNatClampNeg n.toNatClampNeg))))) : CB l M nm D c A sz Qc kc ks pc lv (.int n :: .int dp :: .ref a :: .int sp :: .ref a0 :: st) ws :=
  fun p e s0 m args below meth cd H locs ls C hz hP hD hS hl => va_copyi C.1 C.2.1 (C.2.2.1.trans hl.1.symm) C.2.2.2.1 (C.2.2.2.2.1 _ w1) (C.2.2.2.2.1 _ w2) (C.2.2.2.2.1 _ w3) (C.2.2.2.2.1 _ w4) C.2.2.2.2.2.2.2.1 hP hD hS q0 q1 0 0 ha0 ha1 rfl rfl rfl hb.1 hb.2.1 hb.2.2.1 hb.2.2.2.1 hb.2.2.2.2 (fun _ _ => rfl) hf.1 hf.2 hd (fun H1 locs1 hP1 hD1 hS1 => k p e s0 m args below meth cd H1 locs1 ls C hz hP1 hD1 hS1 hl)
abbrev iX11_init : MI := (cX11_init, RX11, 2, none, 1, 34, 2220)
theorem mloop {l : Launch} {nm : String} {D : va_G} {c : Nat → ClassId} {A : Nat → Prop} {sz : Nat} {Qc : Array Value → State → Outcome → State → Prop} {kc ks h0 qr : Nat} {fs : List Value} {ws : va_W} (q0 q1 : Nat) (he : ws[q0]? = some (h0, .inr (11, fs))) (hfld : fs[22]? = some (.ref qr)) (hne : q0 ≠ q1) (hlen : q1 < ws.length)
    (k : ∀ f' : Nat → Int32, (∀ j, j < 600 → f' j = -1000000) → CB l iX11_init nm D c A sz Qc kc ks 398 [(1, .int (nI 600)), (0, .ref h0)] [] (ws.set q1 (qr, .inl (c 0, 600, .inl f')))) : ∀ (m i : Nat) (f : Nat → Int32), i + m = 600 → CB l iX11_init nm D c A sz Qc kc ks 377 [(1, .int (nI i)), (0, .ref h0)] [] (ws.set q1 (qr, .inl (c 0, 600, .inl (fun j => if j < i then -1000000 else f j))))
  | 0, i, f, hi => by
    have : i = 600 := by omega
    subst this
    refine c_iload_n dX11_init_377 0 rfl rfl ?_
    refine c_sipush (v := 600) dX11_init_378 (by decide) ?_
    refine c_icmp_ge 398 dX11_init_381 (by decide) (fun _ => ?_) (fun h => absurd (by decide) h)
    exact k _ (fun j hj => if_pos hj)
  | m + 1, i, f, hi => by
    refine c_iload_n dX11_init_377 0 rfl rfl ?_
    refine c_sipush (v := 600) dX11_init_378 (by decide) ?_
    refine c_icmp_ge 398 dX11_init_381 (by decide) (fun h => absurd h (nI_ge (b := 600) (by omega) (by omega))) (fun _ => ?_)
    refine c_aload_n dX11_init_384 1 rfl rfl ?_
    refine c_get (.ref qr) q0 fl_X11_66 rfl (by rw [List.getElem?_set_ne (Ne.symm hne)]; exact he) hfld dX11_init_385 ?_
    refine c_iload_n dX11_init_388 0 rfl rfl ?_
    refine c_ldc kw_951 dX11_init_389 ?_
    refine c_iast q1 (List.getElem?_set_self hlen) (vp_in_nI (show i < 600 by omega) (by omega)) dX11_init_391 ?_
    refine c_iinc [(1, .int (nI (i + 1))), (0, .ref h0)] dX11_init_392 0 rfl (nI_1 i) (by decide) rfl ?_
    refine c_goto 377 dX11_init_395 (by decide) ?_
    refine c_ws ?_ (mloop q0 q1 he hfld hne hlen k m (i + 1) f (by omega))
    rw [List.set_set, nI_clamp (by omega), upd_fil]
