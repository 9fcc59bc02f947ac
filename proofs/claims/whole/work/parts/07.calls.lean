/-! calls -/
theorem g_after {Z : ZE} {p : Program} {l : Launch} {e : Env} {R : Room} {s0 : State} {m : MethodId} {args : Array Value} {below : List Frame} {meth : Method} {c : Code} {H : Heap} {locs : List Loc} {kc ks mc ms pc : Nat} {Q : State → Prop} {ls : Array Slot} {st0 rest : List Value} {a : Array Value} {r : Option Value} {s1 : St}
    (hr : va_Run p l e R s0 m args below meth c H locs kc ks mc ms (F0 m pc ls st0) rest (gQ Z (fun r' s' => r' = r ∧ s' = s1) a) (zA Z)) (hS : va_S (zA Z) s0.heap H locs)
    (kk : ∀ (H1 : Heap) (locs1 : List Loc), zW Z s1 H1 → va_S (zA Z) s0.heap H1 locs1 → W p l e R s0 m args below meth c H1 locs1 (kc + mc) (ks + ms) Q (F0 m (pc + 3) ls (r.toList ++ rest))) : W p l e R s0 m args below meth c H locs kc ks Q (F0 m pc ls st0) := by
  intro T hT X
  obtain ⟨v, st₀, t, T', L, h0, X', hL, e1, e2, ⟨r', s', hv, ⟨hr1, hs1⟩, hw, hz, hk⟩, st⟩ := hr T hT X
  cases hv
  subst hr1
  subst hs1
  rw [h0] at hz hk
  obtain ⟨t2, a1, b1⟩ := kk T'.heap (locs ++ L) (by rw [e1]; exact hw)
    ⟨Nat.le_trans hS.1 (by rw [e1]; exact hz), fun q h1 h2 => by rw [e1, hk q (Nat.lt_of_lt_of_le h1 hS.1) h2]; exact hS.2.1 q h1 h2, fun q hq => by
      rcases List.mem_append.mp hq with h | h
      · exact hS.2.2 q h
      · exact hL q h⟩ T' rfl X'
  exact ⟨t2, st t2 a1, b1⟩
/-- a call's link: an instance method of objects of sort t, of n arguments -/
def LkV (own : String) (idx : Nat) (y : MethodName) (t : Nat) (N : MI) (n : Nat) : Prop := ∃ (ci k : Nat) (T : u_T), shO t = some (ci, k) ∧ vwCl[ci]? = some (y.cls, T, k) ∧ Cond.methodLink own idx y ∈ gtab ∧ Cond.instanceMethod y ∈ gtab ∧ Cond.selects y.cls y y ∈ gtab ∧ Cond.initialized y.cls ∈ gtab ∧ Cond.code y (mC N) (mL N) (mT N) ∈ gtab ∧
  (y.cls ≠ "java/lang/invoke/MethodHandle" ∧ y.cls ≠ "java/lang/invoke/VarHandle" ∧ (parseMethodDescriptor y.desc).map (fun d => d.parameters.length) = some n)
/-- a static method, of n arguments -/
def LkS (own : String) (idx : Nat) (y : MethodName) (N : MI) (n : Nat) : Prop := Cond.methodLink own idx y ∈ gtab ∧ Cond.static y ∈ gtab ∧ Cond.initialized y.cls ∈ gtab ∧ Cond.code y (mC N) (mL N) (mT N) ∈ gtab ∧
  (y.cls ≠ "java/lang/invoke/MethodHandle" ∧ y.cls ≠ "java/lang/invoke/VarHandle" ∧ (parseMethodDescriptor y.desc).map (fun d => d.parameters.length) = some n)
/-- a nest mate's static method -/
def LkN (own : String) (idx : Nat) (y : MethodName) (N : MI) (n : Nat) : Prop := ∃ host : String, Cond.methodLinkNest own idx y host ∈ nst ∧ Cond.static y ∈ gtab ∧ Cond.initialized y.cls ∈ gtab ∧ Cond.code y (mC N) (mL N) (mT N) ∈ gtab ∧
  (y.cls ≠ "java/lang/invoke/MethodHandle" ∧ y.cls ≠ "java/lang/invoke/VarHandle" ∧ (parseMethodDescriptor y.desc).map (fun d => d.parameters.length) = some n)
/-- a method of String -/
def LkT (own : String) (idx : Nat) (y : MethodName) (N : MI) (n : Nat) : Prop := Cond.methodLink own idx y ∈ gtab ∧ Cond.instanceMethod y ∈ gtab ∧ Cond.selects y.cls y y ∈ gtab ∧ Cond.initialized y.cls ∈ gtab ∧ Cond.code y (mC N) (mL N) (mT N) ∈ gtab ∧
  (y.cls = "java/lang/String" ∧ y.cls ≠ "java/lang/invoke/MethodHandle" ∧ y.cls ≠ "java/lang/invoke/VarHandle" ∧ (parseMethodDescriptor y.desc).map (fun d => d.parameters.length) = some n)
/-- the callee fits into the caller's room -/
def Fit (M N : MI) (kc ks : Nat) : Prop := (mD N + 1 ≤ mD M ∧ 8 + (mL N + 11) + 40 * mD N ≤ 40 * mD M) ∧ kc + mK N ≤ mK M ∧ ks + mN N ≤ mN M
section AWC
variable {Z : ZE} {l : Launch} {M : MI} {Post : Option Value → St → Prop} {Qc : Array Value → State → Outcome → State → Prop} {kc ks pc : Nat} {lv : List (Nat × Value)} {st : List Value} {s : St}
theorem g_blind {s : St} {av : List Value} (hZ : OkZ Z) : FrameBlind (va_Pc av (fun U => zW Z s U.heap ∧ va_K (zD Z) vwCl (zT Z) U ∧ zS Z U)) := fun a U g mk q => by
  obtain ⟨q0, q1, q2, q3⟩ := q
  exact ⟨q0, q1, va_K.moved (u := U) (U := U.calling g mk a) (Vm.Alike.refl U.vm) q2, hZ.2.2.2.2.1 U (U.calling g mk a) rfl rfl q3⟩
theorem g_pre {s : St} {H : Heap} {locs : List Loc} {s0 U : State} {av : List Value} (hZ : OkZ Z) (hK : va_K (zD Z) vwCl (zT Z) s0) (hs : zS Z s0) (hW : zW Z s H) (hS : va_S (zA Z) s0.heap H locs) (hU : U.heap = H) (hw : s0.WarmedH U.vm) : va_Pc av (fun U => zW Z s U.heap ∧ va_K (zD Z) vwCl (zT Z) U ∧ zS Z U) av.toArray U :=
  ⟨rfl, by rw [hU]; exact hW, va_K.moved hw.alike hK, hZ.2.2.2.1 s0 U hs hw (hS.F hU)⟩
theorem a_invV (hZ : OkZ Z) {y : MethodName} {N : MI} {idx t k : Nat} {As rest : List Value} {R : Option Value × St} (hx : zx Z t k) (hl0 : LkV (mO M) idx y t N As.length) (hf : Fit M N kc ks) (hst : st = As.reverse ++ .ref (za Z t k) :: rest) (hrest : (rest.map fun v => v.category).sum ≤ 8) (hd : decode (mC M) pc = .ok (.invokevirtual idx, 3)) (hSp : Sp Z l y N (.ref (za Z t k) :: As) s R)
    (kk : AQ Z l M Qc (kc + mK N) (ks + mN N) (pc + 3) lv (R.1.toList ++ rest) R.2) : AQ Z l M Qc kc ks pc lv st s :=
  fun p e s0 m args below meth c H locs ls C hW hS hl => by
    subst hst
    obtain ⟨ci, kf, T, hO, hc, h1, h2, h3, h4, h5, h6⟩ := hl0
    have hP := one_at (hZ.1 s H t k hx hW)
    rw [cel_O hO] at hP
    have hG := gtab_goodIn h5
    have hcw : CallW (gR M) s0 args (mO M) y.cls idx y (mC N) (mL N) (mT N) (Cond.code y (mC N) (mL N) (mT N) :: gtab) (gR N) (mK N) (mN N) As.length :=
      ⟨callB_of As.length C.2.2.2.2.1 hG rfl rfl rfl (C.2.2.2.2.1 _ h4) (C.2.2.2.2.1 _ h1) h6 hf.1, C.2.2.2.2.1 _ h2, C.2.2.2.2.1 _ h3⟩
    refine g_after (va_runV (As := As) (rest := rest) ⟨C.1, C.2.1, C.2.2.1, C.2.2.2.1, C.2.2.2.2.1⟩ hSp hcw ⟨g_blind hZ, va_recv C.2.2.2.2.2.2.2.1 hP hc (q0 := 0) rfl, fun U hU hw => g_pre hZ C.2.2.2.2.2.2.2.1 C.2.2.2.2.2.2.2.2 hW hS hU hw⟩ rfl rfl hl.1 rfl (lv_room hrest) hd hf.2) hS (fun H1 locs1 hW1 hS1 => ?_)
    exact kk p e s0 m args below meth c H1 locs1 ls C hW1 hS1 hl
theorem a_invT (hZ : OkZ Z) {y : MethodName} {N : MI} {idx c : Nat} {As rest : List Value} {R : Option Value × St} (hc : c < 6) (hl0 : LkT (mO M) idx y N As.length) (hf : Fit M N kc ks) (hst : st = As.reverse ++ .ref (za Z 110 c) :: rest) (hrest : (rest.map fun v => v.category).sum ≤ 8) (hd : decode (mC M) pc = .ok (.invokevirtual idx, 3)) (hSp : Sp Z l y N (.ref (za Z 110 c) :: As) s R)
    (kk : AQ Z l M Qc (kc + mK N) (ks + mN N) (pc + 3) lv (R.1.toList ++ rest) R.2) : AQ Z l M Qc kc ks pc lv st s :=
  fun p e s0 m args below meth cd H locs ls C hW hS hl => by
    subst hst
    obtain ⟨h1, h2, h3, h4, h5, h6, h7⟩ := hl0
    have hG := gtab_goodIn h5
    have hcw : CallW (gR M) s0 args (mO M) y.cls idx y (mC N) (mL N) (mT N) (Cond.code y (mC N) (mL N) (mT N) :: gtab) (gR N) (mK N) (mN N) As.length :=
      ⟨callB_of As.length C.2.2.2.2.1 hG rfl rfl rfl (C.2.2.2.2.1 _ h4) (C.2.2.2.2.1 _ h1) h7 hf.1, C.2.2.2.2.1 _ h2, C.2.2.2.2.1 _ h3⟩
    have hr := vk_recv (hZ.2.2.2.2.2.2.2 s0 C.2.2.2.2.2.2.2.2).2.1 hc hS
    refine g_after (va_runV (As := As) (rest := rest) ⟨C.1, C.2.1, C.2.2.1, C.2.2.2.1, C.2.2.2.2.1⟩ hSp hcw ⟨g_blind hZ, by rw [h6]; exact hr, fun U hU hw => g_pre hZ C.2.2.2.2.2.2.2.1 C.2.2.2.2.2.2.2.2 hW hS hU hw⟩ rfl rfl hl.1 rfl (lv_room hrest) hd hf.2) hS (fun H1 locs1 hW1 hS1 => ?_)
    exact kk p e s0 m args below meth cd H1 locs1 ls C hW1 hS1 hl
theorem a_comp (hZ : OkZ Z) {idx : Nat} (hlink : Cond.fieldLink (mO M) idx "java/lang/String" "COMPACT_STRINGS" "Z" ∈ gtab) (hd : decode (mC M) pc = .ok (.getstatic idx, 3)) (kk : AQ Z l M Qc kc ks (pc + 3) lv (.int 1 :: st) s) : AQ Z l M Qc kc ks pc lv st s :=
  fun p e s0 m args below meth cd H locs ls C hW hS hl => va_gets C.1 C.2.1 (hZ.2.2.2.2.2.2.2 s0 C.2.2.2.2.2.2.2.2).2.2.1 hS C.2.2.2.1 (C.2.2.2.2.1 _ hlink) (fun _ h9 => h9) hd (kk p e s0 m args below meth cd H locs ls C hW hS hl)
theorem a_siob (hZ : OkZ Z) {idx : Nat} (hlink : Cond.fieldLink (mO M) idx "jdk/internal/util/Preconditions" "SIOOBE_FORMATTER" "Ljava/util/function/BiFunction;" ∈ gtab) (hd : decode (mC M) pc = .ok (.getstatic idx, 3)) (kk : ∀ v : Value, v = .null ∨ (∃ t : Nat, v = .ref t) → AQ Z l M Qc kc ks (pc + 3) lv (v :: st) s) : AQ Z l M Qc kc ks pc lv st s :=
  fun p e s0 m args below meth cd H locs ls C hW hS hl => by
    rcases (hZ.2.2.2.2.2.2.2 s0 C.2.2.2.2.2.2.2.2).2.2.2 with h | ⟨t, h⟩
    · exact va_gets C.1 C.2.1 h hS C.2.2.2.1 (C.2.2.2.2.1 _ hlink) (fun _ h9 => h9) hd (kk .null (Or.inl rfl) p e s0 m args below meth cd H locs ls C hW hS hl)
    · exact va_gets C.1 C.2.1 h hS C.2.2.2.1 (C.2.2.2.2.1 _ hlink) (fun _ h9 => h9) hd (kk (.ref t) (Or.inr ⟨t, rfl⟩) p e s0 m args below meth cd H locs ls C hW hS hl)
theorem a_txC (hZ : OkZ Z) {idx c : Nat} (hc : c < 6) (hlink : Cond.fieldLink (mO M) idx "java/lang/String" "coder" "B" ∈ gtab) (hd : decode (mC M) pc = .ok (.getfield idx, 3)) (kk : AQ Z l M Qc kc ks (pc + 3) lv (.int 0 :: st) s) : AQ Z l M Qc kc ks pc lv (.ref (za Z 110 c) :: st) s :=
  fun p e s0 m args below meth cd H locs ls C hW hS hl => vk_getf C.1 C.2.1 ((hZ.2.2.2.2.2.2.2 s0 C.2.2.2.2.2.2.2.2).2.1.1 c hc).2.1 hS C.2.2.2.1 (C.2.2.2.2.1 _ hlink) (fun _ h9 => h9) hd (kk p e s0 m args below meth cd H locs ls C hW hS hl)
theorem a_txV (hZ : OkZ Z) {idx c : Nat} (hc : c < 6) (hlink : Cond.fieldLink (mO M) idx "java/lang/String" "value" "[B" ∈ gtab) (hd : decode (mC M) pc = .ok (.getfield idx, 3)) (kk : AQ Z l M Qc kc ks (pc + 3) lv (.ref (za Z 111 c) :: st) s) : AQ Z l M Qc kc ks pc lv (.ref (za Z 110 c) :: st) s :=
  fun p e s0 m args below meth cd H locs ls C hW hS hl => vk_getf C.1 C.2.1 ((hZ.2.2.2.2.2.2.2 s0 C.2.2.2.2.2.2.2.2).2.1.1 c hc).2.2.1 hS C.2.2.2.1 (C.2.2.2.2.1 _ hlink) (fun _ h9 => h9) hd (kk p e s0 m args below meth cd H locs ls C hW hS hl)
theorem a_txN (hZ : OkZ Z) {c : Nat} (hc : c < 6) (hd : decode (mC M) pc = .ok (.arraylength, 1)) (kk : AQ Z l M Qc kc ks (pc + 1) lv (.int (Int32.ofNat (txL.getD c 0)) :: st) s) : AQ Z l M Qc kc ks pc lv (.ref (za Z 111 c) :: st) s :=
  fun p e s0 m args below meth cd H locs ls C hW hS hl => va_tlen C.1 C.2.1 ((hZ.2.2.2.2.2.2.2 s0 C.2.2.2.2.2.2.2.2).2.1.1 c hc).2.2.2 hS rfl hd (kk p e s0 m args below meth cd H locs ls C hW hS hl)
theorem a_txB (hZ : OkZ Z) {c : Nat} {i : Int32} (hc : c < 6) (hin : vp_in i (txL.getD c 0)) (hd : decode (mC M) pc = .ok (.baload, 1)) (kk : AQ Z l M Qc kc ks (pc + 1) lv (.int ((txB.getD c []).getD i.toNatClampNeg 0) :: st) s) : AQ Z l M Qc kc ks pc lv (.int i :: .ref (za Z 111 c) :: st) s :=
  fun p e s0 m args below meth cd H locs ls C hW hS hl => va_tb C.1 C.2.1 ((hZ.2.2.2.2.2.2.2 s0 C.2.2.2.2.2.2.2.2).2.1.1 c hc).2.2.2 hS hin rfl hd (kk p e s0 m args below meth cd H locs ls C hW hS hl)
theorem a_invS (hZ : OkZ Z) {y : MethodName} {N : MI} {idx : Nat} {As rest : List Value} {R : Option Value × St} (hl0 : LkS (mO M) idx y N As.length) (hf : Fit M N kc ks) (hst : st = As.reverse ++ rest) (hrest : (rest.map fun v => v.category).sum ≤ 8) (hd : decode (mC M) pc = .ok (.invokestatic idx, 3)) (hSp : Sp Z l y N As s R)
    (kk : AQ Z l M Qc (kc + mK N) (ks + mN N) (pc + 3) lv (R.1.toList ++ rest) R.2) : AQ Z l M Qc kc ks pc lv st s :=
  fun p e s0 m args below meth c H locs ls C hW hS hl => by
    subst hst
    obtain ⟨h1, h2, h3, h5, h6⟩ := hl0
    have hG := gtab_goodIn h5
    have hcw : CallB (gR M) s0 args (mO M) idx y (mC N) (mL N) (mT N) (Cond.code y (mC N) (mL N) (mT N) :: gtab) (gR N) (mK N) (mN N) As.length ∧ (Cond.static y).before args s0 = true :=
      ⟨callB_of As.length C.2.2.2.2.1 hG rfl rfl rfl (C.2.2.2.2.1 _ h3) (C.2.2.2.2.1 _ h1) h6 hf.1, C.2.2.2.2.1 _ h2⟩
    refine g_after (va_runS (As := As) (rest := rest) ⟨C.1, C.2.1, C.2.2.1, C.2.2.2.1, C.2.2.2.2.1⟩ hSp hcw ⟨g_blind hZ, fun U hU hw => g_pre hZ C.2.2.2.2.2.2.2.1 C.2.2.2.2.2.2.2.2 hW hS hU hw⟩ rfl rfl hl.1 rfl (lv_room hrest) hd hf.2) hS (fun H1 locs1 hW1 hS1 => ?_)
    exact kk p e s0 m args below meth c H1 locs1 ls C hW1 hS1 hl
theorem a_invN (hZ : OkZ Z) {y : MethodName} {N : MI} {idx : Nat} {As rest : List Value} {R : Option Value × St} (hl0 : LkN (mO M) idx y N As.length) (hf : Fit M N kc ks) (hst : st = As.reverse ++ rest) (hrest : (rest.map fun v => v.category).sum ≤ 8) (hd : decode (mC M) pc = .ok (.invokestatic idx, 3)) (hSp : Sp Z l y N As s R)
    (kk : AQ Z l M Qc (kc + mK N) (ks + mN N) (pc + 3) lv (R.1.toList ++ rest) R.2) : AQ Z l M Qc kc ks pc lv st s :=
  fun p e s0 m args below meth c H locs ls C hW hS hl => by
    subst hst
    obtain ⟨host, h1, h2, h3, h5, h6⟩ := hl0
    have hG := gtab_goodIn h5
    have hcw := va_cnB (R := gR M) (s := s0) (args := args) (own := mO M) (host := host) (index := idx) (y := y) (bytes := mC N) (maxL := mL N) (ret := mT N) (rm := gR N) (mc := mK N) (ms := mN N) As.length C.2.2.2.2.1 hG rfl rfl rfl (hZ.2.2.2.2.2.1 s0 C.2.2.2.2.2.2.2.2 _ h1) (C.2.2.2.2.1 _ h3) h6 hf.1
    refine g_after (va_runSN (As := As) (rest := rest) ⟨C.1, C.2.1, C.2.2.1, C.2.2.2.1, C.2.2.2.2.1⟩ hSp ⟨hcw, C.2.2.2.2.1 _ h2, trivial⟩ ⟨g_blind hZ, fun U hU hw => g_pre hZ C.2.2.2.2.2.2.2.1 C.2.2.2.2.2.2.2.2 hW hS hU hw⟩ rfl rfl hl.1 rfl (lv_room hrest) hd hf.2) hS (fun H1 locs1 hW1 hS1 => ?_)
    exact kk p e s0 m args below meth c H1 locs1 ls C hW1 hS1 hl
theorem a_mmax {idx : Nat} {x y : Int32} (h1 : Cond.methodLink (mO M) idx Lib.Math.max.name ∈ gtab) (h2 : Cond.static Lib.Math.max.name ∈ gtab) (h3 : Cond.initialized "java/lang/Math" ∈ gtab) (h4 : Cond.code Lib.Math.max.name Lib.Math.max.code 2 (some .int) ∈ gtab) (hf : 1 ≤ mD M ∧ (st.map fun v => v.category).sum + 13 ≤ 40 * mD M ∧ kc ≤ mK M ∧ ks ≤ mN M) (hd : decode (mC M) pc = .ok (.invokestatic idx, 3)) (kk : AQ Z l M Qc kc ks (pc + 3) lv (.int (if x < y then y else x) :: st) s) : AQ Z l M Qc kc ks pc lv (.int y :: .int x :: st) s :=
  fun p e s0 m args below meth c H locs ls C hW hS hl => va_mmax C.1 C.2.1 (C.2.2.1.trans hl.1.symm) C.2.2.2.1 (C.2.2.2.2.1 _ h1) (C.2.2.2.2.1 _ h2) (C.2.2.2.2.1 _ h3) (C.2.2.2.2.1 _ h4) hf.1 hf.2.1 hf.2.2.1 hf.2.2.2 hd (kk p e s0 m args below meth c H locs ls C hW hS hl)
theorem a_mmin {idx : Nat} {x y : Int32} (h1 : Cond.methodLink (mO M) idx Lib.Math.min.name ∈ gtab) (h2 : Cond.static Lib.Math.min.name ∈ gtab) (h3 : Cond.initialized "java/lang/Math" ∈ gtab) (h4 : Cond.code Lib.Math.min.name Lib.Math.min.code 2 (some .int) ∈ gtab) (hf : 1 ≤ mD M ∧ (st.map fun v => v.category).sum + 13 ≤ 40 * mD M ∧ kc ≤ mK M ∧ ks ≤ mN M) (hd : decode (mC M) pc = .ok (.invokestatic idx, 3)) (kk : AQ Z l M Qc kc ks (pc + 3) lv (.int (if y < x then y else x) :: st) s) : AQ Z l M Qc kc ks pc lv (.int y :: .int x :: st) s :=
  fun p e s0 m args below meth c H locs ls C hW hS hl => va_mmin C.1 C.2.1 (C.2.2.1.trans hl.1.symm) C.2.2.2.1 (C.2.2.2.2.1 _ h1) (C.2.2.2.2.1 _ h2) (C.2.2.2.2.1 _ h3) (C.2.2.2.2.1 _ h4) hf.1 hf.2.1 hf.2.2.1 hf.2.2.2 hd (kk p e s0 m args below meth c H locs ls C hW hS hl)
theorem a_mminl {idx : Nat} {x y : Int64} (h1 : Cond.methodLink (mO M) idx Lib.MathLoose.min_long.x ∈ gtab) (h2 : Cond.static Lib.MathLoose.min_long.x ∈ gtab) (h3 : Cond.initialized "java/lang/Math" ∈ gtab) (h4 : Cond.code Lib.MathLoose.min_long.x Lib.MathLoose.min_long.code 4 (some .long) ∈ gtab) (hf : 1 ≤ mD M ∧ (st.map fun v => v.category).sum + 15 ≤ 40 * mD M ∧ kc ≤ mK M ∧ ks ≤ mN M) (hd : decode (mC M) pc = .ok (.invokestatic idx, 3)) (kk : AQ Z l M Qc kc ks (pc + 3) lv (.long (if y < x then y else x) :: st) s) : AQ Z l M Qc kc ks pc lv (.long y :: .long x :: st) s :=
  fun p e s0 m args below meth c H locs ls C hW hS hl => va_mmin_long C.1 C.2.1 (C.2.2.1.trans hl.1.symm) C.2.2.2.1 (C.2.2.2.2.1 _ h1) (C.2.2.2.2.1 _ h2) (C.2.2.2.2.1 _ h3) (C.2.2.2.2.1 _ h4) hf.1 hf.2.1 hf.2.2.1 hf.2.2.2 hd (kk p e s0 m args below meth c H locs ls C hW hS hl)
end AWC
