/-! constructors: a judgement over a list of cells, the newest first -/
abbrev tyL (c : Nat → ClassId) : List (ClassId × FieldType) := [(c 0, .int), (c 1, .object "CottonWeeks$Sheet"), (c 2, .object "CottonWeeks$Mill"), (c 3, .object "CottonWeeks$Home"), (c 4, .array .int)]
def EC (U : State) : Prop := (∀ w ∈ nst, va_Nw w U) ∧ AOw (.object "CottonWeeks$Sheet") U ∧ AOw (.object "CottonWeeks$Mill") U ∧ AOw (.object "CottonWeeks$Home") U ∧ AOw (.array .int) U
theorem EC.warm {s U : State} (h : EC s) (hW : s.WarmedH U.vm) : EC U := ⟨fun w hw => nst_warm hW hw (h.1 w hw), h.2.1.moved hW.alike, h.2.2.1.moved hW.alike, h.2.2.2.1.moved hW.alike, h.2.2.2.2.moved hW.alike⟩
theorem EC.same {U U' : State} (hv : U'.vm = U.vm) (h : EC U) : EC U' := by
  have ha : U.vm.Alike U'.vm := by
    rw [hv]
    exact Vm.Alike.refl _
  exact ⟨fun w hw => nst_same hv.symm hw (h.1 w hw), h.2.1.moved ha, h.2.2.1.moved ha, h.2.2.2.1.moved ha, h.2.2.2.2.moved ha⟩
def CXc (M : MI) (D : va_G) (c : Nat → ClassId) (nm : String) (p : Program) (s : State) (m : MethodId) (args : Array Value) (meth : Method) (cd : Code) : Prop :=
  p.tables.exec = Jvm.exec ∧ cd.code = mC M ∧ cd.maxLocals = mL M ∧ s.vm.findClass (mO M) = some m.cls ∧ (∀ w ∈ gtab, w.before args s = true) ∧ meth.sig.returnType = mT M ∧ meth.locks = false ∧ va_K D vwCl (tyL c) s ∧ EC s ∧ meth.name = nm
def CB (l : Launch) (M : MI) (nm : String) (D : va_G) (c : Nat → ClassId) (A : Nat → Prop) (sz : Nat) (Qc : Array Value → State → Outcome → State → Prop) (kc ks pc : Nat) (lv : List (Nat × Value)) (st : List Value) (ws : va_W) : Prop :=
  ∀ (p : Program) (e : Env) (s0 : State) (m : MethodId) (args : Array Value) (below : List Frame) (meth : Method) (cd : Code) (H : Heap) (locs : List Loc) (ls : Array Slot),
    CXc M D c nm p s0 m args meth cd → s0.heap.size = sz → va_P D vwCl ws H → va_D A ws → va_S A s0.heap H locs → lv_has ls (mL M) lv →
    W p l e (gR M) s0 m args below meth cd H locs kc ks (MQ below Qc args s0 (mK M) (mN M) A) (F0 m pc ls st)
def cQ (D : va_G) (A : Nat → Prop) (Pst : va_W → Prop) : Array Value → State → Outcome → State → Prop := va_Qv Pst (fun (w1 : va_W) (t : State) => va_P D vwCl w1 t.heap ∧ va_D A w1) A
def CSp (l : Launch) (y : MethodName) (M : MI) (D : va_G) (c : Nat → ClassId) (av : List Value) (wc : va_W) (Pst : va_W → Prop) : Prop :=
  ∀ sz : Nat, Met l y (Cond.code y (mC M) (mL M) (mT M) :: gtab) (gR M) (va_Pc av (fun U => U.heap.size = sz ∧ va_P D vwCl wc U.heap ∧ va_K D vwCl (tyL c) U ∧ va_D (fun _ => True) wc ∧ EC U)) (cQ D (va_A wc sz) Pst) (mK M) (mN M) (va_A wc sz)
theorem CSp.of {l : Launch} {y : MethodName} {M : MI} {D : va_G} {c : Nat → ClassId} {av : List Value} {wc : va_W} {Pst : va_W → Prop} (hy : plainName y.cls = true) (ho : y.cls = mO M) (hn : (lg_sl av).length ≤ mL M)
    (k : ∀ (A : Nat → Prop) (sz : Nat), (∀ q, sz ≤ q → A q) → CB l M y.name D c A sz (cQ D A Pst) 0 0 0 (lv_args 0 av) [] wc) : CSp l y M D c av wc Pst := by
  intro sz
  refine Met.ofW (cc := mC M) (maxL := mL M) (ret := mT M) hy rfl ?_
  intro p e s0 m args below meth cd s₁ B hml hv
  obtain ⟨rfl, hsz, hP, hK, hD0, hE⟩ := hv
  have hts := atoms_spec (ws := Cond.code y (mC M) (mL M) (mT M) :: gtab) B.pre
  have hown : s0.vm.findClass y.cls = some m.cls := findClass_of_methodNamed B.named
  have hin : meth.name = y.name := (name_of_methodNamed B.named B.method).1
  rw [lg_entry_eq]
  exact k (va_A wc sz) sz (fun q h => Or.inr h) p e s0 m _ below meth cd s0.heap [] _ ⟨B.exec, B.bytes, hml, ho ▸ hown, fun w hw => hts w (List.mem_cons_of_mem _ hw), B.returns, B.notSynchronized, hK, hE, hin⟩ hsz hP (hD0.self (sz := sz)) va_S.rf (lv_entry av hn)
theorem P_right {D : va_G} {cl : List vw_C} {w1 w2 : va_W} {H : Heap} (h : va_P D cl (w1 ++ w2) H) : va_P D cl w2 H := fun k q hk => h (w1.length + k) q (by rw [List.getElem?_append_right (by omega)]; simpa using hk)
theorem P_left {D : va_G} {cl : List vw_C} {w1 w2 : va_W} {H : Heap} (h : va_P D cl (w1 ++ w2) H) : va_P D cl w1 H := fun k q hk => h k q (by rw [List.getElem?_append_left (List.getElem?_eq_some_iff.mp hk).1]; exact hk)
theorem D_right {A : Nat → Prop} {w1 w2 : va_W} (h : va_D A (w1 ++ w2)) : va_D A w2 := by
  have at2 : ∀ (k : Nat) (q : Nat × va_E), w2[k]? = some q → (w1 ++ w2)[w1.length + k]? = some q := fun k q hk => by
    rw [List.getElem?_append_right (by omega)]
    simpa using hk
  exact ⟨fun i j p q hi hj e => by have := h.1 _ _ p q (at2 i p hi) (at2 j q hj) e; omega, fun k q hk => h.2 _ q (at2 k q hk)⟩
theorem D_left {A : Nat → Prop} {w1 w2 : va_W} (h : va_D A (w1 ++ w2)) : va_D A w1 := by
  have at1 : ∀ (k : Nat) (q : Nat × va_E), w1[k]? = some q → (w1 ++ w2)[k]? = some q := fun k q hk => by
    rw [List.getElem?_append_left (List.getElem?_eq_some_iff.mp hk).1]
    exact hk
  exact ⟨fun i j p q hi hj e => h.1 _ _ p q (at1 i p hi) (at1 j q hj) e, fun k q hk => h.2 _ q (at1 k q hk)⟩
theorem D_ne {A : Nat → Prop} {w1 w2 : va_W} (h : va_D A (w1 ++ w2)) {i j : Nat} {p q : Nat × va_E} (hi : w1[i]? = some p) (hj : w2[j]? = some q) : p.1 ≠ q.1 := fun e => by
  have h1 : i < w1.length := (List.getElem?_eq_some_iff.mp hi).1
  have := h.1 i (w1.length + j) p q (by rw [List.getElem?_append_left h1]; exact hi) (by rw [List.getElem?_append_right (by omega)]; simpa using hj) e
  omega
theorem cons_D {A : Nat → Prop} {ws : va_W} {x : Nat × va_E} (h : va_D A (ws ++ [x])) : va_D A (x :: ws) := va_D.swap (a := []) (b := ws) (c := [x]) h
theorem cons_P {D : va_G} {cl : List vw_C} {ws : va_W} {x : Nat × va_E} {H : Heap} (h : va_P D cl (ws ++ [x]) H) : va_P D cl (x :: ws) H := va_P.swap (a := []) (b := ws) (c := [x]) h
/-- a call's cells come anew, the others stay -/
theorem join_P {D : va_G} {cl : List vw_C} {A : Nat → Prop} {wc wr w1 : va_W} {H H1 : Heap} (hP : va_P D cl (wc ++ wr) H) (hD : va_D A (wc ++ wr)) (hA : ∀ q, H.size ≤ q → A q) (hk : ∀ q : Nat, q < H.size → ¬ va_A wc H.size q → H1[q]? = H[q]?) (hP1 : va_P D cl w1 H1) (hD1 : va_D (va_A wc H.size) w1) : va_P D cl (w1 ++ wr) H1 ∧ va_D A (w1 ++ wr) := by
  have out : ∀ (k : Nat) (q : Nat × va_E), wr[k]? = some q → ¬ va_A wc H.size q.1 := fun k q hq z => by
    rcases z with ⟨i, e, hi⟩ | z
    · exact D_ne hD hi hq rfl
    · have := (P_right hP k q hq).lt
      omega
  have hPr : va_P D cl wr H1 := (P_right hP).kept (fun k q hq => hk q.1 ((P_right hP k q hq).lt) (out k q hq))
  refine ⟨hP1.app hPr, va_D.app (hD1.weaken (fun k q hq z => ?_)) (D_right hD) (fun i j p q hi hj e => ?_)⟩
  · rcases z with ⟨i, e, hi⟩ | z
    · exact (D_left hD).2 i (q.1, e) hi
    · exact hA _ z
  · have h1 := hD1.2 i p hi
    rw [e] at h1
    exact out j q hj h1
section CBR
variable {l : Launch} {M : MI} {nm : String} {D : va_G} {c : Nat → ClassId} {A : Nat → Prop} {sz : Nat} {Qc : Array Value → State → Outcome → State → Prop} {kc ks pc : Nat} {lv : List (Nat × Value)} {st : List Value} {ws : va_W}
theorem c_iconst {n : Int} {v : Int32} (hd : decode (mC M) pc = .ok (.iconst n, 1)) (hv : Int32.ofInt n = v) (k : CB l M nm D c A sz Qc kc ks (pc + 1) lv (.int v :: st) ws) : CB l M nm D c A sz Qc kc ks pc lv st ws :=
  fun p e s0 m args below meth cd H locs ls C hz hP hD hS hl => lv_iconst C.1 C.2.1 hd hv (k p e s0 m args below meth cd H locs ls C hz hP hD hS hl)
theorem c_bipush {n : Int} {v : Int32} (hd : decode (mC M) pc = .ok (.bipush n, 2)) (hv : (Int8.ofInt n).toInt32 = v) (k : CB l M nm D c A sz Qc kc ks (pc + 2) lv (.int v :: st) ws) : CB l M nm D c A sz Qc kc ks pc lv st ws :=
  fun p e s0 m args below meth cd H locs ls C hz hP hD hS hl => lv_bipush C.1 C.2.1 hd hv (k p e s0 m args below meth cd H locs ls C hz hP hD hS hl)
theorem c_sipush {n : Int} {v : Int32} (hd : decode (mC M) pc = .ok (.sipush n, 3)) (hv : (Int16.ofInt n).toInt32 = v) (k : CB l M nm D c A sz Qc kc ks (pc + 3) lv (.int v :: st) ws) : CB l M nm D c A sz Qc kc ks pc lv st ws :=
  fun p e s0 m args below meth cd H locs ls C hz hP hD hS hl => lv_sipush C.1 C.2.1 hd hv (k p e s0 m args below meth cd H locs ls C hz hP hD hS hl)
theorem c_ldc {idx : Nat} {v : Int32} (hc : Cond.constant (mO M) idx v ∈ gtab) (hd : decode (mC M) pc = .ok (.ldc idx, 2)) (k : CB l M nm D c A sz Qc kc ks (pc + 2) lv (.int v :: st) ws) : CB l M nm D c A sz Qc kc ks pc lv st ws :=
  fun p e s0 m args below meth cd H locs ls C hz hP hD hS hl => lv_ldc C.1 C.2.1 C.2.2.2.1 (C.2.2.2.2.1 _ hc) hd (k p e s0 m args below meth cd H locs ls C hz hP hD hS hl)
theorem c_aload_n {n : Fin 4} {i : Nat} {x : Nat} (hd : decode (mC M) pc = .ok (.aload_n n, 1)) (q : Nat) (hi : (n : Nat) = i) (hq : lv[q]? = some (i, .ref x)) (k : CB l M nm D c A sz Qc kc ks (pc + 1) lv (.ref x :: st) ws) : CB l M nm D c A sz Qc kc ks pc lv st ws :=
  fun p e s0 m args below meth cd H locs ls C hz hP hD hS hl => lv_aload_n C.1 C.2.1 hd hi (lv_at hl q hq) (k p e s0 m args below meth cd H locs ls C hz hP hD hS hl)
theorem c_iload_n {n : Fin 4} {i : Nat} {x : Int32} (hd : decode (mC M) pc = .ok (.iload_n n, 1)) (q : Nat) (hi : (n : Nat) = i) (hq : lv[q]? = some (i, .int x)) (k : CB l M nm D c A sz Qc kc ks (pc + 1) lv (.int x :: st) ws) : CB l M nm D c A sz Qc kc ks pc lv st ws :=
  fun p e s0 m args below meth cd H locs ls C hz hP hD hS hl => lv_iload_n C.1 C.2.1 hd hi (lv_at hl q hq) (k p e s0 m args below meth cd H locs ls C hz hP hD hS hl)
theorem c_iload {i : Nat} {x : Int32} (hd : decode (mC M) pc = .ok (.iload i, 2)) (q : Nat) (hq : lv[q]? = some (i, .int x)) (k : CB l M nm D c A sz Qc kc ks (pc + 2) lv (.int x :: st) ws) : CB l M nm D c A sz Qc kc ks pc lv st ws :=
  fun p e s0 m args below meth cd H locs ls C hz hP hD hS hl => lv_iload C.1 C.2.1 hd (lv_at hl q hq) (k p e s0 m args below meth cd H locs ls C hz hP hD hS hl)
theorem c_istore_n {n : Fin 4} {i : Nat} {x : Int32} (lv' : List (Nat × Value)) (hd : decode (mC M) pc = .ok (.istore_n n, 1)) (hi : (n : Nat) = i) (hn : i < mL M) (hl' : (i, Value.int x) :: lv.filter (fun q => !(q.1 == i) && !(q.1 + 1 == i && q.2.category == 2)) = lv') (k : CB l M nm D c A sz Qc kc ks (pc + 1) lv' st ws) : CB l M nm D c A sz Qc kc ks pc lv (.int x :: st) ws :=
  fun p e s0 m args below meth cd H locs ls C hz hP hD hS hl => lv_istore_n C.1 C.2.1 hd hi hl hn hl' (fun ls' h' => k p e s0 m args below meth cd H locs ls' C hz hP hD hS h')
theorem c_iinc {i : Nat} {n : Int} {x v : Int32} (lv' : List (Nat × Value)) (hd : decode (mC M) pc = .ok (.iinc i n, 3)) (q : Nat) (hq : lv[q]? = some (i, .int x)) (hv : x + Int32.ofInt n = v) (hn : i < mL M) (hl' : (i, Value.int v) :: lv.filter (fun q => !(q.1 == i) && !(q.1 + 1 == i && q.2.category == 2)) = lv') (k : CB l M nm D c A sz Qc kc ks (pc + 3) lv' st ws) : CB l M nm D c A sz Qc kc ks pc lv st ws :=
  fun p e s0 m args below meth cd H locs ls C hz hP hD hS hl => lv_iinc C.1 C.2.1 hd hl hq hv hn hl' (fun ls' h' => k p e s0 m args below meth cd H locs ls' C hz hP hD hS h')
theorem c_goto {off : Int} (tgt : Nat) (hd : decode (mC M) pc = .ok (.goto off, 3)) (ht : (pc : Int) + off = (tgt : Int)) (k : CB l M nm D c A sz Qc kc ks tgt lv st ws) : CB l M nm D c A sz Qc kc ks pc lv st ws :=
  fun p e s0 m args below meth cd H locs ls C hz hP hD hS hl => lv_goto C.1 C.2.1 hd ht (k p e s0 m args below meth cd H locs ls C hz hP hD hS hl)
theorem c_icmp_ge {x y : Int32} {off : Int} (tgt : Nat) (hd : decode (mC M) pc = .ok (.if_icmp .ge off, 3)) (ht : (pc : Int) + off = (tgt : Int)) (kt : y ≤ x → CB l M nm D c A sz Qc kc ks tgt lv st ws) (kf : ¬ y ≤ x → CB l M nm D c A sz Qc kc ks (pc + 3) lv st ws) : CB l M nm D c A sz Qc kc ks pc lv (.int y :: .int x :: st) ws :=
  fun p e s0 m args below meth cd H locs ls C hz hP hD hS hl => lv_icmp_ge C.1 C.2.1 hd ht (fun q => kt q p e s0 m args below meth cd H locs ls C hz hP hD hS hl) (fun q => kf q p e s0 m args below meth cd H locs ls C hz hP hD hS hl)
theorem c_dup {v : Value} (hd : decode (mC M) pc = .ok (.dup, 1)) (hv : v.category = 1) (k : CB l M nm D c A sz Qc kc ks (pc + 1) lv (v :: v :: st) ws) : CB l M nm D c A sz Qc kc ks pc lv (v :: st) ws :=
  fun p e s0 m args below meth cd H locs ls C hz hP hD hS hl => lv_dup C.1 C.2.1 hd hv (k p e s0 m args below meth cd H locs ls C hz hP hD hS hl)
theorem c_loc (lv' : List (Nat × Value)) (qs : List Nat) (h : lv_pick lv qs = lv') (k : CB l M nm D c A sz Qc kc ks pc lv' st ws) : CB l M nm D c A sz Qc kc ks pc lv st ws :=
  fun p e s0 m args below meth cd H locs ls C hz hP hD hS hl => k p e s0 m args below meth cd H locs ls C hz hP hD hS (lv_sub hl qs h)
theorem c_ws {ws' : va_W} (h : ws = ws') (k : CB l M nm D c A sz Qc kc ks pc lv st ws') : CB l M nm D c A sz Qc kc ks pc lv st ws := h ▸ k
theorem c_obj {idx a : Nat} (w1 : Cond.methodLink (mO M) idx Lib.objectInit ∈ gtab) (w2 : Cond.instanceMethod Lib.objectInit ∈ gtab) (w3 : Cond.code Lib.objectInit ⟨#[0xb1]⟩ 1 none ∈ gtab) (hd : decode (mC M) pc = .ok (.invokespecial idx, 3)) (hf : 1 ≤ mD M ∧ (st.map fun v => v.category).sum + 12 ≤ 40 * mD M) (k : CB l M nm D c A sz Qc kc ks (pc + 3) lv st ws) : CB l M nm D c A sz Qc kc ks pc lv (.ref a :: st) ws :=
  fun p e s0 m args below meth cd H locs ls C hz hP hD hS hl => W.objInit C.1 C.2.1 C.2.2.2.1 (C.2.2.2.2.1 _ w1) (C.2.2.2.2.1 _ w2) (C.2.2.2.2.1 _ w3) rfl (by rw [C.2.2.1]; exact hl.1) rfl hd hf.1 (by show 2 * 0 + _ + 12 ≤ 40 * mD M; have := hf.2; omega) (k p e s0 m args below meth cd H locs ls C hz hP hD hS hl)
theorem c_newI (hA : ∀ q, sz ≤ q → A q) {n : Int32} {N : Nat} (w1 : Cond.arrayClass .int ∈ gtab) (hn : ¬ n < 0) (hN : n.toNatClampNeg = N) (hb : N * 4 ≤ 536870912) (hf : kc + 1 ≤ mK M ∧ ks + N ≤ mN M) (hd : decode (mC M) pc = .ok (.newarray .int, 2))
    (k : ∀ q : Nat, CB l M nm D c A sz Qc (kc + 1) (ks + N) (pc + 2) lv (.ref q :: st) ((q, .inl (c 0, N, .inl (fun _ => 0))) :: ws)) : CB l M nm D c A sz Qc kc ks pc lv (.int n :: st) ws :=
  fun p e s0 m args below meth cd H locs ls C hz hP hD hS hl => by
    refine va_newaK (atype := .int) C.1 C.2.1 (C.2.2.2.2.1 _ w1) rfl hd rfl hn hN hb hf.1 hf.2 rfl fun H1 cA e1 z1 o1 hAr hNm => ?_
    have hc : cA = c 0 := Option.some.inj (hNm.symm.trans (C.2.2.2.2.2.2.2.1.2 0 _ rfl).2)
    subst hc
    have hP1 : va_P D vwCl (ws ++ [(H.size, .inl (c 0, N, .inl (fun _ => 0)))]) H1 := (hP.kept (fun k x hx => o1 x.1 ((hP k x hx).lt))).app (one_at (show H1[H.size]? = some (vp_cell _ _) by rw [vp_cell_i]; exact e1))
    exact k H.size p e s0 m args below meth cd H1 locs ls C hz (cons_P hP1) (cons_D (hD.push hP rfl (hA _ (by rw [← hz]; exact hS.1)))) ⟨Nat.le_trans hS.1 (by omega), fun x h1 h2 => (o1 x (Nat.lt_of_lt_of_le h1 hS.1)).trans (hS.2.1 x h1 h2), hS.2.2⟩ hl
theorem c_newR (hA : ∀ q, sz ≤ q → A q) {n : Int32} {N idx ti : Nat} {C0 : String} (ht : (tyL c)[ti]? = some (c ti, .object C0)) (hE : ∀ U, EC U → AOw (.object C0) U) (w1 : Cond.classLink (mO M) idx C0 ∈ gtab) (hn : ¬ n < 0) (hN : n.toNatClampNeg = N) (hb : N * 4 ≤ 536870912) (hf : kc + 1 ≤ mK M ∧ ks + N ≤ mN M) (hd : decode (mC M) pc = .ok (.anewarray idx, 3))
    (k : ∀ q : Nat, CB l M nm D c A sz Qc (kc + 1) (ks + N) (pc + 3) lv (.ref q :: st) ((q, .inl (c ti, N, .inr (.inr (.inr (.inr (fun _ => none)))))) :: ws)) : CB l M nm D c A sz Qc kc ks pc lv (.int n :: st) ws :=
  fun p e s0 m args below meth cd H locs ls C hz hP hD hS hl => by
    refine va_newq C.1 C.2.1 C.2.2.2.1 (C.2.2.2.2.1 _ w1) (hE _ C.2.2.2.2.2.2.2.2.1) C.2.2.2.2.2.2.2.1 hP hD hS (fun q hq => hA q (by rw [← hz]; exact hq)) hn hN hb hf.1 hf.2 hd fun q cA H1 hK1 hP1 hD1 hS1 => ?_
    have e1 := (hK1.2 5 (cA, .object C0) rfl).2
    have e2 := (C.2.2.2.2.2.2.2.1.2 ti _ ht).2
    obtain ⟨_, _, _, _, _, g1⟩ := e1
    obtain ⟨_, _, _, _, _, g2⟩ := e2
    have hc : cA = c ti := Option.some.inj (g1.symm.trans g2)
    subst hc
    exact k q p e s0 m args below meth cd H1 locs ls C hz (cons_P hP1) (cons_D hD1) hS1 hl
theorem c_new (hA : ∀ q, sz ≤ q → A q) {idx ci N : Nat} {C0 : String} {T : u_T} {ty : Nat → FieldType} {fs : List Value} (hin : ∀ w ∈ u_ws C0 T N, w ∈ gtab) (hty : ∀ k, k < N → parseFieldDescriptor (T k).2.2.1 = some (ty k)) (w1 : Cond.classLink (mO M) idx C0 ∈ gtab) (w2 : Cond.instantiable C0 N ∈ gtab) (w3 : Cond.initialized C0 ∈ gtab) (hc : vwCl[ci]? = some (C0, T, N)) (hfs : ∀ j, j < N → defaultValue (ty j) = vp_V fs j) (hf : kc + 1 ≤ mK M ∧ ks + N ≤ mN M) (hd : decode (mC M) pc = .ok (.new idx, 3))
    (k : ∀ q : Nat, CB l M nm D c A sz Qc (kc + 1) (ks + N) (pc + 3) lv (.ref q :: st) ((q, .inr (ci, fs)) :: ws)) : CB l M nm D c A sz Qc kc ks pc lv st ws :=
  fun p e s0 m args below meth cd H locs ls C hz hP hD hS hl => va_new C.1 C.2.1 C.2.2.2.2.1 hin ty hty C.2.2.2.1 (C.2.2.2.2.1 _ w1) (C.2.2.2.2.1 _ w2) (C.2.2.2.2.1 _ w3) C.2.2.2.2.2.2.2.1 hP hD hS (fun q hq => hA q (by rw [← hz]; exact hq)) hc hfs hf.1 hf.2 hd (fun q H1 hP1 hD1 hS1 => k q p e s0 m args below meth cd H1 locs ls C hz (cons_P hP1) (cons_D hD1) hS1 hl)
theorem c_put {idx t j ci a n : Nat} {ty : FieldType} {fin : Bool} {v : Value} {fs : List Value} (q0 : Nat) (hf : FL (mO M) idx t j ty fin) (hO : shO t = some (ci, n)) (he : ws[q0]? = some (a, .inr (ci, fs))) (hdecl : ∀ T : u_T, vwCl[ci]? = some (mO M, T, n) → (T j).1 = mO M) (hcl : ∃ T : u_T, vwCl[ci]? = some (mO M, T, n)) (hnm0 : nm = "<init>") (hn : narrow ty v = v) (hfit : fits ty v = true) (hl2 : j < fs.length) (hd : decode (mC M) pc = .ok (.putfield idx, 3))
    (k : CB l M nm D c A sz Qc kc ks (pc + 3) lv st (ws.set q0 (a, .inr (ci, fs.set j v)))) : CB l M nm D c A sz Qc kc ks pc lv (v :: .ref a :: st) ws :=
  fun p e s0 m args below meth cd H locs ls C hz hP hD hS hl => by
    obtain ⟨ci', n', Cn, T, ty0, hO', hj, hc, hin, hlink, hty, hnm, hfin, hpt⟩ := hf
    have e1 : (ci', n') = (ci, n) := Option.some.inj (hO'.symm.trans hO)
    cases e1
    obtain ⟨T', hT'⟩ := hcl
    have e2 : (Cn, T, n) = (mO M, T', n) := Option.some.inj (hc.symm.trans hT')
    have e3 : Cn = mO M := congrArg Prod.fst e2
    have e4 : T = T' := congrArg (fun z => z.2.1) e2
    cases fin with
    | true => exact va_putF C.1 C.2.1 C.2.2.2.2.1 hin ty0 hty hnm C.2.2.2.1 C.2.2.2.2.2.2.2.1 hP hD hS q0 he hc j hj (C.2.2.2.2.1 _ hlink) (fun _ h9 => h9) hfin (C.2.2.2.2.2.2.2.2.2.trans hnm0) (by rw [e4]; exact hdecl T' hT') hpt hn hfit hl2 hd (fun H1 locs1 hP1 hD1 hS1 => k p e s0 m args below meth cd H1 locs1 ls C hz hP1 hD1 hS1 hl)
    | false => exact va_put C.1 C.2.1 C.2.2.2.2.1 hin ty0 hty hnm C.2.2.2.1 C.2.2.2.2.2.2.2.1 hP hD hS q0 he hc j hj (C.2.2.2.2.1 _ hlink) (fun _ h9 => h9) hfin hpt hn hfit hl2 hd (fun H1 locs1 hP1 hD1 hS1 => k p e s0 m args below meth cd H1 locs1 ls C hz hP1 hD1 hS1 hl)
theorem c_get {idx t j ci a n : Nat} {ty : FieldType} {fin : Bool} {fs : List Value} (v : Value) (q0 : Nat) (hf : FL (mO M) idx t j ty fin) (hO : shO t = some (ci, n)) (he : ws[q0]? = some (a, .inr (ci, fs))) (hv : fs[j]? = some v) (hd : decode (mC M) pc = .ok (.getfield idx, 3))
    (k : CB l M nm D c A sz Qc kc ks (pc + 3) lv (v :: st) ws) : CB l M nm D c A sz Qc kc ks pc lv (.ref a :: st) ws :=
  fun p e s0 m args below meth cd H locs ls C hz hP hD hS hl => by
    obtain ⟨ci', n', Cn, T, ty0, hO', hj, hc, hin, hlink, -⟩ := hf
    have e1 : (ci', n') = (ci, n) := Option.some.inj (hO'.symm.trans hO)
    cases e1
    exact va_get C.1 C.2.1 C.2.2.2.2.1 hin C.2.2.2.1 C.2.2.2.2.2.2.2.1 hP q0 he hc j hj (C.2.2.2.2.1 _ hlink) (fun _ h9 => h9) hv hd (k p e s0 m args below meth cd H locs ls C hz hP hD hS hl)
theorem c_iast {n a : Nat} {f : Nat → Int32} {i x : Int32} (q0 : Nat) (he : ws[q0]? = some (a, .inl (c 0, n, .inl f))) (hin : vp_in i n) (hd : decode (mC M) pc = .ok (.iastore, 1))
    (k : CB l M nm D c A sz Qc kc ks (pc + 1) lv st (ws.set q0 (a, .inl (c 0, n, .inl (upd f i.toNatClampNeg x))))) : CB l M nm D c A sz Qc kc ks pc lv (.int x :: .int i :: .ref a :: st) ws :=
  fun p e s0 m args below meth cd H locs ls C hz hP hD hS hl => va_iast C.1 C.2.1 C.2.2.2.2.2.2.2.1 hP hD hS q0 0 he rfl hin hd (fun H1 locs1 hP1 hD1 hS1 => k p e s0 m args below meth cd H1 locs1 ls C hz hP1 hD1 hS1 hl)
theorem c_iald {n a : Nat} {f : Nat → Int32} {i : Int32} (q0 : Nat) (he : ws[q0]? = some (a, .inl (c 0, n, .inl f))) (hin : vp_in i n) (hd : decode (mC M) pc = .ok (.iaload, 1))
    (k : CB l M nm D c A sz Qc kc ks (pc + 1) lv (.int (f i.toNatClampNeg) :: st) ws) : CB l M nm D c A sz Qc kc ks pc lv (.int i :: .ref a :: st) ws :=
  fun p e s0 m args below meth cd H locs ls C hz hP hD hS hl => va_iald C.1 C.2.1 C.2.2.2.2.2.2.2.1 hP q0 0 he rfl hin hd (k p e s0 m args below meth cd H locs ls C hz hP hD hS hl)
theorem c_ret (hr : mT M = none) (h1 : kc ≤ mK M) (h2 : ks ≤ mN M) (hd : decode (mC M) pc = .ok (.return_, 1)) {Pst : va_W → Prop} (hp : Pst ws) : CB l M nm D c A sz (cQ D A Pst) kc ks pc lv [] ws :=
  fun p e s0 m args below meth cd H locs ls C hz hP hD hS hl => by
    have hlocks : meth.locks = false := C.2.2.2.2.2.2.1
    exact W.widen h1 h2 (W.vret C.1 C.2.1 (C.2.2.2.2.2.1.trans hr) (fun t ht _ => ⟨⟨ws, rfl, hp, by rw [ht]; exact hP, hD⟩, hS.F ht⟩) hS.2.2 hd)
/-- a nest mate's constructor -/
def LkIN (own : String) (idx : Nat) (y : MethodName) (N : MI) (n : Nat) : Prop := ∃ host : String, Cond.methodLinkNest own idx y host ∈ nst ∧ Cond.instanceMethod y ∈ gtab ∧ Cond.initialized y.cls ∈ gtab ∧ Cond.code y (mC N) (mL N) (mT N) ∈ gtab ∧ y.name = "<init>" ∧
  (y.cls ≠ "java/lang/invoke/MethodHandle" ∧ y.cls ≠ "java/lang/invoke/VarHandle" ∧ (parseMethodDescriptor y.desc).map (fun d => d.parameters.length) = some n)
theorem c_blind {av : List Value} {n : Nat} {wc : va_W} : FrameBlind (va_Pc av (fun U => U.heap.size = n ∧ va_P D vwCl wc U.heap ∧ va_K D vwCl (tyL c) U ∧ va_D (fun _ => True) wc ∧ EC U)) := fun a U g mk q => by
  obtain ⟨q0, q1, q2, q3, q4, q5⟩ := q
  exact ⟨q0, q1, q2, va_K.moved (u := U) (U := U.calling g mk a) (Vm.Alike.refl U.vm) q3, q4, EC.same (U := U) (U' := U.calling g mk a) rfl q5⟩
theorem c_callIN (hA : ∀ q, sz ≤ q → A q) {y : MethodName} {N : MI} {idx a : Nat} {As rest : List Value} {wc wr : va_W} {Pst : va_W → Prop} (hr : mT N = none) (hl0 : LkIN (mO M) idx y N As.length) (hf : Fit M N kc ks) (hst : st = As.reverse ++ .ref a :: rest) (hrest : (rest.map fun v => v.category).sum ≤ 8) (hd : decode (mC M) pc = .ok (.invokespecial idx, 3)) (hC : CSp l y N D c (.ref a :: As) wc Pst) (hw : ws = wc ++ wr)
    (kk : ∀ w1 : va_W, Pst w1 → CB l M nm D c A sz Qc (kc + mK N) (ks + mN N) (pc + 3) lv rest (w1 ++ wr)) : CB l M nm D c A sz Qc kc ks pc lv st ws :=
  fun p e s0 m args below meth cd H locs ls C hz hP hD hS hl => by
    subst hst
    subst hw
    obtain ⟨host, h1, h2, h3, h5, h6, h7⟩ := hl0
    have hG := gtab_goodIn h5
    have hA0 : ∀ q, H.size ≤ q → A q := fun q hq => hA q (Nat.le_trans (by rw [← hz]; exact hS.1) hq)
    have hA1 : ∀ q, va_A wc H.size q → A q := fun q hq => by
      rcases hq with ⟨i, e, hi⟩ | hq
      · exact (D_left hD).2 i _ hi
      · exact hA0 q hq
    have hcw := va_cnB (R := gR M) (s := s0) (args := args) (own := mO M) (host := host) (index := idx) (y := y) (bytes := mC N) (maxL := mL N) (ret := mT N) (rm := gR N) (mc := mK N) (ms := mN N) As.length C.2.2.2.2.1 hG rfl rfl rfl (C.2.2.2.2.2.2.2.2.1.1 _ h1) (C.2.2.2.2.1 _ h3) h7 hf.1
    have hM := hC H.size
    rw [hr] at hcw hM
    refine va_callv (va_runIN (As := As) (rest := rest) ⟨C.1, C.2.1, C.2.2.1, C.2.2.2.1, C.2.2.2.2.1⟩ hM ⟨hcw, h6, C.2.2.2.2.1 _ h2⟩ ⟨c_blind, fun U hU hW => ⟨rfl, by rw [hU], by rw [hU]; exact P_left hP, va_K.moved hW.alike C.2.2.2.2.2.2.2.1, (D_left hD).weaken (fun _ _ _ _ => trivial), C.2.2.2.2.2.2.2.2.1.warm hW⟩⟩ rfl rfl hl.1 rfl (lv_room hrest) hd hf.2) hS (fun q _ h => hA1 q h) hA1 (fun w1 t H1 locs1 ht hvm hp hB hz1 hk1 hS1 => ?_)
    obtain ⟨hP1, hD1⟩ := hB
    rw [ht] at hP1
    obtain ⟨j1, j2⟩ := join_P hP hD hA0 hk1 hP1 hD1
    exact kk w1 hp p e s0 m args below meth cd H1 locs1 ls C hz j1 j2 hS1 hl
theorem c_aast {ti ci a v n : Nat} {r : vw_C} {vs : List Value} {f : Nat → Option Nat} {i : Int32} (q0 qk : Nat) (he : ws[q0]? = some (a, .inl (c ti, n, .inr (.inr (.inr (.inr f)))))) (ht : (tyL c)[ti]? = some (c ti, .object r.1)) (hv : ws[qk]? = some (v, .inr (ci, vs))) (hc : vwCl[ci]? = some r) (hin : vp_in i n) (hd : decode (mC M) pc = .ok (.aastore, 1))
    (k : CB l M nm D c A sz Qc kc ks (pc + 1) lv st (ws.set q0 (a, .inl (c ti, n, .inr (.inr (.inr (.inr (va_up f i.toNatClampNeg (some v)))))))))  : CB l M nm D c A sz Qc kc ks pc lv (.ref v :: .int i :: .ref a :: st) ws :=
  fun p e s0 m args below meth cd H locs ls C hz hP hD hS hl => va_astq C.1 C.2.1 C.2.2.2.2.2.2.2.1 hP hD hS q0 ti qk ci he ht hv hc hin hd (fun H1 locs1 hP1 hD1 hS1 => k p e s0 m args below meth cd H1 locs1 ls C hz hP1 hD1 hS1 hl)
theorem c_mna (hA : ∀ q, sz ≤ q → A q) {idx : Nat} (w1 : Cond.classLink (mO M) idx "[[I" ∈ gtab) (w2 : Cond.arrayClass .int ∈ gtab) (hf : kc + 9 ≤ mK M ∧ ks + 72 ≤ mN M) (hd : decode (mC M) pc = .ok (.multianewarray idx 2, 4))
    (k : ∀ (q : Nat) (r : Nat → Nat), CB l M nm D c A sz Qc (kc + 9) (ks + 72) (pc + 4) lv (.ref q :: st) ((r 0, .inl (c 0, 8, .inl (fun _ => 0))) :: (r 1, .inl (c 0, 8, .inl (fun _ => 0))) :: (r 2, .inl (c 0, 8, .inl (fun _ => 0))) :: (r 3, .inl (c 0, 8, .inl (fun _ => 0))) :: (r 4, .inl (c 0, 8, .inl (fun _ => 0))) :: (r 5, .inl (c 0, 8, .inl (fun _ => 0))) :: (r 6, .inl (c 0, 8, .inl (fun _ => 0))) :: (r 7, .inl (c 0, 8, .inl (fun _ => 0))) :: (q, .inl (c 4, 8, .inr (.inr (.inr (.inr (fun i => if i < 8 then some (r i) else none)))))) :: ws)) : CB l M nm D c A sz Qc kc ks pc lv (.int 8 :: .int 8 :: st) ws :=
  fun p e s0 m args below meth cd H locs ls C hz hP hD hS hl => by
    have hcy : s0.vm.findClass (FieldType.array .int).toString = some (c 0) := (C.2.2.2.2.2.2.2.1.2 0 _ rfl).2
    refine va_mna (X := ws) (L := []) (f := fun _ => .inl (c 0, 0, .inl (fun _ => 0))) (z := (8, .inl (fun _ => 0))) C.1 C.2.1 C.2.2.2.1 (C.2.2.2.2.1 _ w1) C.2.2.2.2.2.2.2.2.1.2.2.2.2 (C.2.2.2.2.1 _ w2) hcy C.2.2.2.2.2.2.2.1 (by rw [show ws ++ va_pl [] (fun _ => .inl (c 0, 0, .inl (fun _ => 0))) = ws by simp [va_pl]]; exact hP) (by rw [show ws ++ va_pl [] (fun _ => .inl (c 0, 0, .inl (fun _ => 0))) = ws by simp [va_pl]]; exact hD) hS (fun q hq => hA q (by rw [← hz]; exact hq)) (N' := 8) (K' := 8) (by decide) (by decide) (by decide) (by decide) (by decide) (by decide) (by decide) rfl rfl hf.1 hf.2 (fun c9 => rfl) hd (fun q r cA H1 hr1 hr2 hK1 hP1 hD1 hS1 => ?_)
    have hc : cA = c 4 := Option.some.inj ((hK1.2 5 (cA, .array .int) rfl).2.symm.trans (C.2.2.2.2.2.2.2.1.2 4 _ rfl).2)
    subst hc
    have e1 : va_pl ([] ++ (List.range 8).map r) (vr_up (fun _ => .inl (c 0, 0, .inl (fun _ => 0))) ((List.range 8).map r) (.inl (c 0, 8, .inl (fun _ => 0)))) = [(r 0, .inl (c 0, 8, .inl (fun _ => 0))), (r 1, .inl (c 0, 8, .inl (fun _ => 0))), (r 2, .inl (c 0, 8, .inl (fun _ => 0))), (r 3, .inl (c 0, 8, .inl (fun _ => 0))), (r 4, .inl (c 0, 8, .inl (fun _ => 0))), (r 5, .inl (c 0, 8, .inl (fun _ => 0))), (r 6, .inl (c 0, 8, .inl (fun _ => 0))), (r 7, .inl (c 0, 8, .inl (fun _ => 0)))] := by
      rw [List.nil_append, show (List.range 8).map r = [r 0, r 1, r 2, r 3, r 4, r 5, r 6, r 7] from rfl]
      simp [va_pl, vr_up]
    rw [e1] at hP1 hD1
    have hP2 := va_P.swap (a := []) hP1
    have hD2 := va_D.swap (a := []) hD1
    have hP3 := va_P.swap (a := [(r 0, .inl (c 0, 8, .inl (fun _ => 0))), (r 1, .inl (c 0, 8, .inl (fun _ => 0))), (r 2, .inl (c 0, 8, .inl (fun _ => 0))), (r 3, .inl (c 0, 8, .inl (fun _ => 0))), (r 4, .inl (c 0, 8, .inl (fun _ => 0))), (r 5, .inl (c 0, 8, .inl (fun _ => 0))), (r 6, .inl (c 0, 8, .inl (fun _ => 0))), (r 7, .inl (c 0, 8, .inl (fun _ => 0)))]) (b := ws) (c := [(q, .inl (c 4, 8, .inr (.inr (.inr (.inr (fun i => if i < 8 then some (r i) else none))))))]) (by rw [List.append_assoc]; exact hP2)
    have hD3 := va_D.swap (a := [(r 0, .inl (c 0, 8, .inl (fun _ => 0))), (r 1, .inl (c 0, 8, .inl (fun _ => 0))), (r 2, .inl (c 0, 8, .inl (fun _ => 0))), (r 3, .inl (c 0, 8, .inl (fun _ => 0))), (r 4, .inl (c 0, 8, .inl (fun _ => 0))), (r 5, .inl (c 0, 8, .inl (fun _ => 0))), (r 6, .inl (c 0, 8, .inl (fun _ => 0))), (r 7, .inl (c 0, 8, .inl (fun _ => 0)))]) (b := ws) (c := [(q, .inl (c 4, 8, .inr (.inr (.inr (.inr (fun i => if i < 8 then some (r i) else none))))))]) (by rw [List.append_assoc]; exact hD2)
    exact k q r p e s0 m args below meth cd H1 locs ls C hz hP3 hD3 hS1 hl
end CBR
