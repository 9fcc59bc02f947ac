/-! the world of cells, and the judgement AW: from this place, with these locals, this stack and this store, the method comes to its end as Post says -/
def fvl (Z : ZE) (s : St) (t k j : Nat) : Value := match shF t j with
  | none => .int (s t k j)
  | some (u, b) => .ref (za Z u (if b = true then k else 0))
def cel (Z : ZE) (s : St) (t k : Nat) : va_E := match shO t with
  | some (ci, n) => .inr (ci, (List.range n).map (fvl Z s t k))
  | none => match shA t with
    | some n => .inl (zc Z 0, n, .inl (s t k))
    | none => match shR t with
      | some (n, u, c) => .inl (zc Z c, n, .inr (.inr (.inr (.inr (fun i => if i < shN (zg Z) u then some (za Z u i) else none)))))
      | none => .inl (zc Z 0, 0, .inl (s t k))
theorem cel_O {Z : ZE} {s : St} {t k ci n : Nat} (h : shO t = some (ci, n)) : cel Z s t k = .inr (ci, (List.range n).map (fvl Z s t k)) := by
  unfold cel
  rw [h]
theorem cel_A {Z : ZE} {s : St} {t k n : Nat} (h0 : shO t = none) (h : shA t = some n) : cel Z s t k = .inl (zc Z 0, n, .inl (s t k)) := by
  unfold cel
  rw [h0, h]
theorem cel_R {Z : ZE} {s : St} {t k n u c : Nat} (h0 : shO t = none) (h1 : shA t = none) (h : shR t = some (n, u, c)) : cel Z s t k = .inl (zc Z c, n, .inr (.inr (.inr (.inr (fun i => if i < shN (zg Z) u then some (za Z u i) else none))))) := by
  unfold cel
  rw [h0, h1, h]
/-- the static arrays: class, name, contents -/
def stC : Nat → String × String := fun c => match c with
  | 0 => ("CottonWeeks$Bodies", "MADE_OF")
  | 1 => ("CottonWeeks$Bodies", "PARENT")
  | 2 => ("CottonWeeks$Bodies", "SIZE_BODY")
  | 3 => ("CottonWeeks$Bodies", "MARK_BODY")
  | _ => ("CottonWeeks$Tape", "MOST_VALUE")
def stB : Nat → List Int32 := fun c => match c with
  | 0 => [-1000000, -1000000, 1, 2, -1000000, -1000000]
  | 1 => [-1000000, 0, 1, 2, 0, 4]
  | 2 => [10, 11, 12, 13, 10, 14]
  | 3 => [20, 20, 21, 21, 22, 23]
  | _ => [99, 99, 99, 99, 99, 9999, 99, 3]
def stL : Nat → Nat := fun c => (stB c).length
def stV (c : Nat) (j : Nat) : Int32 := (stB c).getD j 0
/-- the texts: pool number, text, bytes -/
def txK : Nat → Nat × String := fun c => match c with
  | 0 => (38, "from")
  | 1 => (74, "piece")
  | 2 => (76, "relief")
  | 3 => (78, "limit")
  | 4 => (80, "bread")
  | _ => (82, "first")
def txB : List (List Int32) := [[102, 114, 111, 109], [112, 105, 101, 99, 101], [114, 101, 108, 105, 101, 102], [108, 105, 109, 105, 116], [98, 114, 101, 97, 100], [102, 105, 114, 115, 116]]
def txL : List Nat := [4, 5, 6, 5, 5, 5]
def OkZ (Z : ZE) : Prop :=
  (∀ (s : St) (H : Heap) (t k : Nat), zx Z t k → zW Z s H → va_at (zD Z) vwCl (za Z t k, cel Z s t k) H) ∧
  (∀ (s s' : St) (H H' : Heap) (t k : Nat), zx Z t k → zW Z s H → va_at (zD Z) vwCl (za Z t k, cel Z s' t k) H' → H'.size = H.size → (∀ q : Nat, q ≠ za Z t k → H'[q]? = H[q]?) → (∀ t' k' : Nat, ¬ (t' = t ∧ k' = k) → s' t' k' = s t' k') → zW Z s' H') ∧
  (∀ t k : Nat, zx Z t k → zA Z (za Z t k)) ∧
  (∀ s U : State, zS Z s → s.WarmedH U.vm → va_F (zA Z) s U → zS Z U) ∧
  (∀ U U' : State, U'.vm = U.vm → U'.heap = U.heap → zS Z U → zS Z U') ∧
  (∀ s : State, zS Z s → ∀ w ∈ nst, va_Nw w s) ∧
  (∀ s : State, zS Z s → ∀ c : Nat, c < 5 → va_Z (stC c).1 (stC c).2 "[I" (.ref (za Z (100 + c) 0)) (zA Z) s s.heap ∧ va_T .int (za Z (100 + c) 0) (stL c) (fun j => .int (stV c j)) (zA Z) s s.heap) ∧
  (∀ s : State, zS Z s → (∀ c : Nat, c < 6 → vk_R "CottonWeeks$Tape" (txK c).1 (txK c).2 (za Z 110 c) s) ∧ vk_S 6 txL txB (za Z 110) (za Z 111) (zA Z) s s.heap ∧ va_Z "java/lang/String" "COMPACT_STRINGS" "Z" (.int 1) (zA Z) s s.heap ∧ va_Zq "jdk/internal/util/Preconditions" "SIOOBE_FORMATTER" "Ljava/util/function/BiFunction;" (zA Z) s s.heap)
/-- a method: its code, its class, how many locals, what it answers, how deep, how many cells and slots it may make -/
abbrev MI : Type := ByteArray × String × Nat × Option FieldType × Nat × Nat × Nat
abbrev mC (M : MI) : ByteArray := M.1
abbrev mO (M : MI) : String := M.2.1
abbrev mL (M : MI) : Nat := M.2.2.1
abbrev mT (M : MI) : Option FieldType := M.2.2.2.1
abbrev mD (M : MI) : Nat := M.2.2.2.2.1
abbrev mK (M : MI) : Nat := M.2.2.2.2.2.1
abbrev mN (M : MI) : Nat := M.2.2.2.2.2.2
abbrev gR (M : MI) : Room := { frames := mD M, cells := mK M, slots := mN M, locals := 40 * mD M }
def gQ (Z : ZE) (Post : Option Value → St → Prop) : Array Value → State → Outcome → State → Prop := fun _ st o t => ∃ (r : Option Value) (s' : St), o = .returned r ∧ Post r s' ∧ zW Z s' t.heap ∧ va_F (zA Z) st t
def CX (Z : ZE) (M : MI) (p : Program) (s : State) (m : MethodId) (args : Array Value) (meth : Method) (c : Code) : Prop :=
  p.tables.exec = Jvm.exec ∧ c.code = mC M ∧ c.maxLocals = mL M ∧ s.vm.findClass (mO M) = some m.cls ∧ (∀ w ∈ gtab, w.before args s = true) ∧ meth.sig.returnType = mT M ∧ meth.locks = false ∧ va_K (zD Z) vwCl (zT Z) s ∧ zS Z s
def AQ (Z : ZE) (l : Launch) (M : MI) (Qc : Array Value → State → Outcome → State → Prop) (kc ks pc : Nat) (lv : List (Nat × Value)) (st : List Value) (s : St) : Prop :=
  ∀ (p : Program) (e : Env) (s0 : State) (m : MethodId) (args : Array Value) (below : List Frame) (meth : Method) (c : Code) (H : Heap) (locs : List Loc) (ls : Array Slot),
    CX Z M p s0 m args meth c → zW Z s H → va_S (zA Z) s0.heap H locs → lv_has ls (mL M) lv →
    W p l e (gR M) s0 m args below meth c H locs kc ks (MQ below Qc args s0 (mK M) (mN M) (zA Z)) (F0 m pc ls st)
abbrev AW (Z : ZE) (l : Launch) (M : MI) (Post : Option Value → St → Prop) (kc ks pc : Nat) (lv : List (Nat × Value)) (st : List Value) (s : St) : Prop := AQ Z l M (gQ Z Post) kc ks pc lv st s
/-- a method's contract: from these arguments and this store it answers R.1 and leaves the store R.2 -/
def Sp (Z : ZE) (l : Launch) (y : MethodName) (M : MI) (av : List Value) (s : St) (R : Option Value × St) : Prop :=
  Met l y (Cond.code y (mC M) (mL M) (mT M) :: gtab) (gR M) (va_Pc av (fun U => zW Z s U.heap ∧ va_K (zD Z) vwCl (zT Z) U ∧ zS Z U)) (gQ Z (fun r s' => r = R.1 ∧ s' = R.2)) (mK M) (mN M) (zA Z)
theorem Sp.of {Z : ZE} {l : Launch} {y : MethodName} {M : MI} {av : List Value} {s : St} {R : Option Value × St} (hy : plainName y.cls = true) (ho : y.cls = mO M) (hn : (lg_sl av).length ≤ mL M)
    (k : AW Z l M (fun r s' => r = R.1 ∧ s' = R.2) 0 0 0 (lv_args 0 av) [] s) : Sp Z l y M av s R := by
  refine Met.ofW (cc := mC M) (maxL := mL M) (ret := mT M) hy rfl ?_
  intro p e s0 m args below meth c s₁ B hml hv
  obtain ⟨rfl, hW, hK, hS⟩ := hv
  have hts := atoms_spec (ws := Cond.code y (mC M) (mL M) (mT M) :: gtab) B.pre
  have hown : s0.vm.findClass y.cls = some m.cls := findClass_of_methodNamed B.named
  rw [lg_entry_eq]
  exact k p e s0 m _ below meth c s0.heap [] _ ⟨B.exec, B.bytes, hml, ho ▸ hown, fun w hw => hts w (List.mem_cons_of_mem _ hw), B.returns, B.notSynchronized, hK, hS⟩ hW va_S.rf (lv_entry av hn)
section AWR
variable {Z : ZE} {l : Launch} {M : MI} {Post : Option Value → St → Prop} {Qc : Array Value → State → Outcome → State → Prop} {kc ks pc : Nat} {lv : List (Nat × Value)} {st : List Value} {s : St}
theorem a_iconst {n : Int} {v : Int32} (hd : decode (mC M) pc = .ok (.iconst n, 1)) (hv : Int32.ofInt n = v) (k : AQ Z l M Qc kc ks (pc + 1) lv (.int v :: st) s) : AQ Z l M Qc kc ks pc lv st s :=
  fun p e s0 m args below meth c H locs ls C hW hS hl => lv_iconst C.1 C.2.1 hd hv (k p e s0 m args below meth c H locs ls C hW hS hl)
theorem a_bipush {n : Int} {v : Int32} (hd : decode (mC M) pc = .ok (.bipush n, 2)) (hv : (Int8.ofInt n).toInt32 = v) (k : AQ Z l M Qc kc ks (pc + 2) lv (.int v :: st) s) : AQ Z l M Qc kc ks pc lv st s :=
  fun p e s0 m args below meth c H locs ls C hW hS hl => lv_bipush C.1 C.2.1 hd hv (k p e s0 m args below meth c H locs ls C hW hS hl)
theorem a_sipush {n : Int} {v : Int32} (hd : decode (mC M) pc = .ok (.sipush n, 3)) (hv : (Int16.ofInt n).toInt32 = v) (k : AQ Z l M Qc kc ks (pc + 3) lv (.int v :: st) s) : AQ Z l M Qc kc ks pc lv st s :=
  fun p e s0 m args below meth c H locs ls C hW hS hl => lv_sipush C.1 C.2.1 hd hv (k p e s0 m args below meth c H locs ls C hW hS hl)
theorem a_lconst {n : Fin 2} {v : Int64} (hd : decode (mC M) pc = .ok (.lconst n, 1)) (hv : Int64.ofNat (n : Nat) = v) (k : AQ Z l M Qc kc ks (pc + 1) lv (.long v :: st) s) : AQ Z l M Qc kc ks pc lv st s :=
  fun p e s0 m args below meth c H locs ls C hW hS hl => lv_lconst C.1 C.2.1 hd hv (k p e s0 m args below meth c H locs ls C hW hS hl)
theorem a_ldc {idx : Nat} {v : Int32} (hc : Cond.constant (mO M) idx v ∈ gtab) (hd : decode (mC M) pc = .ok (.ldc idx, 2)) (k : AQ Z l M Qc kc ks (pc + 2) lv (.int v :: st) s) : AQ Z l M Qc kc ks pc lv st s :=
  fun p e s0 m args below meth c H locs ls C hW hS hl => lv_ldc C.1 C.2.1 C.2.2.2.1 (C.2.2.2.2.1 _ hc) hd (k p e s0 m args below meth c H locs ls C hW hS hl)
theorem a_ldc2 {idx : Nat} {v : Int64} (hc : Cond.constantLong (mO M) idx v ∈ gtab) (hd : decode (mC M) pc = .ok (.ldc2_w idx, 3)) (k : AQ Z l M Qc kc ks (pc + 3) lv (.long v :: st) s) : AQ Z l M Qc kc ks pc lv st s :=
  fun p e s0 m args below meth c H locs ls C hW hS hl => lv_ldc2 C.1 C.2.1 C.2.2.2.1 (C.2.2.2.2.1 _ hc) hd (k p e s0 m args below meth c H locs ls C hW hS hl)
theorem a_iload_n {n : Fin 4} {i : Nat} {x : Int32} (hd : decode (mC M) pc = .ok (.iload_n n, 1)) (q : Nat) (hi : (n : Nat) = i) (hq : lv[q]? = some (i, .int x)) (k : AQ Z l M Qc kc ks (pc + 1) lv (.int x :: st) s) : AQ Z l M Qc kc ks pc lv st s :=
  fun p e s0 m args below meth c H locs ls C hW hS hl => lv_iload_n C.1 C.2.1 hd hi (lv_at hl q hq) (k p e s0 m args below meth c H locs ls C hW hS hl)
theorem a_iload {i : Nat} {x : Int32} (hd : decode (mC M) pc = .ok (.iload i, 2)) (q : Nat) (hq : lv[q]? = some (i, .int x)) (k : AQ Z l M Qc kc ks (pc + 2) lv (.int x :: st) s) : AQ Z l M Qc kc ks pc lv st s :=
  fun p e s0 m args below meth c H locs ls C hW hS hl => lv_iload C.1 C.2.1 hd (lv_at hl q hq) (k p e s0 m args below meth c H locs ls C hW hS hl)
theorem a_lload_n {n : Fin 4} {i : Nat} {x : Int64} (hd : decode (mC M) pc = .ok (.lload_n n, 1)) (q : Nat) (hi : (n : Nat) = i) (hq : lv[q]? = some (i, .long x)) (k : AQ Z l M Qc kc ks (pc + 1) lv (.long x :: st) s) : AQ Z l M Qc kc ks pc lv st s :=
  fun p e s0 m args below meth c H locs ls C hW hS hl => lv_lload_n C.1 C.2.1 hd hi (lv_at hl q hq) (k p e s0 m args below meth c H locs ls C hW hS hl)
theorem a_lload {i : Nat} {x : Int64} (hd : decode (mC M) pc = .ok (.lload i, 2)) (q : Nat) (hq : lv[q]? = some (i, .long x)) (k : AQ Z l M Qc kc ks (pc + 2) lv (.long x :: st) s) : AQ Z l M Qc kc ks pc lv st s :=
  fun p e s0 m args below meth c H locs ls C hW hS hl => lv_lload C.1 C.2.1 hd (lv_at hl q hq) (k p e s0 m args below meth c H locs ls C hW hS hl)
theorem a_aload_n {n : Fin 4} {i : Nat} {x : Nat} (hd : decode (mC M) pc = .ok (.aload_n n, 1)) (q : Nat) (hi : (n : Nat) = i) (hq : lv[q]? = some (i, .ref x)) (k : AQ Z l M Qc kc ks (pc + 1) lv (.ref x :: st) s) : AQ Z l M Qc kc ks pc lv st s :=
  fun p e s0 m args below meth c H locs ls C hW hS hl => lv_aload_n C.1 C.2.1 hd hi (lv_at hl q hq) (k p e s0 m args below meth c H locs ls C hW hS hl)
theorem a_aload {i : Nat} {x : Nat} (hd : decode (mC M) pc = .ok (.aload i, 2)) (q : Nat) (hq : lv[q]? = some (i, .ref x)) (k : AQ Z l M Qc kc ks (pc + 2) lv (.ref x :: st) s) : AQ Z l M Qc kc ks pc lv st s :=
  fun p e s0 m args below meth c H locs ls C hW hS hl => lv_aload C.1 C.2.1 hd (lv_at hl q hq) (k p e s0 m args below meth c H locs ls C hW hS hl)
theorem a_istore_n {n : Fin 4} {i : Nat} {x : Int32} (lv' : List (Nat × Value)) (hd : decode (mC M) pc = .ok (.istore_n n, 1)) (hi : (n : Nat) = i) (hn : i < mL M) (hl' : (i, Value.int x) :: lv.filter (fun q => !(q.1 == i) && !(q.1 + 1 == i && q.2.category == 2)) = lv') (k : AQ Z l M Qc kc ks (pc + 1) lv' st s) : AQ Z l M Qc kc ks pc lv (.int x :: st) s :=
  fun p e s0 m args below meth c H locs ls C hW hS hl => lv_istore_n C.1 C.2.1 hd hi hl hn hl' (fun ls' h' => k p e s0 m args below meth c H locs ls' C hW hS h')
theorem a_istore {i : Nat} {x : Int32} (lv' : List (Nat × Value)) (hd : decode (mC M) pc = .ok (.istore i, 2)) (hn : i < mL M) (hl' : (i, Value.int x) :: lv.filter (fun q => !(q.1 == i) && !(q.1 + 1 == i && q.2.category == 2)) = lv') (k : AQ Z l M Qc kc ks (pc + 2) lv' st s) : AQ Z l M Qc kc ks pc lv (.int x :: st) s :=
  fun p e s0 m args below meth c H locs ls C hW hS hl => lv_istore C.1 C.2.1 hd hl hn hl' (fun ls' h' => k p e s0 m args below meth c H locs ls' C hW hS h')
theorem a_lstore_n {n : Fin 4} {i : Nat} {x : Int64} (lv' : List (Nat × Value)) (hd : decode (mC M) pc = .ok (.lstore_n n, 1)) (hi : (n : Nat) = i) (hn : i + 1 < mL M) (hl' : (i, Value.long x) :: lv.filter (fun q => !(q.1 == i) && (!(q.1 == i + 1) && !(q.1 + 1 == i && q.2.category == 2))) = lv') (k : AQ Z l M Qc kc ks (pc + 1) lv' st s) : AQ Z l M Qc kc ks pc lv (.long x :: st) s :=
  fun p e s0 m args below meth c H locs ls C hW hS hl => lv_lstore_n C.1 C.2.1 hd hi hl hn hl' (fun ls' h' => k p e s0 m args below meth c H locs ls' C hW hS h')
theorem a_astore_n {n : Fin 4} {i : Nat} {x : Nat} (lv' : List (Nat × Value)) (hd : decode (mC M) pc = .ok (.astore_n n, 1)) (hi : (n : Nat) = i) (hn : i < mL M) (hl' : (i, Value.ref x) :: lv.filter (fun q => !(q.1 == i) && !(q.1 + 1 == i && q.2.category == 2)) = lv') (k : AQ Z l M Qc kc ks (pc + 1) lv' st s) : AQ Z l M Qc kc ks pc lv (.ref x :: st) s :=
  fun p e s0 m args below meth c H locs ls C hW hS hl => lv_astore_n C.1 C.2.1 hd hi hl hn hl' (fun ls' h' => k p e s0 m args below meth c H locs ls' C hW hS h')
theorem a_astore {i : Nat} {x : Nat} (lv' : List (Nat × Value)) (hd : decode (mC M) pc = .ok (.astore i, 2)) (hn : i < mL M) (hl' : (i, Value.ref x) :: lv.filter (fun q => !(q.1 == i) && !(q.1 + 1 == i && q.2.category == 2)) = lv') (k : AQ Z l M Qc kc ks (pc + 2) lv' st s) : AQ Z l M Qc kc ks pc lv (.ref x :: st) s :=
  fun p e s0 m args below meth c H locs ls C hW hS hl => lv_astore C.1 C.2.1 hd hl hn hl' (fun ls' h' => k p e s0 m args below meth c H locs ls' C hW hS h')
theorem a_iinc {i : Nat} {n : Int} {x v : Int32} (lv' : List (Nat × Value)) (hd : decode (mC M) pc = .ok (.iinc i n, 3)) (q : Nat) (hq : lv[q]? = some (i, .int x)) (hv : x + Int32.ofInt n = v) (hn : i < mL M) (hl' : (i, Value.int v) :: lv.filter (fun q => !(q.1 == i) && !(q.1 + 1 == i && q.2.category == 2)) = lv') (k : AQ Z l M Qc kc ks (pc + 3) lv' st s) : AQ Z l M Qc kc ks pc lv st s :=
  fun p e s0 m args below meth c H locs ls C hW hS hl => lv_iinc C.1 C.2.1 hd hl hq hv hn hl' (fun ls' h' => k p e s0 m args below meth c H locs ls' C hW hS h')
/-- the locals in another order, or fewer of them -/
theorem a_loc (lv' : List (Nat × Value)) (qs : List Nat) (h : lv_pick lv qs = lv') (k : AQ Z l M Qc kc ks pc lv' st s) : AQ Z l M Qc kc ks pc lv st s :=
  fun p e s0 m args below meth c H locs ls C hW hS hl => k p e s0 m args below meth c H locs ls C hW hS (lv_sub hl qs h)
theorem a_eq {st' : List Value} {s' : St} (h1 : st = st') (h2 : s = s') (k : AQ Z l M Qc kc ks pc lv st' s') : AQ Z l M Qc kc ks pc lv st s := by
  subst h1
  subst h2
  exact k
theorem a_iadd {x y : Int32} (hd : decode (mC M) pc = .ok (.iadd, 1))  (k : AQ Z l M Qc kc ks (pc + 1) lv (.int (x + y) :: st) s) : AQ Z l M Qc kc ks pc lv (.int y :: .int x :: st) s :=
  fun p e s0 m args below meth c H locs ls C hW hS hl => lv_iadd C.1 C.2.1 hd  (k p e s0 m args below meth c H locs ls C hW hS hl)
theorem a_isub {x y : Int32} (hd : decode (mC M) pc = .ok (.isub, 1))  (k : AQ Z l M Qc kc ks (pc + 1) lv (.int (x - y) :: st) s) : AQ Z l M Qc kc ks pc lv (.int y :: .int x :: st) s :=
  fun p e s0 m args below meth c H locs ls C hW hS hl => lv_isub C.1 C.2.1 hd  (k p e s0 m args below meth c H locs ls C hW hS hl)
theorem a_imul {x y : Int32} (hd : decode (mC M) pc = .ok (.imul, 1))  (k : AQ Z l M Qc kc ks (pc + 1) lv (.int (x * y) :: st) s) : AQ Z l M Qc kc ks pc lv (.int y :: .int x :: st) s :=
  fun p e s0 m args below meth c H locs ls C hW hS hl => lv_imul C.1 C.2.1 hd  (k p e s0 m args below meth c H locs ls C hW hS hl)
theorem a_iand {x y : Int32} (hd : decode (mC M) pc = .ok (.iand, 1))  (k : AQ Z l M Qc kc ks (pc + 1) lv (.int (x &&& y) :: st) s) : AQ Z l M Qc kc ks pc lv (.int y :: .int x :: st) s :=
  fun p e s0 m args below meth c H locs ls C hW hS hl => lv_iand C.1 C.2.1 hd  (k p e s0 m args below meth c H locs ls C hW hS hl)
theorem a_ior {x y : Int32} (hd : decode (mC M) pc = .ok (.ior, 1))  (k : AQ Z l M Qc kc ks (pc + 1) lv (.int (x ||| y) :: st) s) : AQ Z l M Qc kc ks pc lv (.int y :: .int x :: st) s :=
  fun p e s0 m args below meth c H locs ls C hW hS hl => lv_ior C.1 C.2.1 hd  (k p e s0 m args below meth c H locs ls C hW hS hl)
theorem a_ixor {x y : Int32} (hd : decode (mC M) pc = .ok (.ixor, 1))  (k : AQ Z l M Qc kc ks (pc + 1) lv (.int (x ^^^ y) :: st) s) : AQ Z l M Qc kc ks pc lv (.int y :: .int x :: st) s :=
  fun p e s0 m args below meth c H locs ls C hW hS hl => lv_ixor C.1 C.2.1 hd  (k p e s0 m args below meth c H locs ls C hW hS hl)
theorem a_ishl {x y : Int32} (hd : decode (mC M) pc = .ok (.ishl, 1))  (k : AQ Z l M Qc kc ks (pc + 1) lv (.int (x <<< (y &&& 31)) :: st) s) : AQ Z l M Qc kc ks pc lv (.int y :: .int x :: st) s :=
  fun p e s0 m args below meth c H locs ls C hW hS hl => lv_ishl C.1 C.2.1 hd  (k p e s0 m args below meth c H locs ls C hW hS hl)
theorem a_ishr {x y : Int32} (hd : decode (mC M) pc = .ok (.ishr, 1))  (k : AQ Z l M Qc kc ks (pc + 1) lv (.int (x >>> (y &&& 31)) :: st) s) : AQ Z l M Qc kc ks pc lv (.int y :: .int x :: st) s :=
  fun p e s0 m args below meth c H locs ls C hW hS hl => lv_ishr C.1 C.2.1 hd  (k p e s0 m args below meth c H locs ls C hW hS hl)
theorem a_idiv {x y : Int32} (hd : decode (mC M) pc = .ok (.idiv, 1)) (hne : ¬ y = 0) (k : AQ Z l M Qc kc ks (pc + 1) lv (.int (x / y) :: st) s) : AQ Z l M Qc kc ks pc lv (.int y :: .int x :: st) s :=
  fun p e s0 m args below meth c H locs ls C hW hS hl => lv_idiv C.1 C.2.1 hd hne (k p e s0 m args below meth c H locs ls C hW hS hl)
theorem a_irem {x y : Int32} (hd : decode (mC M) pc = .ok (.irem, 1)) (hne : ¬ y = 0) (k : AQ Z l M Qc kc ks (pc + 1) lv (.int (x - x / y * y) :: st) s) : AQ Z l M Qc kc ks pc lv (.int y :: .int x :: st) s :=
  fun p e s0 m args below meth c H locs ls C hW hS hl => lv_irem C.1 C.2.1 hd hne (k p e s0 m args below meth c H locs ls C hW hS hl)
theorem a_ladd {x y : Int64} (hd : decode (mC M) pc = .ok (.ladd, 1))  (k : AQ Z l M Qc kc ks (pc + 1) lv (.long (x + y) :: st) s) : AQ Z l M Qc kc ks pc lv (.long y :: .long x :: st) s :=
  fun p e s0 m args below meth c H locs ls C hW hS hl => lv_ladd C.1 C.2.1 hd  (k p e s0 m args below meth c H locs ls C hW hS hl)
theorem a_lsub {x y : Int64} (hd : decode (mC M) pc = .ok (.lsub, 1))  (k : AQ Z l M Qc kc ks (pc + 1) lv (.long (x - y) :: st) s) : AQ Z l M Qc kc ks pc lv (.long y :: .long x :: st) s :=
  fun p e s0 m args below meth c H locs ls C hW hS hl => lv_lsub C.1 C.2.1 hd  (k p e s0 m args below meth c H locs ls C hW hS hl)
theorem a_lmul {x y : Int64} (hd : decode (mC M) pc = .ok (.lmul, 1))  (k : AQ Z l M Qc kc ks (pc + 1) lv (.long (x * y) :: st) s) : AQ Z l M Qc kc ks pc lv (.long y :: .long x :: st) s :=
  fun p e s0 m args below meth c H locs ls C hW hS hl => lv_lmul C.1 C.2.1 hd  (k p e s0 m args below meth c H locs ls C hW hS hl)
theorem a_land {x y : Int64} (hd : decode (mC M) pc = .ok (.land, 1))  (k : AQ Z l M Qc kc ks (pc + 1) lv (.long (x &&& y) :: st) s) : AQ Z l M Qc kc ks pc lv (.long y :: .long x :: st) s :=
  fun p e s0 m args below meth c H locs ls C hW hS hl => lv_land C.1 C.2.1 hd  (k p e s0 m args below meth c H locs ls C hW hS hl)
theorem a_lor {x y : Int64} (hd : decode (mC M) pc = .ok (.lor, 1))  (k : AQ Z l M Qc kc ks (pc + 1) lv (.long (x ||| y) :: st) s) : AQ Z l M Qc kc ks pc lv (.long y :: .long x :: st) s :=
  fun p e s0 m args below meth c H locs ls C hW hS hl => lv_lor C.1 C.2.1 hd  (k p e s0 m args below meth c H locs ls C hW hS hl)
theorem a_ineg {x : Int32} (hd : decode (mC M) pc = .ok (.ineg, 1))  (k : AQ Z l M Qc kc ks (pc + 1) lv (.int (-x) :: st) s) : AQ Z l M Qc kc ks pc lv (.int x :: st) s :=
  fun p e s0 m args below meth c H locs ls C hW hS hl => lv_ineg C.1 C.2.1 hd  (k p e s0 m args below meth c H locs ls C hW hS hl)
theorem a_lneg {x : Int64} (hd : decode (mC M) pc = .ok (.lneg, 1))  (k : AQ Z l M Qc kc ks (pc + 1) lv (.long (-x) :: st) s) : AQ Z l M Qc kc ks pc lv (.long x :: st) s :=
  fun p e s0 m args below meth c H locs ls C hW hS hl => lv_lneg C.1 C.2.1 hd  (k p e s0 m args below meth c H locs ls C hW hS hl)
theorem a_lcmp {x y : Int64} (hd : decode (mC M) pc = .ok (.lcmp, 1))  (k : AQ Z l M Qc kc ks (pc + 1) lv (.int (lg_cmp x y) :: st) s) : AQ Z l M Qc kc ks pc lv (.long y :: .long x :: st) s :=
  fun p e s0 m args below meth c H locs ls C hW hS hl => W.lcmp C.1 C.2.1 hd  (k p e s0 m args below meth c H locs ls C hW hS hl)
theorem a_i2l {x : Int32} (hd : decode (mC M) pc = .ok (.i2l, 1))  (k : AQ Z l M Qc kc ks (pc + 1) lv (.long x.toInt64 :: st) s) : AQ Z l M Qc kc ks pc lv (.int x :: st) s :=
  fun p e s0 m args below meth c H locs ls C hW hS hl => lv_i2l C.1 C.2.1 hd rfl (k p e s0 m args below meth c H locs ls C hW hS hl)
theorem a_l2i {x : Int64} (hd : decode (mC M) pc = .ok (.l2i, 1))  (k : AQ Z l M Qc kc ks (pc + 1) lv (.int x.toInt32 :: st) s) : AQ Z l M Qc kc ks pc lv (.long x :: st) s :=
  fun p e s0 m args below meth c H locs ls C hW hS hl => lv_l2i C.1 C.2.1 hd rfl (k p e s0 m args below meth c H locs ls C hW hS hl)
theorem a_i2b {x : Int32} (hd : decode (mC M) pc = .ok (.i2b, 1))  (k : AQ Z l M Qc kc ks (pc + 1) lv (.int x.toInt8.toInt32 :: st) s) : AQ Z l M Qc kc ks pc lv (.int x :: st) s :=
  fun p e s0 m args below meth c H locs ls C hW hS hl => lv_i2b C.1 C.2.1 hd rfl (k p e s0 m args below meth c H locs ls C hW hS hl)
theorem a_i2s {x : Int32} (hd : decode (mC M) pc = .ok (.i2s, 1))  (k : AQ Z l M Qc kc ks (pc + 1) lv (.int x.toInt16.toInt32 :: st) s) : AQ Z l M Qc kc ks pc lv (.int x :: st) s :=
  fun p e s0 m args below meth c H locs ls C hW hS hl => lv_i2s C.1 C.2.1 hd rfl (k p e s0 m args below meth c H locs ls C hW hS hl)
theorem a_lshl {x : Int64} {y : Int32} (hd : decode (mC M) pc = .ok (.lshl, 1))  (k : AQ Z l M Qc kc ks (pc + 1) lv (.long (x <<< (y.toInt64 &&& 63)) :: st) s) : AQ Z l M Qc kc ks pc lv (.int y :: .long x :: st) s :=
  fun p e s0 m args below meth c H locs ls C hW hS hl => lv_lshl C.1 C.2.1 hd rfl (k p e s0 m args below meth c H locs ls C hW hS hl)
theorem a_lshr {x : Int64} {y : Int32} (hd : decode (mC M) pc = .ok (.lshr, 1))  (k : AQ Z l M Qc kc ks (pc + 1) lv (.long (x >>> (y.toInt64 &&& 63)) :: st) s) : AQ Z l M Qc kc ks pc lv (.int y :: .long x :: st) s :=
  fun p e s0 m args below meth c H locs ls C hW hS hl => lv_lshr C.1 C.2.1 hd rfl (k p e s0 m args below meth c H locs ls C hW hS hl)
theorem a_dup {va : Value} (hd : decode (mC M) pc = .ok (.dup, 1)) (h1 : va.category = 1) (k : AQ Z l M Qc kc ks (pc + 1) lv (va :: va :: st) s) : AQ Z l M Qc kc ks pc lv (va :: st) s :=
  fun p e s0 m args below meth c H locs ls C hW hS hl => lv_dup C.1 C.2.1 hd h1 (k p e s0 m args below meth c H locs ls C hW hS hl)
theorem a_pop {va : Value} (hd : decode (mC M) pc = .ok (.pop, 1)) (h1 : va.category = 1) (k : AQ Z l M Qc kc ks (pc + 1) lv (st) s) : AQ Z l M Qc kc ks pc lv (va :: st) s :=
  fun p e s0 m args below meth c H locs ls C hW hS hl => lv_pop C.1 C.2.1 hd h1 (k p e s0 m args below meth c H locs ls C hW hS hl)
theorem a_dup_x1 {va vb : Value} (hd : decode (mC M) pc = .ok (.dup_x1, 1)) (h1 : va.category = 1) (h2 : vb.category = 1) (k : AQ Z l M Qc kc ks (pc + 1) lv (va :: vb :: va :: st) s) : AQ Z l M Qc kc ks pc lv (va :: vb :: st) s :=
  fun p e s0 m args below meth c H locs ls C hW hS hl => lv_dup_x1 C.1 C.2.1 hd h1 h2 (k p e s0 m args below meth c H locs ls C hW hS hl)
theorem a_dup_x2 {va vb vd : Value} (hd : decode (mC M) pc = .ok (.dup_x2, 1)) (h1 : va.category = 1) (h2 : vb.category = 1) (h3 : vd.category = 1) (k : AQ Z l M Qc kc ks (pc + 1) lv (va :: vb :: vd :: va :: st) s) : AQ Z l M Qc kc ks pc lv (va :: vb :: vd :: st) s :=
  fun p e s0 m args below meth c H locs ls C hW hS hl => lv_dup_x2 C.1 C.2.1 hd h1 h2 h3 (k p e s0 m args below meth c H locs ls C hW hS hl)
theorem a_dup2 {va vb : Value} (hd : decode (mC M) pc = .ok (.dup2, 1)) (h1 : va.category = 1) (h2 : vb.category = 1) (k : AQ Z l M Qc kc ks (pc + 1) lv (va :: vb :: va :: vb :: st) s) : AQ Z l M Qc kc ks pc lv (va :: vb :: st) s :=
  fun p e s0 m args below meth c H locs ls C hW hS hl => lv_dup2_11 C.1 C.2.1 hd h1 h2 (k p e s0 m args below meth c H locs ls C hW hS hl)
theorem a_goto {off : Int} (tgt : Nat) (hd : decode (mC M) pc = .ok (.goto off, 3)) (ht : (pc : Int) + off = (tgt : Int)) (k : AQ Z l M Qc kc ks tgt lv st s) : AQ Z l M Qc kc ks pc lv st s :=
  fun p e s0 m args below meth c H locs ls C hW hS hl => lv_goto C.1 C.2.1 hd ht (k p e s0 m args below meth c H locs ls C hW hS hl)
theorem a_if_eq {x : Int32} {off : Int} (tgt : Nat) (hd : decode (mC M) pc = .ok (.ifCond .eq off, 3)) (ht : (pc : Int) + off = (tgt : Int)) (kt : x = 0 → AQ Z l M Qc kc ks tgt lv st s) (kf : ¬ x = 0 → AQ Z l M Qc kc ks (pc + 3) lv st s) : AQ Z l M Qc kc ks pc lv (.int x :: st) s :=
  fun p e s0 m args below meth c H locs ls C hW hS hl => lv_if_eq C.1 C.2.1 hd ht (fun q => kt q p e s0 m args below meth c H locs ls C hW hS hl) (fun q => kf q p e s0 m args below meth c H locs ls C hW hS hl)
theorem a_if_ne {x : Int32} {off : Int} (tgt : Nat) (hd : decode (mC M) pc = .ok (.ifCond .ne off, 3)) (ht : (pc : Int) + off = (tgt : Int)) (kt : ¬ x = 0 → AQ Z l M Qc kc ks tgt lv st s) (kf : x = 0 → AQ Z l M Qc kc ks (pc + 3) lv st s) : AQ Z l M Qc kc ks pc lv (.int x :: st) s :=
  fun p e s0 m args below meth c H locs ls C hW hS hl => lv_if_ne C.1 C.2.1 hd ht (fun q => kt q p e s0 m args below meth c H locs ls C hW hS hl) (fun q => kf q p e s0 m args below meth c H locs ls C hW hS hl)
theorem a_if_lt {x : Int32} {off : Int} (tgt : Nat) (hd : decode (mC M) pc = .ok (.ifCond .lt off, 3)) (ht : (pc : Int) + off = (tgt : Int)) (kt : x < 0 → AQ Z l M Qc kc ks tgt lv st s) (kf : ¬ x < 0 → AQ Z l M Qc kc ks (pc + 3) lv st s) : AQ Z l M Qc kc ks pc lv (.int x :: st) s :=
  fun p e s0 m args below meth c H locs ls C hW hS hl => lv_if_lt C.1 C.2.1 hd ht (fun q => kt q p e s0 m args below meth c H locs ls C hW hS hl) (fun q => kf q p e s0 m args below meth c H locs ls C hW hS hl)
theorem a_if_ge {x : Int32} {off : Int} (tgt : Nat) (hd : decode (mC M) pc = .ok (.ifCond .ge off, 3)) (ht : (pc : Int) + off = (tgt : Int)) (kt : 0 ≤ x → AQ Z l M Qc kc ks tgt lv st s) (kf : ¬ 0 ≤ x → AQ Z l M Qc kc ks (pc + 3) lv st s) : AQ Z l M Qc kc ks pc lv (.int x :: st) s :=
  fun p e s0 m args below meth c H locs ls C hW hS hl => lv_if_ge C.1 C.2.1 hd ht (fun q => kt q p e s0 m args below meth c H locs ls C hW hS hl) (fun q => kf q p e s0 m args below meth c H locs ls C hW hS hl)
theorem a_if_gt {x : Int32} {off : Int} (tgt : Nat) (hd : decode (mC M) pc = .ok (.ifCond .gt off, 3)) (ht : (pc : Int) + off = (tgt : Int)) (kt : 0 < x → AQ Z l M Qc kc ks tgt lv st s) (kf : ¬ 0 < x → AQ Z l M Qc kc ks (pc + 3) lv st s) : AQ Z l M Qc kc ks pc lv (.int x :: st) s :=
  fun p e s0 m args below meth c H locs ls C hW hS hl => lv_if_gt C.1 C.2.1 hd ht (fun q => kt q p e s0 m args below meth c H locs ls C hW hS hl) (fun q => kf q p e s0 m args below meth c H locs ls C hW hS hl)
theorem a_if_le {x : Int32} {off : Int} (tgt : Nat) (hd : decode (mC M) pc = .ok (.ifCond .le off, 3)) (ht : (pc : Int) + off = (tgt : Int)) (kt : x ≤ 0 → AQ Z l M Qc kc ks tgt lv st s) (kf : ¬ x ≤ 0 → AQ Z l M Qc kc ks (pc + 3) lv st s) : AQ Z l M Qc kc ks pc lv (.int x :: st) s :=
  fun p e s0 m args below meth c H locs ls C hW hS hl => lv_if_le C.1 C.2.1 hd ht (fun q => kt q p e s0 m args below meth c H locs ls C hW hS hl) (fun q => kf q p e s0 m args below meth c H locs ls C hW hS hl)
theorem a_icmp_eq {x y : Int32} {off : Int} (tgt : Nat) (hd : decode (mC M) pc = .ok (.if_icmp .eq off, 3)) (ht : (pc : Int) + off = (tgt : Int)) (kt : x = y → AQ Z l M Qc kc ks tgt lv st s) (kf : ¬ x = y → AQ Z l M Qc kc ks (pc + 3) lv st s) : AQ Z l M Qc kc ks pc lv (.int y :: .int x :: st) s :=
  fun p e s0 m args below meth c H locs ls C hW hS hl => lv_icmp_eq C.1 C.2.1 hd ht (fun q => kt q p e s0 m args below meth c H locs ls C hW hS hl) (fun q => kf q p e s0 m args below meth c H locs ls C hW hS hl)
theorem a_icmp_ne {x y : Int32} {off : Int} (tgt : Nat) (hd : decode (mC M) pc = .ok (.if_icmp .ne off, 3)) (ht : (pc : Int) + off = (tgt : Int)) (kt : ¬ x = y → AQ Z l M Qc kc ks tgt lv st s) (kf : x = y → AQ Z l M Qc kc ks (pc + 3) lv st s) : AQ Z l M Qc kc ks pc lv (.int y :: .int x :: st) s :=
  fun p e s0 m args below meth c H locs ls C hW hS hl => lv_icmp_ne C.1 C.2.1 hd ht (fun q => kt q p e s0 m args below meth c H locs ls C hW hS hl) (fun q => kf q p e s0 m args below meth c H locs ls C hW hS hl)
theorem a_icmp_lt {x y : Int32} {off : Int} (tgt : Nat) (hd : decode (mC M) pc = .ok (.if_icmp .lt off, 3)) (ht : (pc : Int) + off = (tgt : Int)) (kt : x < y → AQ Z l M Qc kc ks tgt lv st s) (kf : ¬ x < y → AQ Z l M Qc kc ks (pc + 3) lv st s) : AQ Z l M Qc kc ks pc lv (.int y :: .int x :: st) s :=
  fun p e s0 m args below meth c H locs ls C hW hS hl => lv_icmp_lt C.1 C.2.1 hd ht (fun q => kt q p e s0 m args below meth c H locs ls C hW hS hl) (fun q => kf q p e s0 m args below meth c H locs ls C hW hS hl)
theorem a_icmp_ge {x y : Int32} {off : Int} (tgt : Nat) (hd : decode (mC M) pc = .ok (.if_icmp .ge off, 3)) (ht : (pc : Int) + off = (tgt : Int)) (kt : y ≤ x → AQ Z l M Qc kc ks tgt lv st s) (kf : ¬ y ≤ x → AQ Z l M Qc kc ks (pc + 3) lv st s) : AQ Z l M Qc kc ks pc lv (.int y :: .int x :: st) s :=
  fun p e s0 m args below meth c H locs ls C hW hS hl => lv_icmp_ge C.1 C.2.1 hd ht (fun q => kt q p e s0 m args below meth c H locs ls C hW hS hl) (fun q => kf q p e s0 m args below meth c H locs ls C hW hS hl)
theorem a_icmp_gt {x y : Int32} {off : Int} (tgt : Nat) (hd : decode (mC M) pc = .ok (.if_icmp .gt off, 3)) (ht : (pc : Int) + off = (tgt : Int)) (kt : y < x → AQ Z l M Qc kc ks tgt lv st s) (kf : ¬ y < x → AQ Z l M Qc kc ks (pc + 3) lv st s) : AQ Z l M Qc kc ks pc lv (.int y :: .int x :: st) s :=
  fun p e s0 m args below meth c H locs ls C hW hS hl => lv_icmp_gt C.1 C.2.1 hd ht (fun q => kt q p e s0 m args below meth c H locs ls C hW hS hl) (fun q => kf q p e s0 m args below meth c H locs ls C hW hS hl)
theorem a_icmp_le {x y : Int32} {off : Int} (tgt : Nat) (hd : decode (mC M) pc = .ok (.if_icmp .le off, 3)) (ht : (pc : Int) + off = (tgt : Int)) (kt : x ≤ y → AQ Z l M Qc kc ks tgt lv st s) (kf : ¬ x ≤ y → AQ Z l M Qc kc ks (pc + 3) lv st s) : AQ Z l M Qc kc ks pc lv (.int y :: .int x :: st) s :=
  fun p e s0 m args below meth c H locs ls C hW hS hl => lv_icmp_le C.1 C.2.1 hd ht (fun q => kt q p e s0 m args below meth c H locs ls C hW hS hl) (fun q => kf q p e s0 m args below meth c H locs ls C hW hS hl)
theorem a_tableOut {dflt lo hi : Int} {offs : Array Int} {len : Nat} {x : Int32} (tgt : Nat) (hd : decode (mC M) pc = .ok (.tableswitch dflt lo hi offs, len)) (h : x.toInt < lo ∨ hi < x.toInt) (ht : (pc : Int) + dflt = (tgt : Int)) (k : AQ Z l M Qc kc ks tgt lv st s) : AQ Z l M Qc kc ks pc lv (.int x :: st) s :=
  fun p e s0 m args below meth c H locs ls C hW hS hl => lv_tableOut C.1 C.2.1 hd h ht (k p e s0 m args below meth c H locs ls C hW hS hl)
theorem a_tableIn {dflt lo hi : Int} {offs : Array Int} {len : Nat} {x : Int32} {off : Int} (tgt : Nat) (hd : decode (mC M) pc = .ok (.tableswitch dflt lo hi offs, len)) (h1 : ¬ x.toInt < lo) (h2 : ¬ hi < x.toInt) (ho : offs[(x.toInt - lo).toNat]? = some off) (ht : (pc : Int) + off = (tgt : Int)) (k : AQ Z l M Qc kc ks tgt lv st s) : AQ Z l M Qc kc ks pc lv (.int x :: st) s :=
  fun p e s0 m args below meth c H locs ls C hW hS hl => lv_tableIn C.1 C.2.1 hd h1 h2 ho ht (k p e s0 m args below meth c H locs ls C hW hS hl)
theorem a_iret {v : Int32} (hr : mT M = some .int) (h1 : kc ≤ mK M) (h2 : ks ≤ mN M) (hd : decode (mC M) pc = .ok (.ireturn, 1)) (hp : Post (some (.int v)) s) : AW Z l M Post kc ks pc lv [.int v] s :=
  fun p e s0 m args below meth c H locs ls C hW hS hl => by
    have hlocks : meth.locks = false := C.2.2.2.2.2.2.1
    exact W.widen h1 h2 (W.iret C.1 C.2.1 (C.2.2.2.2.2.1.trans hr) (fun t ht _ => ⟨_, s, rfl, hp, by rw [ht]; exact hW, hS.F ht⟩) hS.2.2 hd)
theorem a_zret {v : Int32} (hr : mT M = some .boolean) (hv : narrow .boolean (.int v) = .int v) (h1 : kc ≤ mK M) (h2 : ks ≤ mN M) (hd : decode (mC M) pc = .ok (.ireturn, 1)) (hp : Post (some (.int v)) s) : AW Z l M Post kc ks pc lv [.int v] s :=
  fun p e s0 m args below meth c H locs ls C hW hS hl => by
    have hlocks : meth.locks = false := C.2.2.2.2.2.2.1
    exact W.widen h1 h2 (W.zret C.1 C.2.1 (C.2.2.2.2.2.1.trans hr) hv (fun t ht _ => ⟨_, s, rfl, hp, by rw [ht]; exact hW, hS.F ht⟩) hS.2.2 hd)
theorem a_nret {v : Int32} {ty : FieldType} (hr : mT M = some ty) (hv : narrow ty (.int v) = .int v) (h1 : kc ≤ mK M) (h2 : ks ≤ mN M) (hd : decode (mC M) pc = .ok (.ireturn, 1)) (hp : Post (some (.int v)) s) : AW Z l M Post kc ks pc lv [.int v] s :=
  fun p e s0 m args below meth c H locs ls C hW hS hl => by
    have hlocks : meth.locks = false := C.2.2.2.2.2.2.1
    exact W.widen h1 h2 (W.zret C.1 C.2.1 (C.2.2.2.2.2.1.trans hr) hv (fun t ht _ => ⟨_, s, rfl, hp, by rw [ht]; exact hW, hS.F ht⟩) hS.2.2 hd)
theorem a_i2c {x : Int32} (hd : decode (mC M) pc = .ok (.i2c, 1)) (k : AQ Z l M Qc kc ks (pc + 1) lv (.int (x.toUInt32 % 65536).toInt32 :: st) s) : AQ Z l M Qc kc ks pc lv (.int x :: st) s :=
  fun p e s0 m args below meth c H locs ls C hW hS hl => lv_i2c C.1 C.2.1 hd rfl (k p e s0 m args below meth c H locs ls C hW hS hl)
theorem a_lret {v : Int64} (hr : mT M = some .long) (h1 : kc ≤ mK M) (h2 : ks ≤ mN M) (hd : decode (mC M) pc = .ok (.lreturn, 1)) (hp : Post (some (.long v)) s) : AW Z l M Post kc ks pc lv [.long v] s :=
  fun p e s0 m args below meth c H locs ls C hW hS hl => by
    have hlocks : meth.locks = false := C.2.2.2.2.2.2.1
    exact W.widen h1 h2 (W.lret C.1 C.2.1 (C.2.2.2.2.2.1.trans hr) (fun t ht _ => ⟨_, s, rfl, hp, by rw [ht]; exact hW, hS.F ht⟩) hS.2.2 hd)
theorem a_vret (hr : mT M = none) (h1 : kc ≤ mK M) (h2 : ks ≤ mN M) (hd : decode (mC M) pc = .ok (.return_, 1)) (hp : Post none s) : AW Z l M Post kc ks pc lv [] s :=
  fun p e s0 m args below meth c H locs ls C hW hS hl => by
    have hlocks : meth.locks = false := C.2.2.2.2.2.2.1
    exact W.widen h1 h2 (W.vret C.1 C.2.1 (C.2.2.2.2.2.1.trans hr) (fun t ht _ => ⟨_, s, rfl, hp, by rw [ht]; exact hW, hS.F ht⟩) hS.2.2 hd)
theorem one_at {D : va_G} {q : Nat × va_E} {H : Heap} (h : va_at D vwCl q H) : va_P D vwCl [q] H := fun k x hx => by
  have h0 : k < 1 := (List.getElem?_eq_some_iff.mp hx).1
  rw [show k = 0 by omega] at hx
  cases hx
  exact h
/-- a field, as the constant pool of the class 'own' names it at idx: place j of an object of sort t -/
def FL (own : String) (idx t j : Nat) (ty : FieldType) (fin : Bool) : Prop := ∃ (ci n : Nat) (C : String) (T : u_T) (ty0 : Nat → FieldType), shO t = some (ci, n) ∧ j < n ∧ vwCl[ci]? = some (C, T, n) ∧ (∀ w ∈ u_ws C T n, w ∈ gtab) ∧ Cond.fieldLink own idx (T j).1 (T j).2.1 (T j).2.2.1 ∈ gtab ∧
  (∀ k, k < n → parseFieldDescriptor (T k).2.2.1 = some (ty0 k)) ∧ (∀ a, a < n → ∀ b, b < n → a ≠ b → (T a).2.1 ≠ (T b).2.1) ∧ (T j).2.2.2 = fin ∧ parseFieldDescriptor (T j).2.2.1 = some ty
theorem a_get (hZ : OkZ Z) {t k j idx : Nat} {ty : FieldType} {fin : Bool} (hx : zx Z t k) (hf : FL (mO M) idx t j ty fin) (hd : decode (mC M) pc = .ok (.getfield idx, 3)) (kk : AQ Z l M Qc kc ks (pc + 3) lv (fvl Z s t k j :: st) s) : AQ Z l M Qc kc ks pc lv (.ref (za Z t k) :: st) s :=
  fun p e s0 m args below meth c H locs ls C hW hS hl => by
    obtain ⟨ci, n, Cn, T, ty0, hO, hj, hc, hin, hlink, -⟩ := hf
    have hP := one_at (hZ.1 s H t k hx hW)
    rw [cel_O hO] at hP
    exact va_get (D := zD Z) (cl := vwCl) (C := Cn) (T := T) (N := n) (ci := ci) (ref := (T j).1) (fs := (List.range n).map (fvl Z s t k)) (v := fvl Z s t k j) C.1 C.2.1 C.2.2.2.2.1 hin C.2.2.2.1 C.2.2.2.2.2.2.2.1 hP 0 rfl hc j hj (C.2.2.2.2.1 _ hlink) (fun _ h9 => h9) (by simp [hj]) hd (kk p e s0 m args below meth c H locs ls C hW hS hl)
theorem a_getI (hZ : OkZ Z) {t k j idx : Nat} {ty : FieldType} {fin : Bool} (x : Int32) (hx : zx Z t k) (hf : FL (mO M) idx t j ty fin) (hF : shF t j = none) (hv : s t k j = x) (hd : decode (mC M) pc = .ok (.getfield idx, 3)) (kk : AQ Z l M Qc kc ks (pc + 3) lv (.int x :: st) s) : AQ Z l M Qc kc ks pc lv (.ref (za Z t k) :: st) s :=
  a_get hZ hx hf hd (by unfold fvl; rw [hF]; subst hv; exact kk)
theorem a_getR (hZ : OkZ Z) {t k j idx u : Nat} {b : Bool} {ty : FieldType} {fin : Bool} (hx : zx Z t k) (hf : FL (mO M) idx t j ty fin) (hF : shF t j = some (u, b)) (k2 : Nat) (hk : (if b = true then k else 0) = k2) (hd : decode (mC M) pc = .ok (.getfield idx, 3)) (kk : AQ Z l M Qc kc ks (pc + 3) lv (.ref (za Z u k2) :: st) s) : AQ Z l M Qc kc ks pc lv (.ref (za Z t k) :: st) s :=
  a_get hZ hx hf hd (by unfold fvl; rw [hF]; subst hk; exact kk)
theorem fvl_up {t k j n : Nat} {x : Int32} (hF : shF t j = none) (hj : j < n) : (List.range n).map (fvl Z (up s t k j x) t k) = ((List.range n).map (fvl Z s t k)).set j (.int x) := by
  apply List.ext_getElem?
  intro i
  by_cases hi : i = j
  · subst hi
    rw [List.getElem?_set_self (by simp [hj])]
    simp [hj, fvl, hF, up_at]
  · rw [List.getElem?_set_ne (Ne.symm hi)]
    by_cases hn : i < n
    · simp only [List.getElem?_map, List.getElem?_range hn, Option.map_some]
      unfold fvl
      cases shF t i with
      | none => simp only [up_off hi]
      | some q => rfl
    · simp [hn]
theorem a_put (hZ : OkZ Z) {t k j idx : Nat} {ty : FieldType} {x : Int32} (hx : zx Z t k) (hf : FL (mO M) idx t j ty false) (hF : shF t j = none) (hn : narrow ty (.int x) = .int x) (hfit : fits ty (.int x) = true) (hd : decode (mC M) pc = .ok (.putfield idx, 3)) (kk : AQ Z l M Qc kc ks (pc + 3) lv st (up s t k j x)) : AQ Z l M Qc kc ks pc lv (.int x :: .ref (za Z t k) :: st) s :=
  fun p e s0 m args below meth c H locs ls C hW hS hl => by
    obtain ⟨ci, n, Cn, T, ty0, hO, hj, hc, hin, hlink, hty, hnm, hfin, hpt⟩ := hf
    have hat := hZ.1 s H t k hx hW
    rw [cel_O hO] at hat
    have hap := va_apart (own := mO M) C.2.2.2.2.1 hin ty0 hty hnm C.2.2.2.2.2.2.2.1 hc
    obtain ⟨r, h1, cell, q1, q2, q3, q4⟩ := hat
    have hr : r = (Cn, T, n) := Option.some.inj (h1.symm.trans hc)
    subst hr
    obtain ⟨hSl, hfc, kC, hkC, hkind⟩ := C.2.2.2.2.2.2.2.1.1 ci _ hc
    obtain ⟨cf, kf, fi, f, hi, hsl⟩ := hSl j hj
    have hlay := C.2.2.2.2.1 _ (hin _ (u_in_lay hj))
    unfold u_lay at hlay
    rw [if_neg (by rw [hfin]; decide)] at hlay
    have hst := (u_facts hfc hkC (u_lays C.2.2.2.2.1 hin hj) hi).1
    have h6 := u_store hfc hkC hkind hlay hi hpt hn hfit
    refine W.putK C.1 C.2.1 (f := f) ⟨C.2.2.2.1, C.2.2.2.2.1 _ hlink, ⟨_, _, _, hi⟩, hst⟩ (by rw [q2]; exact h6) q1 q3 (by rw [hsl]; exact k2_hasslot (q4 j hj)) rfl rfl hd fun H' e1 e2 e3 => ?_
    rw [hsl] at e1 ⊢
    refine kk p e s0 m args below meth c H' _ ls C ?_ (hS.put e2 e3 (hZ.2.2.1 t k hx)) hl
    refine hZ.2.1 s _ H H' t k hx hW ?_ e2 e3 (fun t' k' h => up_ne h)
    rw [cel_O hO, fvl_up hF hj]
    exact ⟨_, hc, t_OB.to (V := updV (vp_V ((List.range n).map (fvl Z s t k))) j (.int x)) ⟨_, e1, q2, q3, t_set q4 hap hj (.int x)⟩ (fun i _ => vp_updV_set (by simp [hj]) (.int x) i)⟩
theorem a_iald (hZ : OkZ Z) {t k n : Nat} {i : Int32} (x : Int32) (hx : zx Z t k) (h0 : shO t = none) (hA : shA t = some n) (hin : vp_in i n) (hv : s t k i.toNatClampNeg = x) (hd : decode (mC M) pc = .ok (.iaload, 1)) (kk : AQ Z l M Qc kc ks (pc + 1) lv (.int x :: st) s) : AQ Z l M Qc kc ks pc lv (.int i :: .ref (za Z t k) :: st) s :=
  fun p e s0 m args below meth c H locs ls C hW hS hl => by
    subst hv
    have hP := one_at (hZ.1 s H t k hx hW)
    rw [cel_A h0 hA] at hP
    exact va_iald C.1 C.2.1 C.2.2.2.2.2.2.2.1 hP 0 0 rfl rfl hin hd (kk p e s0 m args below meth c H locs ls C hW hS hl)
theorem a_alen (hZ : OkZ Z) {t k n : Nat} {v : Int32} (hx : zx Z t k) (h0 : shO t = none) (hA : shA t = some n) (hv : Int32.ofNat n = v) (hd : decode (mC M) pc = .ok (.arraylength, 1)) (kk : AQ Z l M Qc kc ks (pc + 1) lv (.int v :: st) s) : AQ Z l M Qc kc ks pc lv (.ref (za Z t k) :: st) s :=
  fun p e s0 m args below meth c H locs ls C hW hS hl => by
    have hP := one_at (hZ.1 s H t k hx hW)
    rw [cel_A h0 hA] at hP
    exact va_alen C.1 C.2.1 C.2.2.2.2.2.2.2.1 hP 0 0 rfl rfl hv hd (kk p e s0 m args below meth c H locs ls C hW hS hl)
theorem a_iast (hZ : OkZ Z) {t k n : Nat} {i x : Int32} (hx : zx Z t k) (h0 : shO t = none) (hA : shA t = some n) (hin : vp_in i n) (hd : decode (mC M) pc = .ok (.iastore, 1)) (kk : AQ Z l M Qc kc ks (pc + 1) lv st (up s t k i.toNatClampNeg x)) : AQ Z l M Qc kc ks pc lv (.int x :: .int i :: .ref (za Z t k) :: st) s :=
  fun p e s0 m args below meth c H locs ls C hW hS hl => by
    have hat := hZ.1 s H t k hx hW
    rw [cel_A h0 hA] at hat
    refine W.iast C.1 C.2.1 hat ((C.2.2.2.2.2.2.2.1.2 0 _ rfl).1 n (fun j => .int (s t k j))) (fun q => by cases q) (by show ¬ (i < 0 ∨ (arrV _ _ _).slots.size ≤ _); rw [arrV_size]; exact hin) rfl rfl hd fun H' e1 e2 e3 => ?_
    refine kk p e s0 m args below meth c H' _ ls C ?_ (hS.put e2 e3 (hZ.2.2.1 t k hx)) hl
    refine hZ.2.1 s _ H H' t k hx hW ?_ e2 e3 (fun t' k' h => up_ne h)
    rw [cel_A h0 hA, up_self]
    show H'[za Z t k]? = some (vp_cell _ _)
    rw [e1, vp_cell_i, vp_cell_i, arrV_store]
    congr 2
    funext q
    by_cases hq : q = i.toNatClampNeg
    · subst hq
      simp [updV, upd]
    · simp [updV, upd, hq]
theorem a_aald (hZ : OkZ Z) {t k n u c : Nat} {Cn : String} {i : Int32} (hx : zx Z t k) (h0 : shO t = none) (h1 : shA t = none) (hR : shR t = some (n, u, c)) (ht : (zT Z)[c]? = some (zc Z c, .object Cn)) (hin : vp_in i n) (hex : i.toNatClampNeg < shN (zg Z) u) (hd : decode (mC M) pc = .ok (.aaload, 1)) (kk : AQ Z l M Qc kc ks (pc + 1) lv (.ref (za Z u i.toNatClampNeg) :: st) s) : AQ Z l M Qc kc ks pc lv (.int i :: .ref (za Z t k) :: st) s :=
  fun p e s0 m args below meth cd H locs ls C hW hS hl => by
    have hP := one_at (hZ.1 s H t k hx hW)
    rw [cel_R h0 h1 hR] at hP
    refine va_aldq C.1 C.2.1 C.2.2.2.2.2.2.2.1 hP 0 c rfl ht hin hd ?_
    rw [if_pos hex]
    exact kk p e s0 m args below meth cd H locs ls C hW hS hl
theorem a_gets (hZ : OkZ Z) {c idx : Nat} (hc : c < 5) (hlink : Cond.fieldLink (mO M) idx (stC c).1 (stC c).2 "[I" ∈ gtab) (hd : decode (mC M) pc = .ok (.getstatic idx, 3)) (kk : AQ Z l M Qc kc ks (pc + 3) lv (.ref (za Z (100 + c) 0) :: st) s) : AQ Z l M Qc kc ks pc lv st s :=
  fun p e s0 m args below meth cd H locs ls C hW hS hl => va_gets C.1 C.2.1 (hZ.2.2.2.2.2.2.1 s0 C.2.2.2.2.2.2.2.2 c hc).1 hS C.2.2.2.1 (C.2.2.2.2.1 _ hlink) (fun _ h9 => h9) hd (kk p e s0 m args below meth cd H locs ls C hW hS hl)
theorem a_ti (hZ : OkZ Z) {c : Nat} {i : Int32} (hc : c < 5) (hin : vp_in i (stL c)) (hd : decode (mC M) pc = .ok (.iaload, 1)) (kk : AQ Z l M Qc kc ks (pc + 1) lv (.int (stV c i.toNatClampNeg) :: st) s) : AQ Z l M Qc kc ks pc lv (.int i :: .ref (za Z (100 + c) 0) :: st) s :=
  fun p e s0 m args below meth cd H locs ls C hW hS hl => va_ti C.1 C.2.1 (hZ.2.2.2.2.2.2.1 s0 C.2.2.2.2.2.2.2.2 c hc).2 hS hin rfl hd (kk p e s0 m args below meth cd H locs ls C hW hS hl)
theorem a_tlen (hZ : OkZ Z) {c : Nat} (hc : c < 5) (hd : decode (mC M) pc = .ok (.arraylength, 1)) (kk : AQ Z l M Qc kc ks (pc + 1) lv (.int (Int32.ofNat (stL c)) :: st) s) : AQ Z l M Qc kc ks pc lv (.ref (za Z (100 + c) 0) :: st) s :=
  fun p e s0 m args below meth cd H locs ls C hW hS hl => va_tlen C.1 C.2.1 (hZ.2.2.2.2.2.2.1 s0 C.2.2.2.2.2.2.2.2 c hc).2 hS rfl hd (kk p e s0 m args below meth cd H locs ls C hW hS hl)
theorem a_ldcS (hZ : OkZ Z) {c idx : Nat} (hc : c < 6) (hi : (txK c).1 = idx) (ho : mO M = "CottonWeeks$Tape") (hd : decode (mC M) pc = .ok (.ldc idx, 2)) (kk : AQ Z l M Qc kc ks (pc + 2) lv (.ref (za Z 110 c) :: st) s) : AQ Z l M Qc kc ks pc lv st s :=
  fun p e s0 m args below meth cd H locs ls C hW hS hl => by
    subst hi
    have h1 := C.2.2.2.1
    rw [ho] at h1
    exact va_ldcS C.1 C.2.1 h1 ((hZ.2.2.2.2.2.2.2 s0 C.2.2.2.2.2.2.2.2).1 c hc) hd (kk p e s0 m args below meth cd H locs ls C hW hS hl)
end AWR
def inb (i : Int32) (n : Nat) : Bool := !(decide (i < 0) || decide (n ≤ i.toNatClampNeg))
theorem inb_vp {i : Int32} {n : Nat} (h : inb i n = true) : vp_in i n := by
  unfold inb at h
  unfold vp_in
  simpa using h
def ne0 (y : Int32) : Bool := !(decide (y = 0))
theorem ne0_n {y : Int32} (h : ne0 y = true) : ¬ y = 0 := by simpa [ne0] using h
def isb (y : Int32) : Bool := decide (y = 0) || decide (y = 1)
theorem isb_n {y : Int32} (h : isb y = true) : narrow .boolean (.int y) = .int y := by
  have h2 : y = 0 ∨ y = 1 := by simpa [isb] using h
  rcases h2 with rfl | rfl <;> rfl
def gd {α : Type} (b : Bool) (x : Option α) : Option α := if b = true then x else none
theorem gd_some {α : Type} {b : Bool} {x : Option α} {y : α} (h : gd b x = some y) : b = true ∧ x = some y := by
  unfold gd at h
  split at h
  · exact ⟨by assumption, h⟩
  · cases h
def bd {α β : Type} (x : Option (α × St)) (f : α → St → Option β) : Option β := match x with
  | none => none
  | some q => f q.1 q.2
theorem bd_some {α β : Type} {x : Option (α × St)} {f : α → St → Option β} {y : β} (h : bd x f = some y) : ∃ (r : α) (s : St), x = some (r, s) ∧ f r s = some y := by
  unfold bd at h
  cases x with
  | none => cases h
  | some q => exact ⟨q.1, q.2, rfl, h⟩
def fu : Nat := 1000000
def lna (t : Nat) : Nat := (shA t).getD 0
abbrev Pq (R : Option Value × St) : Option Value → St → Prop := fun r s' => r = R.1 ∧ s' = R.2
def rI (R : Int32 × St) : Option Value × St := (some (.int R.1), R.2)
def rJ (R : Int64 × St) : Option Value × St := (some (.long R.1), R.2)
def rU (R : Unit × St) : Option Value × St := (none, R.2)
theorem ne_ti {x c : Int32} (h : ¬ x = c) : x.toInt ≠ c.toInt := fun q => h (Int32.toInt_inj.mp q)
/-- the cells of the landed class, of the reference -/
def OkX (Z : ZE) : Prop := OkZ Z ∧ ∀ t k : Nat, t < 47 → k < shN (zg Z) t → zx Z t k
def OkM (Z : ZE) : Prop := OkZ Z ∧ ∀ t k : Nat, 60 ≤ t → t < 95 → k < shN (zg Z) t → zx Z t k
