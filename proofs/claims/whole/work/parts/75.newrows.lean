/-! methods that bear cells of their own: the worlds with EC, the list of all cells, the rows they need -/
abbrev ZJ (D : va_G) (c : Nat → ClassId) (A A0 : Nat → Prop) (ad a : Nat → Nat → Nat) (g : Nat × Nat) (x : Nat → Nat → Prop) (sz : Nat) : ZE := (D, c, A, ZW D c a g x, fun U => SF A0 ad U ∧ EC U ∧ sz ≤ U.heap.size, a, g, x)
theorem ZJ.ok {D : va_G} {c : Nat → ClassId} {A A0 : Nat → Prop} {ad a : Nat → Nat → Nat} {g : Nat × Nat} {x : Nat → Nat → Prop} {sz : Nat} (hd : ∀ t k t' k' : Nat, x t k → x t' k' → a t k = a t' k' → t = t' ∧ k = k') (hA : ∀ t k : Nat, x t k → A (a t k)) (hA0 : ∀ q, A q → A0 q) (ha : ∀ t k : Nat, 100 ≤ t → a t k = ad t k) : OkZ (ZJ D c A A0 ad a g x sz) := by
  obtain ⟨h1, h2, h3, h4, h5, h6, h7, h8⟩ := ZI.ok (D := D) (c := c) (g := g) hd hA hA0 ha
  exact ⟨h1, h2, h3, fun s U hs hw hF => ⟨h4 s U hs.1 hw hF, hs.2.1.warm hw, Nat.le_trans hs.2.2 hF.1⟩, fun U U' e1 e2 hs => ⟨h5 U U' e1 e2 hs.1, EC.same e1 hs.2.1, by rw [e2]; exact hs.2.2⟩, fun s h => h6 s h.1, fun s h => h7 s h.1, fun s h => h8 s h.1⟩
/-- a method's contract with any end -/
def SpQ (Z : ZE) (l : Launch) (y : MethodName) (M : MI) (av : List Value) (s : St) (Qc : Array Value → State → Outcome → State → Prop) : Prop :=
  Met l y (Cond.code y (mC M) (mL M) (mT M) :: gtab) (gR M) (va_Pc av (fun U => zW Z s U.heap ∧ va_K (zD Z) vwCl (zT Z) U ∧ zS Z U)) Qc (mK M) (mN M) (zA Z)
theorem SpQ.of {Z : ZE} {l : Launch} {y : MethodName} {M : MI} {av : List Value} {s : St} {Qc : Array Value → State → Outcome → State → Prop} (hy : plainName y.cls = true) (ho : y.cls = mO M) (hn : (lg_sl av).length ≤ mL M)
    (k : AQ Z l M Qc 0 0 0 (lv_args 0 av) [] s) : SpQ Z l y M av s Qc := by
  refine Met.ofW (cc := mC M) (maxL := mL M) (ret := mT M) hy rfl ?_
  intro p e s0 m args below meth c s₁ B hml hv
  obtain ⟨rfl, hW, hK, hS⟩ := hv
  have hts := atoms_spec (ws := Cond.code y (mC M) (mL M) (mT M) :: gtab) B.pre
  have hown : s0.vm.findClass y.cls = some m.cls := findClass_of_methodNamed B.named
  rw [lg_entry_eq]
  exact k p e s0 m _ below meth c s0.heap [] _ ⟨B.exec, B.bytes, hml, ho ▸ hown, fun w hw => hts w (List.mem_cons_of_mem _ hw), B.returns, B.notSynchronized, hK, hS⟩ hW va_S.rf (lv_entry av hn)
/-- from the store to the list of its cells -/
theorem a_c {D : va_G} {c : Nat → ClassId} {A A0 : Nat → Prop} {ad a : Nat → Nat → Nat} {g : Nat × Nat} {x : Nat → Nat → Prop} {sz : Nat} {l : Launch} {M : MI} {Qc : Array Value → State → Outcome → State → Prop} {kc ks pc : Nat} {lv : List (Nat × Value)} {st : List Value} {s : St} {ws : va_W} (hA : ∀ q, sz ≤ q → A q) (hw : ∀ H, ZW D c a g x s H → va_P D vwCl ws H) (hD : va_D A ws)
    (k : ∀ (nm : String) (n : Nat), (∀ q, n ≤ q → A q) → CB l M nm D c A n Qc kc ks pc lv st ws) : AQ (ZJ D c A A0 ad a g x sz) l M Qc kc ks pc lv st s :=
  fun p e s0 m args below meth cd H locs ls C hW hS hl => by
    obtain ⟨h1, h2, h3, h4, h5, h6, h7, h8, h9, h10, h11⟩ := C
    exact k meth.name s0.heap.size (fun q hq => hA q (Nat.le_trans h11 hq)) p e s0 m args below meth cd H locs ls ⟨h1, h2, h3, h4, h5, h6, h7, h8, h10, rfl⟩ rfl (hw H hW) hD hS hl
/-! a list of all cells, some of them first -/
def NI (l : List (Nat × Nat)) : Prop := ∀ (i j : Nat) (p : Nat × Nat), l[i]? = some p → l[j]? = some p → i = j
theorem NI.snoc {l : List (Nat × Nat)} {p : Nat × Nat} (h : NI l) (hp : p ∉ l) : NI (l ++ [p]) := by
  have one : ∀ (i : Nat) (q : Nat × Nat), (l ++ [p])[i]? = some q → (i < l.length ∧ l[i]? = some q) ∨ (i = l.length ∧ q = p) := fun i q hi => by
    by_cases hl : i < l.length
    · rw [List.getElem?_append_left hl] at hi
      exact Or.inl ⟨hl, hi⟩
    · rw [List.getElem?_append_right (by omega)] at hi
      have h1 := (List.getElem?_eq_some_iff.mp hi).1
      have h2 : i = l.length := by
        have : i - l.length < 1 := h1
        omega
      subst h2
      simp at hi
      exact Or.inr ⟨rfl, hi.symm⟩
  intro i j q hi hj
  rcases one i q hi with ⟨a1, a2⟩ | ⟨a1, a2⟩ <;> rcases one j q hj with ⟨b1, b2⟩ | ⟨b1, b2⟩
  · exact h i j q a2 b2
  · exact absurd (b2 ▸ List.mem_of_getElem? a2) hp
  · exact absurd (a2 ▸ List.mem_of_getElem? b2) hp
  · omega
theorem ni_ex (sp : List (Nat × Nat)) (hs : NI sp) : ∀ l : List (Nat × Nat), ∃ L : List (Nat × Nat), NI (sp ++ L) ∧ ∀ p, p ∈ sp ++ L ↔ p ∈ sp ∨ p ∈ l := by
  intro l
  induction l with
  | nil => exact ⟨[], by simpa using hs, by simp⟩
  | cons q l ih =>
    obtain ⟨L, h1, h2⟩ := ih
    by_cases hq : q ∈ sp ++ L
    · refine ⟨L, h1, fun p => ?_⟩
      rw [h2 p]
      constructor
      · rintro (h | h)
        · exact Or.inl h
        · exact Or.inr (List.mem_cons_of_mem _ h)
      · rintro (h | h)
        · exact Or.inl h
        · rcases List.mem_cons.mp h with h | h
          · subst h
            exact (h2 p).mp hq
          · exact Or.inr h
    · refine ⟨L ++ [q], by rw [← List.append_assoc]; exact h1.snoc hq, fun p => ?_⟩
      rw [← List.append_assoc, List.mem_append, h2 p, List.mem_singleton, List.mem_cons]
      constructor
      · rintro ((h | h) | h)
        · exact Or.inl h
        · exact Or.inr (Or.inr h)
        · exact Or.inr (Or.inl h)
      · rintro (h | h | h)
        · exact Or.inl (Or.inl h)
        · exact Or.inr h
        · exact Or.inl (Or.inr h)
theorem all_ex (g : Nat × Nat) (sp : List (Nat × Nat)) (hs : NI sp) (hx : ∀ t k, (t, k) ∈ sp → exX g t k) : ∃ L : List (Nat × Nat), NI (sp ++ L) ∧ ∀ t k, (t, k) ∈ sp ++ L ↔ exX g t k := by
  obtain ⟨L, h1, h2⟩ := ni_ex sp hs ((List.range 47).flatMap (fun t => (List.range (shN g t)).map (fun k => (t, k))))
  refine ⟨L, h1, fun t k => ?_⟩
  rw [h2]
  constructor
  · rintro (h | h)
    · exact hx t k h
    · obtain ⟨t', ht, h⟩ := List.mem_flatMap.mp h
      obtain ⟨k', hk, e⟩ := List.mem_map.mp h
      have e1 : t' = t := congrArg Prod.fst e
      have e2 : k' = k := congrArg Prod.snd e
      subst e1
      subst e2
      exact ⟨List.mem_range.mp ht, List.mem_range.mp hk⟩
  · intro h
    exact Or.inr (List.mem_flatMap.mpr ⟨t, List.mem_range.mpr h.1, List.mem_map.mpr ⟨k, List.mem_range.mpr h.2, rfl⟩⟩)
def cls (D : va_G) (c : Nat → ClassId) (a : Nat → Nat → Nat) (g : Nat × Nat) (s : St) (K : List (Nat × Nat)) : va_W := K.map (fun p => (a p.1 p.2, cel (Zd D c a g (exX g)) s p.1 p.2))
theorem cls_at {D : va_G} {c : Nat → ClassId} {a : Nat → Nat → Nat} {g : Nat × Nat} {s : St} {K : List (Nat × Nat)} {i : Nat} {q : Nat × va_E} (h : (cls D c a g s K)[i]? = some q) : ∃ p : Nat × Nat, K[i]? = some p ∧ q = (a p.1 p.2, cel (Zd D c a g (exX g)) s p.1 p.2) := by
  rw [cls, List.getElem?_map] at h
  cases e : K[i]? with
  | none => rw [e] at h; cases h
  | some p =>
    rw [e] at h
    exact ⟨p, rfl, (Option.some.inj h).symm⟩
theorem cls_P {D : va_G} {c : Nat → ClassId} {a : Nat → Nat → Nat} {g : Nat × Nat} {s : St} {K : List (Nat × Nat)} (hx : ∀ t k, (t, k) ∈ K → exX g t k) {H : Heap} (h : ZW D c a g (exX g) s H) : va_P D vwCl (cls D c a g s K) H := fun i q hi => by
  obtain ⟨p, h1, rfl⟩ := cls_at hi
  exact h p.1 p.2 (hx p.1 p.2 (List.mem_of_getElem? h1))
theorem cls_D {D : va_G} {c : Nat → ClassId} {a : Nat → Nat → Nat} {g : Nat × Nat} {s : St} {K : List (Nat × Nat)} {A : Nat → Prop} (hK : NI K) (hx : ∀ t k, (t, k) ∈ K → exX g t k) (hd : ∀ t k t' k' : Nat, exX g t k → exX g t' k' → a t k = a t' k' → t = t' ∧ k = k') (hA : ∀ t k : Nat, exX g t k → A (a t k)) : va_D A (cls D c a g s K) := by
  refine ⟨fun i j p q hi hj e => ?_, fun i q hi => ?_⟩
  · obtain ⟨p', h1, rfl⟩ := cls_at hi
    obtain ⟨q', h2, rfl⟩ := cls_at hj
    have h3 := hd p'.1 p'.2 q'.1 q'.2 (hx _ _ (List.mem_of_getElem? h1)) (hx _ _ (List.mem_of_getElem? h2)) e
    have h4 : p' = q' := Prod.ext h3.1 h3.2
    subst h4
    exact hK i j p' h1 h2
  · obtain ⟨p', h1, rfl⟩ := cls_at hi
    exact hA _ _ (hx _ _ (List.mem_of_getElem? h1))
/-- an int comes back -/
def cQi (D : va_G) (A : Nat → Prop) (Pst : Int32 → va_W → Prop) : Array Value → State → Outcome → State → Prop := va_Qi Pst (fun (w1 : va_W) (t : State) => va_P D vwCl w1 t.heap ∧ va_D A w1) A
def CSi (l : Launch) (y : MethodName) (M : MI) (D : va_G) (c : Nat → ClassId) (av : List Value) (wc : va_W) (Pst : Int32 → va_W → Prop) : Prop :=
  ∀ sz : Nat, Met l y (Cond.code y (mC M) (mL M) (mT M) :: gtab) (gR M) (va_Pc av (fun U => U.heap.size = sz ∧ va_P D vwCl wc U.heap ∧ va_K D vwCl (tyL c) U ∧ va_D (fun _ => True) wc ∧ EC U)) (cQi D (va_A wc sz) Pst) (mK M) (mN M) (va_A wc sz)
theorem CSi.of {l : Launch} {y : MethodName} {M : MI} {D : va_G} {c : Nat → ClassId} {av : List Value} {wc : va_W} {Pst : Int32 → va_W → Prop} (hy : plainName y.cls = true) (ho : y.cls = mO M) (hn : (lg_sl av).length ≤ mL M)
    (k : ∀ (A : Nat → Prop) (sz : Nat), (∀ q, sz ≤ q → A q) → CB l M y.name D c A sz (cQi D A Pst) 0 0 0 (lv_args 0 av) [] wc) : CSi l y M D c av wc Pst := by
  intro sz
  refine Met.ofW (cc := mC M) (maxL := mL M) (ret := mT M) hy rfl ?_
  intro p e s0 m args below meth cd s₁ B hml hv
  obtain ⟨rfl, hsz, hP, hK, hD0, hE⟩ := hv
  have hts := atoms_spec (ws := Cond.code y (mC M) (mL M) (mT M) :: gtab) B.pre
  have hown : s0.vm.findClass y.cls = some m.cls := findClass_of_methodNamed B.named
  have hin : meth.name = y.name := (name_of_methodNamed B.named B.method).1
  rw [lg_entry_eq]
  exact k (va_A wc sz) sz (fun q h => Or.inr h) p e s0 m _ below meth cd s0.heap [] _ ⟨B.exec, B.bytes, hml, ho ▸ hown, fun w hw => hts w (List.mem_cons_of_mem _ hw), B.returns, B.notSynchronized, hK, hE, hin⟩ hsz hP (hD0.self (sz := sz)) va_S.rf (lv_entry av hn)
section CBR2
variable {l : Launch} {M : MI} {nm : String} {D : va_G} {c : Nat → ClassId} {A : Nat → Prop} {sz : Nat} {Qc : Array Value → State → Outcome → State → Prop} {kc ks pc : Nat} {lv : List (Nat × Value)} {st : List Value} {ws : va_W}
theorem c_iret {v : Int32} (hr : mT M = some .int) (h1 : kc ≤ mK M) (h2 : ks ≤ mN M) (hd : decode (mC M) pc = .ok (.ireturn, 1)) {Pst : Int32 → va_W → Prop} (hp : Pst v ws) : CB l M nm D c A sz (cQi D A Pst) kc ks pc lv [.int v] ws :=
  fun p e s0 m args below meth cd H locs ls C hz hP hD hS hl => by
    have hlocks : meth.locks = false := C.2.2.2.2.2.2.1
    exact W.widen h1 h2 (W.iret C.1 C.2.1 (C.2.2.2.2.2.1.trans hr) (fun t ht _ => ⟨⟨v, ws, rfl, hp, by rw [ht]; exact hP, hD⟩, hS.F ht⟩) hS.2.2 hd)
theorem c_isub {x y : Int32} (hd : decode (mC M) pc = .ok (.isub, 1)) (k : CB l M nm D c A sz Qc kc ks (pc + 1) lv (.int (x - y) :: st) ws) : CB l M nm D c A sz Qc kc ks pc lv (.int y :: .int x :: st) ws :=
  fun p e s0 m args below meth cd H locs ls C hz hP hD hS hl => lv_isub C.1 C.2.1 hd (k p e s0 m args below meth cd H locs ls C hz hP hD hS hl)
theorem c_icmp_lt {x y : Int32} {off : Int} (tgt : Nat) (hd : decode (mC M) pc = .ok (.if_icmp .lt off, 3)) (ht : (pc : Int) + off = (tgt : Int)) (kt : x < y → CB l M nm D c A sz Qc kc ks tgt lv st ws) (kf : ¬ x < y → CB l M nm D c A sz Qc kc ks (pc + 3) lv st ws) : CB l M nm D c A sz Qc kc ks pc lv (.int y :: .int x :: st) ws :=
  fun p e s0 m args below meth cd H locs ls C hz hP hD hS hl => lv_icmp_lt C.1 C.2.1 hd ht (fun q => kt q p e s0 m args below meth cd H locs ls C hz hP hD hS hl) (fun q => kf q p e s0 m args below meth cd H locs ls C hz hP hD hS hl)
theorem c_put2 {idx t j ci a n : Nat} {ty : FieldType} {v : Value} {fs : List Value} (q0 : Nat) (hf : FL (mO M) idx t j ty false) (hO : shO t = some (ci, n)) (he : ws[q0]? = some (a, .inr (ci, fs))) (hn : narrow ty v = v) (hfit : fits ty v = true) (hl2 : j < fs.length) (hd : decode (mC M) pc = .ok (.putfield idx, 3))
    (k : CB l M nm D c A sz Qc kc ks (pc + 3) lv st (ws.set q0 (a, .inr (ci, fs.set j v)))) : CB l M nm D c A sz Qc kc ks pc lv (v :: .ref a :: st) ws :=
  fun p e s0 m args below meth cd H locs ls C hz hP hD hS hl => by
    obtain ⟨ci', n', Cn, T, ty0, hO', hj, hc, hin, hlink, hty, hnm, hfin, hpt⟩ := hf
    have e1 : (ci', n') = (ci, n) := Option.some.inj (hO'.symm.trans hO)
    cases e1
    exact va_put C.1 C.2.1 C.2.2.2.2.1 hin ty0 hty hnm C.2.2.2.1 C.2.2.2.2.2.2.2.1 hP hD hS q0 he hc j hj (C.2.2.2.2.1 _ hlink) (fun _ h9 => h9) hfin hpt hn hfit hl2 hd (fun H1 locs1 hP1 hD1 hS1 => k p e s0 m args below meth cd H1 locs1 ls C hz hP1 hD1 hS1 hl)
/-- a constructor, by a plain link -/
def LkI (own : String) (idx : Nat) (y : MethodName) (N : MI) (n : Nat) : Prop := Cond.methodLink own idx y ∈ gtab ∧ Cond.instanceMethod y ∈ gtab ∧ Cond.initialized y.cls ∈ gtab ∧ Cond.code y (mC N) (mL N) (mT N) ∈ gtab ∧ y.name = "<init>" ∧
  (y.cls ≠ "java/lang/invoke/MethodHandle" ∧ y.cls ≠ "java/lang/invoke/VarHandle" ∧ (parseMethodDescriptor y.desc).map (fun d => d.parameters.length) = some n)
theorem c_callI (hA : ∀ q, sz ≤ q → A q) {y : MethodName} {N : MI} {idx a : Nat} {As rest : List Value} {wc wr : va_W} {Pst : va_W → Prop} (hr : mT N = none) (hl0 : LkI (mO M) idx y N As.length) (hf : Fit M N kc ks) (hst : st = As.reverse ++ .ref a :: rest) (hrest : (rest.map fun v => v.category).sum ≤ 8) (hd : decode (mC M) pc = .ok (.invokespecial idx, 3)) (hC : CSp l y N D c (.ref a :: As) wc Pst) (hw : ws = wc ++ wr)
    (kk : ∀ w1 : va_W, Pst w1 → CB l M nm D c A sz Qc (kc + mK N) (ks + mN N) (pc + 3) lv rest (w1 ++ wr)) : CB l M nm D c A sz Qc kc ks pc lv st ws :=
  fun p e s0 m args below meth cd H locs ls C hz hP hD hS hl => by
    subst hst
    subst hw
    obtain ⟨h1, h2, h3, h5, h6, h7⟩ := hl0
    have hG := gtab_goodIn h5
    have hA0 : ∀ q, H.size ≤ q → A q := fun q hq => hA q (Nat.le_trans (by rw [← hz]; exact hS.1) hq)
    have hA1 : ∀ q, va_A wc H.size q → A q := fun q hq => by
      rcases hq with ⟨i, e, hi⟩ | hq
      · exact (D_left hD).2 i _ hi
      · exact hA0 q hq
    have hcw : CallB (gR M) s0 args (mO M) idx y (mC N) (mL N) (mT N) (Cond.code y (mC N) (mL N) (mT N) :: gtab) (gR N) (mK N) (mN N) As.length := callB_of As.length C.2.2.2.2.1 hG rfl rfl rfl (C.2.2.2.2.1 _ h3) (C.2.2.2.2.1 _ h1) h7 hf.1
    have hM := hC H.size
    rw [hr] at hcw hM
    refine va_callv (va_runI (As := As) (rest := rest) ⟨C.1, C.2.1, C.2.2.1, C.2.2.2.1, C.2.2.2.2.1⟩ hM ⟨hcw, h6, C.2.2.2.2.1 _ h2⟩ ⟨c_blind, fun U hU hW => ⟨rfl, by rw [hU], by rw [hU]; exact P_left hP, va_K.moved hW.alike C.2.2.2.2.2.2.2.1, (D_left hD).weaken (fun _ _ _ _ => trivial), C.2.2.2.2.2.2.2.2.1.warm hW⟩⟩ rfl rfl hl.1 rfl (lv_room hrest) hd hf.2) hS (fun q _ h => hA1 q h) hA1 (fun w1 t H1 locs1 ht hvm hp hB hz1 hk1 hS1 => ?_)
    obtain ⟨hP1, hD1⟩ := hB
    rw [ht] at hP1
    obtain ⟨j1, j2⟩ := join_P hP hD hA0 hk1 hP1 hD1
    exact kk w1 hp p e s0 m args below meth cd H1 locs1 ls C hz j1 j2 hS1 hl
theorem c_callV (hA : ∀ q, sz ≤ q → A q) {y : MethodName} {N : MI} {idx a t ci n0 : Nat} {As rest : List Value} {wc wr : va_W} {fs : List Value} {Pst : Int32 → va_W → Prop} (q0 : Nat) (hl0 : LkV (mO M) idx y t N As.length) (hO : shO t = some (ci, n0)) (he : wc[q0]? = some (a, .inr (ci, fs))) (hf : Fit M N kc ks) (hst : st = As.reverse ++ .ref a :: rest) (hrest : (rest.map fun v => v.category).sum ≤ 8) (hd : decode (mC M) pc = .ok (.invokevirtual idx, 3)) (hC : CSi l y N D c (.ref a :: As) wc Pst) (hw : ws = wc ++ wr)
    (kk : ∀ (r : Int32) (w1 : va_W), Pst r w1 → CB l M nm D c A sz Qc (kc + mK N) (ks + mN N) (pc + 3) lv (.int r :: rest) (w1 ++ wr)) : CB l M nm D c A sz Qc kc ks pc lv st ws :=
  fun p e s0 m args below meth cd H locs ls C hz hP hD hS hl => by
    subst hst
    subst hw
    obtain ⟨ci', k', T, hO', hc, h1, h2, h3, h4, h5, h6⟩ := hl0
    have e1 : (ci', k') = (ci, n0) := Option.some.inj (hO'.symm.trans hO)
    cases e1
    have hG := gtab_goodIn h5
    have hA0 : ∀ q, H.size ≤ q → A q := fun q hq => hA q (Nat.le_trans (by rw [← hz]; exact hS.1) hq)
    have hA1 : ∀ q, va_A wc H.size q → A q := fun q hq => by
      rcases hq with ⟨i, e, hi⟩ | hq
      · exact (D_left hD).2 i _ hi
      · exact hA0 q hq
    have hg := C.2.2.2.2.1
    have hcw : CallW (gR M) s0 args (mO M) y.cls idx y (mC N) (mL N) (mT N) (Cond.code y (mC N) (mL N) (mT N) :: gtab) (gR N) (mK N) (mN N) As.length :=
      ⟨callB_of As.length hg hG rfl rfl rfl (hg _ h4) (hg _ h1) h6 hf.1, hg _ h2, hg _ h3⟩
    refine va_calli (va_runV (As := As) (rest := rest) ⟨C.1, C.2.1, C.2.2.1, C.2.2.2.1, C.2.2.2.2.1⟩ (hC H.size) hcw ⟨c_blind, va_recv C.2.2.2.2.2.2.2.1 (P_left hP) hc he, fun U hU hW => ⟨rfl, by rw [hU], by rw [hU]; exact P_left hP, va_K.moved hW.alike C.2.2.2.2.2.2.2.1, (D_left hD).weaken (fun _ _ _ _ => trivial), C.2.2.2.2.2.2.2.2.1.warm hW⟩⟩ rfl rfl hl.1 rfl (lv_room hrest) hd hf.2) hS (fun q _ h => hA1 q h) hA1 (fun r w1 t H1 locs1 ht hvm hp hB hz1 hk1 hS1 => ?_)
    obtain ⟨hP1, hD1⟩ := hB
    rw [ht] at hP1
    obtain ⟨j1, j2⟩ := join_P hP hD hA0 hk1 hP1 hD1
    exact kk r w1 hp p e s0 m args below meth cd H1 locs1 ls C hz j1 j2 hS1 hl
end CBR2
