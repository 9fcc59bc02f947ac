/-! the worlds of both objects: which cells there are, where they lie, what the tables and statics say -/
def exX (g : Nat × Nat) (t k : Nat) : Prop := t < 47 ∧ k < shN g t
def exM (g : Nat × Nat) (t k : Nat) : Prop := (60 ≤ t ∧ t < 95) ∧ k < shN g t
abbrev Zd (D : va_G) (c : Nat → ClassId) (a : Nat → Nat → Nat) (g : Nat × Nat) (x : Nat → Nat → Prop) : ZE := (D, c, fun _ => True, fun _ _ => True, fun _ => True, a, g, x)
def ZW (D : va_G) (c : Nat → ClassId) (a : Nat → Nat → Nat) (g : Nat × Nat) (x : Nat → Nat → Prop) : St → Heap → Prop := fun s H => ∀ t k : Nat, x t k → va_at D vwCl (a t k, cel (Zd D c a g x) s t k) H
def SF (A0 : Nat → Prop) (ad : Nat → Nat → Nat) (U : State) : Prop := (∀ w ∈ nst, va_Nw w U) ∧
  (∀ c : Nat, c < 5 → va_Z (stC c).1 (stC c).2 "[I" (.ref (ad (100 + c) 0)) A0 U U.heap ∧ va_T .int (ad (100 + c) 0) (stL c) (fun j => .int (stV c j)) A0 U U.heap) ∧
  (∀ c : Nat, c < 6 → vk_R "CottonWeeks$Tape" (txK c).1 (txK c).2 (ad 110 c) U) ∧ vk_S 6 txL txB (ad 110) (ad 111) A0 U U.heap ∧ va_Z "java/lang/String" "COMPACT_STRINGS" "Z" (.int 1) A0 U U.heap ∧ va_Zq "jdk/internal/util/Preconditions" "SIOOBE_FORMATTER" "Ljava/util/function/BiFunction;" A0 U U.heap
abbrev ZI (D : va_G) (c : Nat → ClassId) (A A0 : Nat → Prop) (ad a : Nat → Nat → Nat) (g : Nat × Nat) (x : Nat → Nat → Prop) : ZE := (D, c, A, ZW D c a g x, SF A0 ad, a, g, x)
theorem cel_at (Z : ZE) {s s' : St} {t k : Nat} (h : s' t k = s t k) : cel Z s' t k = cel Z s t k := by
  have e : fvl Z s' t k = fvl Z s t k := by
    funext j
    unfold fvl
    rw [h]
  unfold cel
  rw [e, h]
theorem nst_warm {s U : State} (hW : s.WarmedH U.vm) {w : Cond} (hw : w ∈ nst) (h : va_Nw w s) : va_Nw w U := by
  have hi : isNst w = true := (List.mem_filter.mp hw).2
  cases w <;> simp [isNst] at hi
  all_goals first | exact va_Nw.warmM hW h | exact va_Nw.warmF hW h
theorem nst_same {s U : State} (hv : s.vm = U.vm) {w : Cond} (hw : w ∈ nst) (h : va_Nw w s) : va_Nw w U := by
  have hi : isNst w = true := (List.mem_filter.mp hw).2
  refine va_Nw.same ?_ hv h
  cases w <;> simp [isNst] at hi
  all_goals rfl
theorem SF.warm {A A0 : Nat → Prop} {ad : Nat → Nat → Nat} {s U : State} (h : SF A0 ad s) (hA : ∀ q, A q → A0 q) (hW : s.WarmedH U.vm) (hF : va_F A s U) : SF A0 ad U := by
  obtain ⟨h1, h2, h3, h4, h5, h6⟩ := h
  have hq : ∀ a : Nat, a < s.heap.size → ¬ A0 a → U.heap[a]? = s.heap[a]? := fun a g1 g2 => hF.2 a g1 (fun z => g2 (hA a z))
  exact ⟨fun w hw => nst_warm hW hw (h1 w hw), fun c hc => ⟨((h2 c hc).1.moved hW.alike).kept hq, ((h2 c hc).2.moved hW.alike).kept hq⟩, fun c hc => (h3 c hc).warm hW, (h4.moved hW.alike).kept hq, (h5.moved hW.alike).kept hq, (h6.moved hW.alike).kept hq⟩
theorem SF.same {A0 : Nat → Prop} {ad : Nat → Nat → Nat} {U U' : State} (hv : U'.vm = U.vm) (hh : U'.heap = U.heap) (h : SF A0 ad U) : SF A0 ad U' := by
  obtain ⟨h1, h2, h3, h4, h5, h6⟩ := h
  have ha : U.vm.Alike U'.vm := by
    rw [hv]
    exact Vm.Alike.refl _
  unfold SF
  rw [hh]
  exact ⟨fun w hw => nst_same hv.symm hw (h1 w hw), fun c hc => ⟨(h2 c hc).1.moved ha, (h2 c hc).2.moved ha⟩, fun c hc => (h3 c hc).same hv, h4.moved ha, h5.moved ha, h6.moved ha⟩
theorem ZI.ok {D : va_G} {c : Nat → ClassId} {A A0 : Nat → Prop} {ad a : Nat → Nat → Nat} {g : Nat × Nat} {x : Nat → Nat → Prop} (hd : ∀ t k t' k' : Nat, x t k → x t' k' → a t k = a t' k' → t = t' ∧ k = k') (hA : ∀ t k : Nat, x t k → A (a t k)) (hA0 : ∀ q, A q → A0 q) (ha : ∀ t k : Nat, 100 ≤ t → a t k = ad t k) : OkZ (ZI D c A A0 ad a g x) := by
  refine ⟨fun s H t k hx hW => hW t k hx, fun s s' H H' t k hx hW h1 h2 h3 h4 t' k' hx' => ?_, hA, fun s U h1 h2 h3 => SF.warm h1 hA0 h2 h3, fun U U' h1 h2 h3 => SF.same h1 h2 h3, fun s h => h.1, fun s h b hb => ?_, fun s h => ?_⟩
  · by_cases e : t' = t ∧ k' = k
    · obtain ⟨rfl, rfl⟩ := e
      exact h1
    · have hc := hW t' k' hx'
      have e1 : cel (Zd D c a g x) s' t' k' = cel (Zd D c a g x) s t' k' := cel_at _ (h4 t' k' e)
      rw [e1]
      refine hc.kept (h3 _ (fun z => e ?_))
      exact hd t' k' t k hx' hx z
  · have z : za (ZI D c A A0 ad a g x) (100 + b) 0 = ad (100 + b) 0 := ha _ _ (by omega)
    rw [z]
    exact ⟨(h.2.1 b hb).1.narrow hA0, (h.2.1 b hb).2.narrow hA0⟩
  · have z1 : za (ZI D c A A0 ad a g x) 110 = ad 110 := by
      funext q
      exact ha _ _ (by omega)
    have z2 : za (ZI D c A A0 ad a g x) 111 = ad 111 := by
      funext q
      exact ha _ _ (by omega)
    rw [z1, z2]
    exact ⟨h.2.2.1, h.2.2.2.1.narrow hA0, h.2.2.2.2.1.narrow hA0, h.2.2.2.2.2.narrow hA0⟩
