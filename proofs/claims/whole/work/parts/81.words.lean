/-! what the tables and the Statement give of the start -/
theorem tw_29 : (Jvm.Cond.arrayOver (Jvm.ClassFile.FieldType.object "CottonWeeks$Sheet")) ∈ lw_tbl := List.mem_append_right _ (List.mem_of_getElem? (i := 29) (by decide +kernel))
theorem tw_37 : (Jvm.Cond.arrayOver (Jvm.ClassFile.FieldType.object "CottonWeeks$Mill")) ∈ lw_tbl := List.mem_append_right _ (List.mem_of_getElem? (i := 37) (by decide +kernel))
theorem tw_155 : (Jvm.Cond.arrayOver (Jvm.ClassFile.FieldType.object "CottonWeeks$Home")) ∈ lw_tbl := List.mem_append_right _ (List.mem_of_getElem? (i := 155) (by decide +kernel))
theorem tw_163 : (Jvm.Cond.arrayOver (Jvm.ClassFile.FieldType.array Jvm.ClassFile.FieldType.int)) ∈ lw_tbl := List.mem_append_right _ (List.mem_of_getElem? (i := 163) (by decide +kernel))
theorem tw_631 : (Jvm.Cond.stringRef "CottonWeeks$Tape" (38 : Nat) "from") ∈ lw_tbl := List.mem_append_right _ (List.mem_of_getElem? (i := 631) (by decide +kernel))
theorem tw_700 : (Jvm.Cond.stringRef "CottonWeeks$Tape" (74 : Nat) "piece") ∈ lw_tbl := List.mem_append_right _ (List.mem_of_getElem? (i := 700) (by decide +kernel))
theorem tw_701 : (Jvm.Cond.stringRef "CottonWeeks$Tape" (76 : Nat) "relief") ∈ lw_tbl := List.mem_append_right _ (List.mem_of_getElem? (i := 701) (by decide +kernel))
theorem tw_702 : (Jvm.Cond.stringRef "CottonWeeks$Tape" (78 : Nat) "limit") ∈ lw_tbl := List.mem_append_right _ (List.mem_of_getElem? (i := 702) (by decide +kernel))
theorem tw_703 : (Jvm.Cond.stringRef "CottonWeeks$Tape" (80 : Nat) "bread") ∈ lw_tbl := List.mem_append_right _ (List.mem_of_getElem? (i := 703) (by decide +kernel))
theorem tw_704 : (Jvm.Cond.stringRef "CottonWeeks$Tape" (82 : Nat) "first") ∈ lw_tbl := List.mem_append_right _ (List.mem_of_getElem? (i := 704) (by decide +kernel))
theorem tw_645 : (Jvm.Cond.laysStatic "java/lang/String" "COMPACT_STRINGS" "Z") ∈ lw_tbl := List.mem_append_right _ (List.mem_of_getElem? (i := 645) (by decide +kernel))
theorem tw_661 : (Jvm.Cond.laysStatic "jdk/internal/util/Preconditions" "SIOOBE_FORMATTER" "Ljava/util/function/BiFunction;") ∈ lw_tbl := List.mem_append_right _ (List.mem_of_getElem? (i := 661) (by decide +kernel))
theorem tw_711 : (Jvm.Cond.laysStatic "CottonWeeks$Tape" "MOST_VALUE" "[I") ∈ lw_tbl := List.mem_append_right _ (List.mem_of_getElem? (i := 711) (by decide +kernel))
theorem tw_829 : (Jvm.Cond.laysStatic "CottonWeeks$Bodies" "MADE_OF" "[I") ∈ lw_tbl := List.mem_append_right _ (List.mem_of_getElem? (i := 829) (by decide +kernel))
theorem tw_891 : (Jvm.Cond.laysStatic "CottonWeeks$Bodies" "PARENT" "[I") ∈ lw_tbl := List.mem_append_right _ (List.mem_of_getElem? (i := 891) (by decide +kernel))
theorem tw_905 : (Jvm.Cond.laysStatic "CottonWeeks$Bodies" "SIZE_BODY" "[I") ∈ lw_tbl := List.mem_append_right _ (List.mem_of_getElem? (i := 905) (by decide +kernel))
theorem tw_907 : (Jvm.Cond.laysStatic "CottonWeeks$Bodies" "MARK_BODY" "[I") ∈ lw_tbl := List.mem_append_right _ (List.mem_of_getElem? (i := 907) (by decide +kernel))
theorem st_cl {args : Array Value} {s : State} (hg : ∀ w ∈ gtab, w.before args s = true) : ∃ D : va_G, ∀ (k : Nat) (q : vw_C), vwCl[k]? = some q → u_Kn s q.1 q.2.1 q.2.2 (D.1 k) (D.2 k) := by
  obtain ⟨c0, i0, h0⟩ := u_known (C := RX0) (T := TX0) (N := 8) (n := 8) hg gx_X0 (hg _ kw_204)
  obtain ⟨c1, i1, h1⟩ := u_known (C := RX1) (T := TX1) (N := 14) (n := 14) hg gx_X1 (hg _ kw_31)
  obtain ⟨c2, i2, h2⟩ := u_known (C := RX2) (T := TX2) (N := 5) (n := 5) hg gx_X2 (hg _ kw_157)
  obtain ⟨c3, i3, h3⟩ := u_known (C := RX3) (T := TX3) (N := 8) (n := 8) hg gx_X3 (hg _ kw_748)
  obtain ⟨c4, i4, h4⟩ := u_known (C := RX4) (T := TX4) (N := 8) (n := 8) hg gx_X4 (hg _ kw_410)
  obtain ⟨c5, i5, h5⟩ := u_known (C := RX5) (T := TX5) (N := 4) (n := 4) hg gx_X5 (hg _ kw_240)
  obtain ⟨c6, i6, h6⟩ := u_known (C := RX6) (T := TX6) (N := 7) (n := 7) hg gx_X6 (hg _ kw_91)
  obtain ⟨c7, i7, h7⟩ := u_known (C := RX7) (T := TX7) (N := 4) (n := 4) hg gx_X7 (hg _ kw_258)
  obtain ⟨c8, i8, h8⟩ := u_known (C := RX8) (T := TX8) (N := 8) (n := 8) hg gx_X8 (hg _ kw_121)
  obtain ⟨c9, i9, h9⟩ := u_known (C := RX9) (T := TX9) (N := 5) (n := 5) hg gx_X9 (hg _ kw_182)
  obtain ⟨c10, i10, h10⟩ := u_known (C := RX10) (T := TX10) (N := 11) (n := 11) hg gx_X10 (hg _ kw_21)
  obtain ⟨c11, i11, h11⟩ := u_known (C := RX11) (T := TX11) (N := 57) (n := 57) hg gx_X11 (hg _ kw_946)
  refine ⟨(fun k => match k with
    | 0 => c0
    | 1 => c1
    | 2 => c2
    | 3 => c3
    | 4 => c4
    | 5 => c5
    | 6 => c6
    | 7 => c7
    | 8 => c8
    | 9 => c9
    | 10 => c10
    | _ => c11, fun k => match k with
    | 0 => i0
    | 1 => i1
    | 2 => i2
    | 3 => i3
    | 4 => i4
    | 5 => i5
    | 6 => i6
    | 7 => i7
    | 8 => i8
    | 9 => i9
    | 10 => i10
    | _ => i11), fun k q hq => ?_⟩
  match k, hq with
  | 0, hq => cases hq; exact h0
  | 1, hq => cases hq; exact h1
  | 2, hq => cases hq; exact h2
  | 3, hq => cases hq; exact h3
  | 4, hq => cases hq; exact h4
  | 5, hq => cases hq; exact h5
  | 6, hq => cases hq; exact h6
  | 7, hq => cases hq; exact h7
  | 8, hq => cases hq; exact h8
  | 9, hq => cases hq; exact h9
  | 10, hq => cases hq; exact h10
  | 11, hq => cases hq; exact h11
  | k + 12, hq => simp [vwCl] at hq
theorem st_K {args : Array Value} {s : State} (ht : ∀ w ∈ lw_tbl, w.before args s = true) : ∃ (D : va_G) (c : Nat → ClassId), va_K D vwCl (tyL c) s := by
  have hg : ∀ w ∈ gtab, w.before args s = true := fun w hw => ht w (gtab_good hw).1
  obtain ⟨D, hD⟩ := st_cl hg
  obtain ⟨c0, k0, p0, a0, b0, d0⟩ := Cond.arrayClass_spec (hg _ kw_89)
  obtain ⟨p1, c1, k1, a1, -, b1, d1, e1⟩ := Cond.arrayOver_spec (ht _ tw_29)
  obtain ⟨p2, c2, k2, a2, -, b2, d2, e2⟩ := Cond.arrayOver_spec (ht _ tw_37)
  obtain ⟨p3, c3, k3, a3, -, b3, d3, e3⟩ := Cond.arrayOver_spec (ht _ tw_155)
  obtain ⟨p4, c4, k4, a4, b4, d4, e4⟩ := Cond.arrayOver_specA (ht _ tw_163)
  refine ⟨D, fun k => match k with
    | 0 => c0
    | 1 => c1
    | 2 => c2
    | 3 => c3
    | _ => c4, hD, fun k q hq => ?_⟩
  match k, hq with
  | 0, hq => cases hq; exact ⟨fun n z => ⟨fun k h => (by cases h), k0, b0, p0, d0⟩, a0⟩
  | 1, hq => cases hq; exact ⟨fun n z => ⟨fun k h => (by cases h), k1, b1, p1, d1⟩, k1, p1, b1, d1, a1, e1⟩
  | 2, hq => cases hq; exact ⟨fun n z => ⟨fun k h => (by cases h), k2, b2, p2, d2⟩, k2, p2, b2, d2, a2, e2⟩
  | 3, hq => cases hq; exact ⟨fun n z => ⟨fun k h => (by cases h), k3, b3, p3, d3⟩, k3, p3, b3, d3, a3, e3⟩
  | 4, hq => cases hq; exact ⟨fun n z => ⟨fun k h => (by cases h), k4, b4, p4, d4⟩, e4⟩
  | k + 5, hq => simp [tyL] at hq
theorem st_N {args : Array Value} {s : State} (ht : ∀ w ∈ lw_tbl, w.before args s = true) : ∀ w ∈ nst, va_Nw w s := fun w hw => by
  have hi : isNst w = true := (List.mem_filter.mp hw).2
  refine va_Nw.of ?_ (ht w (List.mem_filter.mp hw).1)
  cases w <;> simp [isNst] at hi
  all_goals rfl
theorem st_E {args : Array Value} {s : State} (ht : ∀ w ∈ lw_tbl, w.before args s = true) : EC s := ⟨st_N ht, ht _ tw_29, ht _ tw_37, ht _ tw_155, ht _ tw_163⟩
abbrev nwF : List Cond := flatC (Jvm.Cond.and given_1 narrow_1)
theorem st_S0 {args : Array Value} {s : State} {A : Nat → Prop} (ht : ∀ w ∈ lw_tbl, w.before args s = true) (hn : ∀ w ∈ nwF, w.before args s = true) (hA : ∀ a : Nat, a < s.heap.size → ¬ A a) : ∃ t : Nat, va_Z "CottonWeeks$Bodies" "MADE_OF" "[I" (.ref t) A s s.heap ∧ va_T .int t 6 (fun j => .int (stV 0 j)) A s s.heap := by
  obtain ⟨t, h1, h2⟩ := va_Tof (tm := .static "CottonWeeks$Bodies" "MADE_OF" "[I") (ty := .int) (N := 6) (f := fun j => .int (stV 0 j)) (A := A) (by decide) (hn _ (by decide +kernel)) (va_eqt (hn _ (by decide +kernel))) (fun j hj => by
    rcases (show j = 0 ∨ j = 1 ∨ j = 2 ∨ j = 3 ∨ j = 4 ∨ j = 5 by omega) with rfl | rfl | rfl | rfl | rfl | rfl <;> exact va_eqt (hn _ (by decide +kernel))) hA
  exact ⟨t, va_Zof (ht _ tw_829) (ht _ (gtab_good kw_7).1) h1 hA, h2⟩
theorem st_S1 {args : Array Value} {s : State} {A : Nat → Prop} (ht : ∀ w ∈ lw_tbl, w.before args s = true) (hn : ∀ w ∈ nwF, w.before args s = true) (hA : ∀ a : Nat, a < s.heap.size → ¬ A a) : ∃ t : Nat, va_Z "CottonWeeks$Bodies" "PARENT" "[I" (.ref t) A s s.heap ∧ va_T .int t 6 (fun j => .int (stV 1 j)) A s s.heap := by
  obtain ⟨t, h1, h2⟩ := va_Tof (tm := .static "CottonWeeks$Bodies" "PARENT" "[I") (ty := .int) (N := 6) (f := fun j => .int (stV 1 j)) (A := A) (by decide) (hn _ (by decide +kernel)) (va_eqt (hn _ (by decide +kernel))) (fun j hj => by
    rcases (show j = 0 ∨ j = 1 ∨ j = 2 ∨ j = 3 ∨ j = 4 ∨ j = 5 by omega) with rfl | rfl | rfl | rfl | rfl | rfl <;> exact va_eqt (hn _ (by decide +kernel))) hA
  exact ⟨t, va_Zof (ht _ tw_891) (ht _ (gtab_good kw_7).1) h1 hA, h2⟩
theorem st_S2 {args : Array Value} {s : State} {A : Nat → Prop} (ht : ∀ w ∈ lw_tbl, w.before args s = true) (hn : ∀ w ∈ nwF, w.before args s = true) (hA : ∀ a : Nat, a < s.heap.size → ¬ A a) : ∃ t : Nat, va_Z "CottonWeeks$Bodies" "SIZE_BODY" "[I" (.ref t) A s s.heap ∧ va_T .int t 6 (fun j => .int (stV 2 j)) A s s.heap := by
  obtain ⟨t, h1, h2⟩ := va_Tof (tm := .static "CottonWeeks$Bodies" "SIZE_BODY" "[I") (ty := .int) (N := 6) (f := fun j => .int (stV 2 j)) (A := A) (by decide) (hn _ (by decide +kernel)) (va_eqt (hn _ (by decide +kernel))) (fun j hj => by
    rcases (show j = 0 ∨ j = 1 ∨ j = 2 ∨ j = 3 ∨ j = 4 ∨ j = 5 by omega) with rfl | rfl | rfl | rfl | rfl | rfl <;> exact va_eqt (hn _ (by decide +kernel))) hA
  exact ⟨t, va_Zof (ht _ tw_905) (ht _ (gtab_good kw_7).1) h1 hA, h2⟩
theorem st_S3 {args : Array Value} {s : State} {A : Nat → Prop} (ht : ∀ w ∈ lw_tbl, w.before args s = true) (hn : ∀ w ∈ nwF, w.before args s = true) (hA : ∀ a : Nat, a < s.heap.size → ¬ A a) : ∃ t : Nat, va_Z "CottonWeeks$Bodies" "MARK_BODY" "[I" (.ref t) A s s.heap ∧ va_T .int t 6 (fun j => .int (stV 3 j)) A s s.heap := by
  obtain ⟨t, h1, h2⟩ := va_Tof (tm := .static "CottonWeeks$Bodies" "MARK_BODY" "[I") (ty := .int) (N := 6) (f := fun j => .int (stV 3 j)) (A := A) (by decide) (hn _ (by decide +kernel)) (va_eqt (hn _ (by decide +kernel))) (fun j hj => by
    rcases (show j = 0 ∨ j = 1 ∨ j = 2 ∨ j = 3 ∨ j = 4 ∨ j = 5 by omega) with rfl | rfl | rfl | rfl | rfl | rfl <;> exact va_eqt (hn _ (by decide +kernel))) hA
  exact ⟨t, va_Zof (ht _ tw_907) (ht _ (gtab_good kw_7).1) h1 hA, h2⟩
theorem st_S4 {args : Array Value} {s : State} {A : Nat → Prop} (ht : ∀ w ∈ lw_tbl, w.before args s = true) (hn : ∀ w ∈ nwF, w.before args s = true) (hA : ∀ a : Nat, a < s.heap.size → ¬ A a) : ∃ t : Nat, va_Z "CottonWeeks$Tape" "MOST_VALUE" "[I" (.ref t) A s s.heap ∧ va_T .int t 8 (fun j => .int (stV 4 j)) A s s.heap := by
  obtain ⟨t, h1, h2⟩ := va_Tof (tm := .static "CottonWeeks$Tape" "MOST_VALUE" "[I") (ty := .int) (N := 8) (f := fun j => .int (stV 4 j)) (A := A) (by decide) (hn _ (by decide +kernel)) (va_eqt (hn _ (by decide +kernel))) (fun j hj => by
    rcases (show j = 0 ∨ j = 1 ∨ j = 2 ∨ j = 3 ∨ j = 4 ∨ j = 5 ∨ j = 6 ∨ j = 7 by omega) with rfl | rfl | rfl | rfl | rfl | rfl | rfl | rfl <;> exact va_eqt (hn _ (by decide +kernel))) hA
  exact ⟨t, va_Zof (ht _ tw_711) (ht _ (gtab_good kw_4).1) h1 hA, h2⟩
def txT (i : Nat) : Term := .string "CottonWeeks$Tape" (txK i).1
set_option maxRecDepth 100000 in
theorem st_X {args : Array Value} {s : State} {A : Nat → Prop} (hn : ∀ w ∈ nwF, w.before args s = true) (hA : ∀ a : Nat, a < s.heap.size → ¬ A a) : ∃ adK adV : Nat → Nat, vk_S 6 txL txB adK adV A s s.heap ∧ ∀ i : Nat, i < 6 → (txT i).eval args s none [] s = some (.ref (adK i)) := by
  refine vk_Sof (tm := txT) (fun i hi => ?_) (fun i hi => ?_) (fun i hi => ?_) (fun i hi => ?_) (fun i hi => ?_) (fun i hi j hj => ?_) (fun i j hi hj hij => ?_) hA
  · rcases (show i = 0 ∨ i = 1 ∨ i = 2 ∨ i = 3 ∨ i = 4 ∨ i = 5 by omega) with rfl | rfl | rfl | rfl | rfl | rfl <;> decide
  · rcases (show i = 0 ∨ i = 1 ∨ i = 2 ∨ i = 3 ∨ i = 4 ∨ i = 5 by omega) with rfl | rfl | rfl | rfl | rfl | rfl <;> exact hn _ (by decide +kernel)
  · rcases (show i = 0 ∨ i = 1 ∨ i = 2 ∨ i = 3 ∨ i = 4 ∨ i = 5 by omega) with rfl | rfl | rfl | rfl | rfl | rfl <;> exact hn _ (by decide +kernel)
  · rcases (show i = 0 ∨ i = 1 ∨ i = 2 ∨ i = 3 ∨ i = 4 ∨ i = 5 by omega) with rfl | rfl | rfl | rfl | rfl | rfl <;> exact hn _ (by decide +kernel)
  · rcases (show i = 0 ∨ i = 1 ∨ i = 2 ∨ i = 3 ∨ i = 4 ∨ i = 5 by omega) with rfl | rfl | rfl | rfl | rfl | rfl <;> exact hn _ (by decide +kernel)
  · rcases (show i = 0 ∨ i = 1 ∨ i = 2 ∨ i = 3 ∨ i = 4 ∨ i = 5 by omega) with rfl | rfl | rfl | rfl | rfl | rfl
    · have hj : j < 4 := hj
      rcases (show j = 0 ∨ j = 1 ∨ j = 2 ∨ j = 3 by omega) with rfl | rfl | rfl | rfl <;> exact hn _ (by decide +kernel)
    · have hj : j < 5 := hj
      rcases (show j = 0 ∨ j = 1 ∨ j = 2 ∨ j = 3 ∨ j = 4 by omega) with rfl | rfl | rfl | rfl | rfl <;> exact hn _ (by decide +kernel)
    · have hj : j < 6 := hj
      rcases (show j = 0 ∨ j = 1 ∨ j = 2 ∨ j = 3 ∨ j = 4 ∨ j = 5 by omega) with rfl | rfl | rfl | rfl | rfl | rfl <;> exact hn _ (by decide +kernel)
    · have hj : j < 5 := hj
      rcases (show j = 0 ∨ j = 1 ∨ j = 2 ∨ j = 3 ∨ j = 4 by omega) with rfl | rfl | rfl | rfl | rfl <;> exact hn _ (by decide +kernel)
    · have hj : j < 5 := hj
      rcases (show j = 0 ∨ j = 1 ∨ j = 2 ∨ j = 3 ∨ j = 4 by omega) with rfl | rfl | rfl | rfl | rfl <;> exact hn _ (by decide +kernel)
    · have hj : j < 5 := hj
      rcases (show j = 0 ∨ j = 1 ∨ j = 2 ∨ j = 3 ∨ j = 4 by omega) with rfl | rfl | rfl | rfl | rfl <;> exact hn _ (by decide +kernel)
  · rcases (show i = 0 ∨ i = 1 ∨ i = 2 ∨ i = 3 ∨ i = 4 ∨ i = 5 by omega) with rfl | rfl | rfl | rfl | rfl | rfl
    · rcases (show j = 0 ∨ j = 1 ∨ j = 2 ∨ j = 3 ∨ j = 4 ∨ j = 5 by omega) with rfl | rfl | rfl | rfl | rfl | rfl
      · exact absurd rfl hij
      · exact Or.inl (hn _ (by decide +kernel))
      · exact Or.inl (hn _ (by decide +kernel))
      · exact Or.inl (hn _ (by decide +kernel))
      · exact Or.inl (hn _ (by decide +kernel))
      · exact Or.inl (hn _ (by decide +kernel))
    · rcases (show j = 0 ∨ j = 1 ∨ j = 2 ∨ j = 3 ∨ j = 4 ∨ j = 5 by omega) with rfl | rfl | rfl | rfl | rfl | rfl
      · exact Or.inr (hn _ (by decide +kernel))
      · exact absurd rfl hij
      · exact Or.inl (hn _ (by decide +kernel))
      · exact Or.inl (hn _ (by decide +kernel))
      · exact Or.inl (hn _ (by decide +kernel))
      · exact Or.inl (hn _ (by decide +kernel))
    · rcases (show j = 0 ∨ j = 1 ∨ j = 2 ∨ j = 3 ∨ j = 4 ∨ j = 5 by omega) with rfl | rfl | rfl | rfl | rfl | rfl
      · exact Or.inr (hn _ (by decide +kernel))
      · exact Or.inr (hn _ (by decide +kernel))
      · exact absurd rfl hij
      · exact Or.inl (hn _ (by decide +kernel))
      · exact Or.inl (hn _ (by decide +kernel))
      · exact Or.inl (hn _ (by decide +kernel))
    · rcases (show j = 0 ∨ j = 1 ∨ j = 2 ∨ j = 3 ∨ j = 4 ∨ j = 5 by omega) with rfl | rfl | rfl | rfl | rfl | rfl
      · exact Or.inr (hn _ (by decide +kernel))
      · exact Or.inr (hn _ (by decide +kernel))
      · exact Or.inr (hn _ (by decide +kernel))
      · exact absurd rfl hij
      · exact Or.inl (hn _ (by decide +kernel))
      · exact Or.inl (hn _ (by decide +kernel))
    · rcases (show j = 0 ∨ j = 1 ∨ j = 2 ∨ j = 3 ∨ j = 4 ∨ j = 5 by omega) with rfl | rfl | rfl | rfl | rfl | rfl
      · exact Or.inr (hn _ (by decide +kernel))
      · exact Or.inr (hn _ (by decide +kernel))
      · exact Or.inr (hn _ (by decide +kernel))
      · exact Or.inr (hn _ (by decide +kernel))
      · exact absurd rfl hij
      · exact Or.inl (hn _ (by decide +kernel))
    · rcases (show j = 0 ∨ j = 1 ∨ j = 2 ∨ j = 3 ∨ j = 4 ∨ j = 5 by omega) with rfl | rfl | rfl | rfl | rfl | rfl
      · exact Or.inr (hn _ (by decide +kernel))
      · exact Or.inr (hn _ (by decide +kernel))
      · exact Or.inr (hn _ (by decide +kernel))
      · exact Or.inr (hn _ (by decide +kernel))
      · exact Or.inr (hn _ (by decide +kernel))
      · exact absurd rfl hij
def ad0 (t0 t1 t2 t3 t4 : Nat) (adK adV : Nat → Nat) : Nat → Nat → Nat := fun t k => match t with
  | 100 => t0
  | 101 => t1
  | 102 => t2
  | 103 => t3
  | 104 => t4
  | 110 => adK k
  | 111 => adV k
  | _ => 0
theorem st_F {args : Array Value} {s : State} {A : Nat → Prop} (ht : ∀ w ∈ lw_tbl, w.before args s = true) (hn : ∀ w ∈ nwF, w.before args s = true) (hA : ∀ a : Nat, a < s.heap.size → ¬ A a) : ∃ ad : Nat → Nat → Nat, SF A ad s := by
  obtain ⟨t0, z0⟩ := st_S0 (A := A) ht hn hA
  obtain ⟨t1, z1⟩ := st_S1 (A := A) ht hn hA
  obtain ⟨t2, z2⟩ := st_S2 (A := A) ht hn hA
  obtain ⟨t3, z3⟩ := st_S3 (A := A) ht hn hA
  obtain ⟨t4, z4⟩ := st_S4 (A := A) ht hn hA
  obtain ⟨adK, adV, hS, hE⟩ := st_X (A := A) hn hA
  refine ⟨ad0 t0 t1 t2 t3 t4 adK adV, st_N ht, fun c hc => ?_, fun c hc => ?_, hS, va_Zof (ht _ tw_645) (ht _ (gtab_good kw_15).1) (va_eqt (hn _ (by decide +kernel))) hA, va_Zqof (ht _ tw_661) (ht _ (gtab_good kw_17).1) (hn _ (by decide +kernel)) hA⟩
  · rcases (show c = 0 ∨ c = 1 ∨ c = 2 ∨ c = 3 ∨ c = 4 by omega) with rfl | rfl | rfl | rfl | rfl
    · exact z0
    · exact z1
    · exact z2
    · exact z3
    · exact z4
  · rcases (show c = 0 ∨ c = 1 ∨ c = 2 ∨ c = 3 ∨ c = 4 ∨ c = 5 by omega) with rfl | rfl | rfl | rfl | rfl | rfl
    · exact vk_R.of (A := args) (ht _ tw_631) (hE 0 (by omega))
    · exact vk_R.of (A := args) (ht _ tw_700) (hE 1 (by omega))
    · exact vk_R.of (A := args) (ht _ tw_701) (hE 2 (by omega))
    · exact vk_R.of (A := args) (ht _ tw_702) (hE 3 (by omega))
    · exact vk_R.of (A := args) (ht _ tw_703) (hE 4 (by omega))
    · exact vk_R.of (A := args) (ht _ tw_704) (hE 5 (by omega))
