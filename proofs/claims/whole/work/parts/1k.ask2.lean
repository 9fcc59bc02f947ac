theorem M_loan (g : Nat × Nat) (u : St) {i : Nat} (hi : i < 16) {l : List Int32} (h : l.length < 14) : F_X11_loanSize g (nI i) (tM u l) = some (u 89 0 i / 2, tM u (l ++ [14] ++ [10])) := by
  unfold F_X11_loanSize
  rw [G_began g _ u (by omega), bd_so, G_began g _ u (by simp; omega), bd_so, gd_of (inb_nI hi (by omega)), nI_clamp (by omega)]
  rfl
theorem M_mark (g : Nat × Nat) (u : St) {i t : Nat} (hi : i < 16) (ht : t ≤ 5) (h5 : u 88 0 i = nI t) {w r : Int32} (hw : u 60 0 10 = w) (hr : ∀ l, F_X11_numberFor g w 1 0 (tM u l) = some (r, tM u l)) {l : List Int32} (h : l.length < 9) : F_X11_markOf g (nI i) (tM u l) = some (mkV w r (u 89 0 i) t, tM u (l ++ mkL t)) := by
  have hb : inb (nI i) 16 = true := inb_nI hi (by omega)
  have e88 : ∀ l', tM u l' 88 0 i = nI t := fun _ => h5
  have e10 : ∀ l', tM u l' 60 0 10 = w := fun _ => hw
  have z0 : (0 : Int32) = 0 := rfl
  have z1 : ¬ (1 : Int32) = 0 := by decide
  rcases (show t = 0 ∨ t = 1 ∨ t = 2 ∨ t = 3 ∨ t = 4 ∨ t = 5 by omega) with rfl | rfl | rfl | rfl | rfl | rfl
  · have o1 : ∀ x : St, F_X11_isOf g (nI 0) 1 x = some (0, x) := fun x => G_isOf g x 0 (by omega) 1 (by omega)
    have o2 : ∀ x : St, F_X11_isOf g (nI 0) 2 x = some (0, x) := fun x => G_isOf g x 0 (by omega) 2 (by omega)
    have o4 : ∀ x : St, F_X11_isOf g (nI 0) 4 x = some (0, x) := fun x => G_isOf g x 0 (by omega) 4 (by omega)
    have n5 : ¬ nI 0 = (5 : Int32) := by decide
    rw [F_X11_markOf, gd_of hb, nI_clamp (show i < 2 ^ 31 by omega), e88, if_neg n5, F_X11_markOf_18, o4, bd_so, if_pos z0, F_X11_markOf_32, o2, bd_so, if_pos z0, F_X11_markOf_46, G_began g _ u (by first | omega | (simp; omega)), bd_so, o2, bd_so, if_pos z0, o4, bd_so, if_pos z0, F_X11_markOf_91, if_neg n5, Int32.add_zero, e10]
    rfl
  · have o1 : ∀ x : St, F_X11_isOf g (nI 1) 1 x = some (1, x) := fun x => G_isOf g x 1 (by omega) 1 (by omega)
    have o2 : ∀ x : St, F_X11_isOf g (nI 1) 2 x = some (0, x) := fun x => G_isOf g x 1 (by omega) 2 (by omega)
    have o4 : ∀ x : St, F_X11_isOf g (nI 1) 4 x = some (0, x) := fun x => G_isOf g x 1 (by omega) 4 (by omega)
    have n5 : ¬ nI 1 = (5 : Int32) := by decide
    rw [F_X11_markOf, gd_of hb, nI_clamp (show i < 2 ^ 31 by omega), e88, if_neg n5, F_X11_markOf_18, o4, bd_so, if_pos z0, F_X11_markOf_32, o2, bd_so, if_pos z0, F_X11_markOf_46, G_began g _ u (by first | omega | (simp; omega)), bd_so, o2, bd_so, if_pos z0, o4, bd_so, if_pos z0, F_X11_markOf_91, if_neg n5, Int32.add_zero, e10]
    rfl
  · have o1 : ∀ x : St, F_X11_isOf g (nI 2) 1 x = some (1, x) := fun x => G_isOf g x 2 (by omega) 1 (by omega)
    have o2 : ∀ x : St, F_X11_isOf g (nI 2) 2 x = some (1, x) := fun x => G_isOf g x 2 (by omega) 2 (by omega)
    have o4 : ∀ x : St, F_X11_isOf g (nI 2) 4 x = some (0, x) := fun x => G_isOf g x 2 (by omega) 4 (by omega)
    have n5 : ¬ nI 2 = (5 : Int32) := by decide
    rw [F_X11_markOf, gd_of hb, nI_clamp (show i < 2 ^ 31 by omega), e88, if_neg n5, F_X11_markOf_18, o4, bd_so, if_pos z0, F_X11_markOf_32, o2, bd_so, if_neg z1, G_began g _ u (by first | omega | (simp; omega)), bd_so, F_X11_markOf_46, G_began g _ u (by first | omega | (simp; omega)), bd_so, o2, bd_so, if_neg z1, e10, F_X11_markOf_91, if_neg n5]
    simp only [List.append_assoc, List.singleton_append]
    rfl
  · have o1 : ∀ x : St, F_X11_isOf g (nI 3) 1 x = some (1, x) := fun x => G_isOf g x 3 (by omega) 1 (by omega)
    have o2 : ∀ x : St, F_X11_isOf g (nI 3) 2 x = some (1, x) := fun x => G_isOf g x 3 (by omega) 2 (by omega)
    have o4 : ∀ x : St, F_X11_isOf g (nI 3) 4 x = some (0, x) := fun x => G_isOf g x 3 (by omega) 4 (by omega)
    have n5 : ¬ nI 3 = (5 : Int32) := by decide
    rw [F_X11_markOf, gd_of hb, nI_clamp (show i < 2 ^ 31 by omega), e88, if_neg n5, F_X11_markOf_18, o4, bd_so, if_pos z0, F_X11_markOf_32, o2, bd_so, if_neg z1, G_began g _ u (by first | omega | (simp; omega)), bd_so, F_X11_markOf_46, G_began g _ u (by first | omega | (simp; omega)), bd_so, o2, bd_so, if_neg z1, e10, F_X11_markOf_91, if_neg n5]
    simp only [List.append_assoc, List.singleton_append]
    rfl
  · have o1 : ∀ x : St, F_X11_isOf g (nI 4) 1 x = some (0, x) := fun x => G_isOf g x 4 (by omega) 1 (by omega)
    have o2 : ∀ x : St, F_X11_isOf g (nI 4) 2 x = some (0, x) := fun x => G_isOf g x 4 (by omega) 2 (by omega)
    have o4 : ∀ x : St, F_X11_isOf g (nI 4) 4 x = some (1, x) := fun x => G_isOf g x 4 (by omega) 4 (by omega)
    have n5 : ¬ nI 4 = (5 : Int32) := by decide
    rw [F_X11_markOf, gd_of hb, nI_clamp (show i < 2 ^ 31 by omega), e88, if_neg n5, F_X11_markOf_18, o4, bd_so, if_neg z1, G_began g _ u (by first | omega | (simp; omega)), bd_so, F_X11_markOf_32, o2, bd_so, if_pos z0, F_X11_markOf_46, G_began g _ u (by first | omega | (simp; omega)), bd_so, o2, bd_so, if_pos z0, o4, bd_so, if_neg z1, e10, hr, bd_so, F_X11_markOf_91, if_neg n5]
    simp only [List.append_assoc, List.singleton_append]
    rfl
  · have o1 : ∀ x : St, F_X11_isOf g (nI 5) 1 x = some (0, x) := fun x => G_isOf g x 5 (by omega) 1 (by omega)
    have o2 : ∀ x : St, F_X11_isOf g (nI 5) 2 x = some (0, x) := fun x => G_isOf g x 5 (by omega) 2 (by omega)
    have o4 : ∀ x : St, F_X11_isOf g (nI 5) 4 x = some (1, x) := fun x => G_isOf g x 5 (by omega) 4 (by omega)
    have n5 : nI 5 = (5 : Int32) := rfl
    rw [F_X11_markOf, gd_of hb, nI_clamp (show i < 2 ^ 31 by omega), e88, if_pos n5, G_began g _ u (by first | omega | (simp; omega)), bd_so, F_X11_markOf_18, o4, bd_so, if_neg z1, G_began g _ u (by first | omega | (simp; omega)), bd_so, F_X11_markOf_32, o2, bd_so, if_pos z0, F_X11_markOf_46, G_began g _ u (by first | omega | (simp; omega)), bd_so, o2, bd_so, if_pos z0, o4, bd_so, if_neg z1, e10, hr, bd_so, F_X11_markOf_91, if_pos n5, M_loan g u hi (by simp; omega), bd_so]
    simp only [List.append_assoc, List.singleton_append]
    rfl
def szL : Nat → List Int32 := fun t => match t with
  | 1 => [11, 10] ++ mkL 1
  | 2 => [12, 11, 10] ++ mkL 2
  | 3 => [13, 12, 11, 10] ++ mkL 3
  | 5 => [14, 10]
  | _ => [10]
def szV (w r n m : Int32) : Nat → Int32 := fun t => match t with
  | 1 => n + mkV w r n 1
  | 2 => n + mkV w r n 2 + m
  | 3 => 2 * (n + mkV w r n 3 + m)
  | 5 => n / 2
  | _ => n
theorem X_size (g : Nat × Nat) (s : St) {i t j c : Nat} (hi : i < 16) (ht : t ≤ 5) (h5 : s 39 0 i = nI t) (hc : s 38 0 4 = nI c) (hc2 : c ≤ 16) (hm : t = 2 ∨ t = 3 → j < c ∧ s 41 0 i = nI j) : F_X0_begin g 12 (stV 2 t) (nI i) 0 (tX s []) = some (szV (s 38 0 6) (s 38 0 7) (s 40 0 i) (s 40 0 j) t, tX s (szL t)) := by
  rcases (show t = 0 ∨ t = 1 ∨ t = 2 ∨ t = 3 ∨ t = 4 ∨ t = 5 by omega) with rfl | rfl | rfl | rfl | rfl | rfl
  · exact bg10 g s (d := 11) (e := 0) hi (by omega) (l := []) (by decide)
  · exact bg11 g s (d := 8) (e := 0) hi ht h5 (by omega) (l := []) (by decide)
  · exact bg12 g s (d := 7) (e := 0) hi ht h5 hc hc2 (hm (by omega)).1 (hm (by omega)).2 (by omega) (l := []) (by decide)
  · exact bg13 g s (d := 6) (e := 0) hi ht h5 hc hc2 (hm (by omega)).1 (hm (by omega)).2 (by omega) (l := []) (by decide)
  · exact bg10 g s (d := 11) (e := 0) hi (by omega) (l := []) (by decide)
  · exact bg14 g s (d := 10) (e := 0) hi (by omega) (l := []) (by decide)
theorem M_size (g : Nat × Nat) (u : St) {i t j : Nat} (hi : i < 16) (ht : t ≤ 5) (h5 : u 88 0 i = nI t) (hm : t = 2 ∨ t = 3 → j < 16 ∧ u 90 0 i = nI j) {w r : Int32} (hw : u 60 0 10 = w) (hr : ∀ l, F_X11_numberFor g w 1 0 (tM u l) = some (r, tM u l)) : F_X11_sizeBy g (nI i) (tM u []) = some (szV w r (u 89 0 i) (u 89 0 j) t, tM u (szL t)) := by
  have hb : inb (nI i) 16 = true := inb_nI hi (by omega)
  have e88 : ∀ l', tM u l' 88 0 i = nI t := fun _ => h5
  have e89 : ∀ l' x, tM u l' 89 0 x = u 89 0 x := fun _ _ => rfl
  have e90 : ∀ l', tM u l' 90 0 i = u 90 0 i := fun _ => rfl
  have z0 : (0 : Int32) = 0 := rfl
  have z1 : ¬ (1 : Int32) = 0 := by decide
  rcases (show t = 0 ∨ t = 1 ∨ t = 2 ∨ t = 3 ∨ t = 4 ∨ t = 5 by omega) with rfl | rfl | rfl | rfl | rfl | rfl
  · have o1 : ∀ x : St, F_X11_isOf g (nI 0) 1 x = some (0, x) := fun x => G_isOf g x 0 (by omega) 1 (by omega)
    have o2 : ∀ x : St, F_X11_isOf g (nI 0) 2 x = some (0, x) := fun x => G_isOf g x 0 (by omega) 2 (by omega)
    have o4 : ∀ x : St, F_X11_isOf g (nI 0) 4 x = some (0, x) := fun x => G_isOf g x 0 (by omega) 4 (by omega)
    have n5 : ¬ nI 0 = (5 : Int32) := by decide
    have n3 : ¬ nI 0 = (3 : Int32) := by decide
    rw [F_X11_sizeBy, gd_of hb, nI_clamp (show i < 2 ^ 31 by omega), e88, if_neg n5, if_neg n3, F_X11_sizeBy_29, o2, bd_so, if_pos z0, F_X11_sizeBy_43, o1, bd_so, if_pos z0, F_X11_sizeBy_57, G_began g _ u (by simp), bd_so, gd_of hb, nI_clamp (show i < 2 ^ 31 by omega), o1, bd_so, if_pos z0, e89, F_X11_sizeBy_86, o2, bd_so, if_pos z0, F_X11_sizeBy_112, if_neg n3, Int32.add_zero, Int32.add_zero]
    rfl
  · have o1 : ∀ x : St, F_X11_isOf g (nI 1) 1 x = some (1, x) := fun x => G_isOf g x 1 (by omega) 1 (by omega)
    have o2 : ∀ x : St, F_X11_isOf g (nI 1) 2 x = some (0, x) := fun x => G_isOf g x 1 (by omega) 2 (by omega)
    have o4 : ∀ x : St, F_X11_isOf g (nI 1) 4 x = some (0, x) := fun x => G_isOf g x 1 (by omega) 4 (by omega)
    have n5 : ¬ nI 1 = (5 : Int32) := by decide
    have n3 : ¬ nI 1 = (3 : Int32) := by decide
    rw [F_X11_sizeBy, gd_of hb, nI_clamp (show i < 2 ^ 31 by omega), e88, if_neg n5, if_neg n3, F_X11_sizeBy_29, o2, bd_so, if_pos z0, F_X11_sizeBy_43, o1, bd_so, if_neg z1, G_began g _ u (by simp), bd_so, F_X11_sizeBy_57, G_began g _ u (by simp), bd_so, gd_of hb, nI_clamp (show i < 2 ^ 31 by omega), o1, bd_so, if_neg z1, M_mark g u hi ht h5 hw hr (by simp), bd_so, e89, F_X11_sizeBy_86, o2, bd_so, if_pos z0, F_X11_sizeBy_112, if_neg n3, Int32.add_zero]
    rfl
  · have o1 : ∀ x : St, F_X11_isOf g (nI 2) 1 x = some (1, x) := fun x => G_isOf g x 2 (by omega) 1 (by omega)
    have o2 : ∀ x : St, F_X11_isOf g (nI 2) 2 x = some (1, x) := fun x => G_isOf g x 2 (by omega) 2 (by omega)
    have o4 : ∀ x : St, F_X11_isOf g (nI 2) 4 x = some (0, x) := fun x => G_isOf g x 2 (by omega) 4 (by omega)
    have n5 : ¬ nI 2 = (5 : Int32) := by decide
    have n3 : ¬ nI 2 = (3 : Int32) := by decide
    obtain ⟨hj, hm2⟩ := hm (by omega)
    rw [F_X11_sizeBy, gd_of hb, nI_clamp (show i < 2 ^ 31 by omega), e88, if_neg n5, if_neg n3, F_X11_sizeBy_29, o2, bd_so, if_neg z1, G_began g _ u (by simp), bd_so, F_X11_sizeBy_43, o1, bd_so, if_neg z1, G_began g _ u (by simp), bd_so, F_X11_sizeBy_57, G_began g _ u (by simp), bd_so, gd_of hb, nI_clamp (show i < 2 ^ 31 by omega), o1, bd_so, if_neg z1, M_mark g u hi ht h5 hw hr (by simp), bd_so, e89, F_X11_sizeBy_86, o2, bd_so, if_neg z1, gd_of hb, nI_clamp (show i < 2 ^ 31 by omega), e90, hm2, gd_of (inb_nI hj (by omega)), nI_clamp (show j < 2 ^ 31 by omega), e89, F_X11_sizeBy_112, if_neg n3]
    rfl
  · have o1 : ∀ x : St, F_X11_isOf g (nI 3) 1 x = some (1, x) := fun x => G_isOf g x 3 (by omega) 1 (by omega)
    have o2 : ∀ x : St, F_X11_isOf g (nI 3) 2 x = some (1, x) := fun x => G_isOf g x 3 (by omega) 2 (by omega)
    have o4 : ∀ x : St, F_X11_isOf g (nI 3) 4 x = some (0, x) := fun x => G_isOf g x 3 (by omega) 4 (by omega)
    have n5 : ¬ nI 3 = (5 : Int32) := by decide
    have n3 : nI 3 = (3 : Int32) := rfl
    obtain ⟨hj, hm2⟩ := hm (by omega)
    rw [F_X11_sizeBy, gd_of hb, nI_clamp (show i < 2 ^ 31 by omega), e88, if_neg n5, if_pos n3, G_began g _ u (by simp), bd_so, F_X11_sizeBy_29, o2, bd_so, if_neg z1, G_began g _ u (by simp), bd_so, F_X11_sizeBy_43, o1, bd_so, if_neg z1, G_began g _ u (by simp), bd_so, F_X11_sizeBy_57, G_began g _ u (by simp), bd_so, gd_of hb, nI_clamp (show i < 2 ^ 31 by omega), o1, bd_so, if_neg z1, M_mark g u hi ht h5 hw hr (by simp), bd_so, e89, F_X11_sizeBy_86, o2, bd_so, if_neg z1, gd_of hb, nI_clamp (show i < 2 ^ 31 by omega), e90, hm2, gd_of (inb_nI hj (by omega)), nI_clamp (show j < 2 ^ 31 by omega), e89, F_X11_sizeBy_112, if_pos n3]
    rfl
  · have o1 : ∀ x : St, F_X11_isOf g (nI 4) 1 x = some (0, x) := fun x => G_isOf g x 4 (by omega) 1 (by omega)
    have o2 : ∀ x : St, F_X11_isOf g (nI 4) 2 x = some (0, x) := fun x => G_isOf g x 4 (by omega) 2 (by omega)
    have o4 : ∀ x : St, F_X11_isOf g (nI 4) 4 x = some (1, x) := fun x => G_isOf g x 4 (by omega) 4 (by omega)
    have n5 : ¬ nI 4 = (5 : Int32) := by decide
    have n3 : ¬ nI 4 = (3 : Int32) := by decide
    rw [F_X11_sizeBy, gd_of hb, nI_clamp (show i < 2 ^ 31 by omega), e88, if_neg n5, if_neg n3, F_X11_sizeBy_29, o2, bd_so, if_pos z0, F_X11_sizeBy_43, o1, bd_so, if_pos z0, F_X11_sizeBy_57, G_began g _ u (by simp), bd_so, gd_of hb, nI_clamp (show i < 2 ^ 31 by omega), o1, bd_so, if_pos z0, e89, F_X11_sizeBy_86, o2, bd_so, if_pos z0, F_X11_sizeBy_112, if_neg n3, Int32.add_zero, Int32.add_zero]
    rfl
  · have o1 : ∀ x : St, F_X11_isOf g (nI 5) 1 x = some (0, x) := fun x => G_isOf g x 5 (by omega) 1 (by omega)
    have o2 : ∀ x : St, F_X11_isOf g (nI 5) 2 x = some (0, x) := fun x => G_isOf g x 5 (by omega) 2 (by omega)
    have o4 : ∀ x : St, F_X11_isOf g (nI 5) 4 x = some (1, x) := fun x => G_isOf g x 5 (by omega) 4 (by omega)
    have n5 : nI 5 = (5 : Int32) := rfl
    have n3 : ¬ nI 5 = (3 : Int32) := by decide
    rw [F_X11_sizeBy, gd_of hb, nI_clamp (show i < 2 ^ 31 by omega), e88, if_pos n5, M_loan g u hi (by simp), bd_so]
    rfl
theorem op_ask {N : Nat} {g : Nat × Nat} {s u : St} (h : Rel N g s u) (a b : Int32) : Same N g (F_X10_ask g a b s) (F_X11_ask g a b u) := by
  have hR := h.read
  obtain ⟨hA, hB, hC, hD, hE, hF, hG, hH, hI, hJ, hK, hL, hM⟩ := id hR
  obtain ⟨c, hc, h1, h2, h3⟩ := id hK
  unfold F_X10_ask F_X11_ask F_X0_hasThing F_X11_isThing
  simp only [F_within, in_0w, in_0_1, h1, h2, bd_so, gd_of (isb_bI _), bI_if]
  by_cases q : bw a 0 (nI c - 1) = true
  · by_cases q2 : bw b 0 1 = true
    · obtain ⟨i, hi, rfl⟩ := bw_lt (by omega) q
      obtain ⟨h4, h5, h6, ⟨t, ht, h7⟩, h8⟩ := h3 i hi
      have hwk : up u 60 0 0 0 60 0 10 = s 4 0 13 := hC.2.2.2.2.2.1
      obtain ⟨r, r1, r2⟩ := rule_same (g := g) hH (show 4 ≤ 6 by omega) (s 4 0 13)
      have r1' : F_X6_inForce g (s 4 0 13) 4 s = some (r, s) := r1
      have hr : ∀ l, F_X11_numberFor g (s 4 0 13) 1 0 (tM (up u 60 0 0 0) l) = some (r, tM (up u 60 0 0 0) l) := fun l => by
        obtain ⟨r', x1, x2⟩ := rule_same (g := g) (s := s) (u := tM (up u 60 0 0 0) l) hH (show 4 ≤ 6 by omega) (s 4 0 13)
        have : r' = r := by
          have := x1.symm.trans r1
          exact congrArg Prod.fst (Option.some.inj this)
        rw [this] at x2
        exact x2
      have hm : ∃ j : Nat, t = 2 ∨ t = 3 → j < i ∧ s 41 0 i = nI j := by
        by_cases z : t = 2 ∨ t = 3
        · obtain ⟨j, j1, j2⟩ := h8 (by
            rw [h7]
            rcases z with rfl | rfl
            · exact Or.inl rfl
            · exact Or.inr rfl)
          exact ⟨j, fun _ => ⟨j1, j2⟩⟩
        · exact ⟨0, fun y => absurd y z⟩
      obtain ⟨j, hm⟩ := hm
      have fin : ∀ l : List Int32, l.length ≤ 16 → Rel (N + 1) g (tX (up (up s 38 0 6 (s 4 0 13)) 38 0 7 r) l) (tM (up u 60 0 0 0) l) := fun l hl => by
        refine ⟨hA, hB, hC, hD, hE, hF, hG, hH, hI, hJ, hK, ⟨l.length, hl, by simp [tX], by simp [tM], fun k hk => ?_⟩, hM⟩
        simp [tX, tM, hk]
      have e0 : up (up (up s 38 0 5 0) 38 0 6 (s 4 0 13)) 38 0 7 r = tX (up (up s 38 0 6 (s 4 0 13)) 38 0 7 r) [] := by
        rw [← tX_0]
        funext x y z
        unfold up
        by_cases e1 : x = 38
        · by_cases e2 : y = 0
          · subst e1
            subst e2
            simp only [if_true]
            by_cases e3 : z = 7
            · subst e3
              rfl
            · by_cases e4 : z = 6
              · subst e4
                rfl
              · simp [e3, e4]
          · simp [e2]
        · simp [e1]
      have s39 : up (up s 38 0 6 (s 4 0 13)) 38 0 7 r 39 0 i = nI t := h7
      have s384 : up (up s 38 0 6 (s 4 0 13)) 38 0 7 r 38 0 4 = nI c := h1
      have s386 : up (up s 38 0 6 (s 4 0 13)) 38 0 7 r 38 0 6 = s 4 0 13 := rfl
      have s387 : up (up s 38 0 6 (s 4 0 13)) 38 0 7 r 38 0 7 = r := rfl
      have u88 : up u 60 0 0 0 88 0 i = nI t := h4.trans h7
      simp only [q, q2, if_true, r1', bd_so]
      unfold F_X0_answer
      rw [e0]
      obtain ⟨x, hx, rfl⟩ := bw_of (n := 1) rfl q2
      rcases (show x = 0 ∨ x = 1 by omega) with rfl | rfl
      · have x1 := F_bodyFor0 g (up (up s 38 0 6 (s 4 0 13)) 38 0 7 r) (i := i) (by omega) ht s39 []
        have x2 := X_size g (up (up s 38 0 6 (s 4 0 13)) 38 0 7 r) (i := i) (by omega) ht s39 s384 hc (j := j) (fun z => ⟨by have := (hm z).1; omega, (hm z).2⟩)
        have m1 := M_size g (up u 60 0 0 0) (i := i) (j := j) (by omega) ht u88 (fun z => ⟨by have := (hm z).1; omega, h6.trans (hm z).2⟩) hwk hr
        have u89 : up u 60 0 0 0 89 0 i = s 40 0 i := h5
        have u89j : t = 2 ∨ t = 3 → up u 60 0 0 0 89 0 j = s 40 0 j := fun z => (h3 j (by have := (hm z).1; omega)).2.1
        have ev : szV (s 4 0 13) r (up u 60 0 0 0 89 0 i) (up u 60 0 0 0 89 0 j) t = szV (s 4 0 13) r (s 40 0 i) (s 40 0 j) t := by
          rw [u89]
          rcases (show t = 0 ∨ t = 1 ∨ t = 2 ∨ t = 3 ∨ t = 4 ∨ t = 5 by omega) with rfl | rfl | rfl | rfl | rfl | rfl
          · rfl
          · rfl
          · rw [u89j (by omega)]
          · rw [u89j (by omega)]
          · rfl
          · rfl
        rw [nI_0, x1, bd_so, x2, bd_so, bd_so, if_pos rfl, tM_0, m1, bd_so, ev]
        exact ⟨_, _, _, rfl, rfl, fin (szL t) (by
          rcases (show t = 0 ∨ t = 1 ∨ t = 2 ∨ t = 3 ∨ t = 4 ∨ t = 5 by omega) with rfl | rfl | rfl | rfl | rfl | rfl <;> decide)⟩
      · have x1 := F_bodyFor1 g (up (up s 38 0 6 (s 4 0 13)) 38 0 7 r) (i := i) (by omega) ht s39 []
        have x2 := X_mark g (up (up s 38 0 6 (s 4 0 13)) 38 0 7 r) (i := i) (d := 9) (e := 0) (by omega) ht s39 (by omega) (l := []) (by decide)
        have m1 := M_mark g (up u 60 0 0 0) (i := i) (by omega) ht u88 hwk hr (l := []) (by decide)
        have u89 : up u 60 0 0 0 89 0 i = s 40 0 i := h5
        have n1 : nI 1 = 1 := rfl
        rw [nI_0] at x2
        rw [n1, x1, bd_so, x2, bd_so, bd_so, if_neg (by decide), tM_0, m1, bd_so, u89]
        exact ⟨_, _, _, rfl, rfl, fin (mkL t) (by
          rcases (show t = 0 ∨ t = 1 ∨ t = 2 ∨ t = 3 ∨ t = 4 ∨ t = 5 by omega) with rfl | rfl | rfl | rfl | rfl | rfl <;> decide)⟩
    · simp only [q, q2, if_true]
      exact ⟨_, _, _, rfl, rfl, hR⟩
  · simp only [q]
    exact ⟨_, _, _, rfl, rfl, hR⟩
