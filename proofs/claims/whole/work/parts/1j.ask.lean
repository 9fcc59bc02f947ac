/-! ask -/
def tX (s : St) (l : List Int32) : St := fun a b c => if a = 42 then (if b = 0 then (if c < l.length then l.getD c 0 else s a b c) else s a b c) else if a = 38 ∧ b = 0 ∧ c = 5 then nI l.length else s a b c
def tM (s : St) (l : List Int32) : St := fun a b c => if a = 94 then (if b = 0 then (if c < l.length then l.getD c 0 else s a b c) else s a b c) else if a = 60 ∧ b = 0 ∧ c = 56 then nI l.length else s a b c
theorem tX_0 (s : St) : up s 38 0 5 0 = tX s [] := by
  funext a b c
  unfold up tX
  by_cases h : a = 42
  · subst h
    simp
  · by_cases h2 : a = 38
    · by_cases h3 : b = 0
      · by_cases h4 : c = 5
        · simp [h2, h3, h4, nI_0]
        · simp [h2, h3, h4]
      · simp [h2, h3]
    · simp [h, h2]
theorem tM_0 (s : St) : up s 60 0 56 0 = tM s [] := by
  funext a b c
  unfold up tM
  by_cases h : a = 94
  · subst h
    simp
  · by_cases h2 : a = 60
    · by_cases h3 : b = 0
      · by_cases h4 : c = 56
        · simp [h2, h3, h4, nI_0]
        · simp [h2, h3, h4]
      · simp [h2, h3]
    · simp [h, h2]
theorem getD_app {l : List Int32} {b : Int32} {c : Nat} : (l ++ [b]).getD c 0 = if c < l.length then l.getD c 0 else if c = l.length then b else 0 := by
  by_cases h : c < l.length
  · rw [if_pos h]
    simp [List.getD, List.getElem?_append_left h]
  · rw [if_neg h]
    by_cases h2 : c = l.length
    · subst h2
      simp [List.getD]
    · rw [if_neg h2]
      have : (l ++ [b]).length ≤ c := by
        simp
        omega
      simp [List.getD, List.getElem?_eq_none this]
theorem F_leave (g : Nat × Nat) (b : Int32) (s : St) {l : List Int32} (h : l.length < 16) : F_X0_leaveTrace g b (tX s l) = some ((), tX s (l ++ [b])) := by
  have e : tX s l 38 0 5 = nI l.length := by simp [tX]
  unfold F_X0_leaveTrace
  rw [e, if_neg (show ¬ (16 : Int32) ≤ nI l.length from nI_ge (b := 16) h (by omega)), gd_of (inb_nI h (by omega)), nI_clamp (by omega), nI_1]
  congr 2
  funext x y c
  unfold up tX
  rw [getD_app, List.length_append]
  by_cases h1 : x = 42
  · subst h1
    by_cases h2 : y = 0
    · subst h2
      by_cases h3 : c = l.length
      · subst h3
        simp
      · by_cases h4 : c < l.length
        · have h5 : c < l.length + 1 := by omega
          simp [h3, h4, h5]
        · have h5 : ¬ c < l.length + 1 := by omega
          simp [h3, h4, h5]
    · simp [h2]
  · by_cases h2 : x = 38
    · by_cases h3 : y = 0
      · by_cases h4 : c = 5
        · simp [h2, h3, h4]
        · simp [h2, h3, h4]
      · simp [h2, h3]
    · simp [h1, h2]
theorem G_began (g : Nat × Nat) (b : Int32) (s : St) {l : List Int32} (h : l.length < 16) : F_X11_began g b (tM s l) = some ((), tM s (l ++ [b])) := by
  have e : tM s l 60 0 56 = nI l.length := by simp [tM]
  unfold F_X11_began
  rw [e, if_neg (show ¬ (16 : Int32) ≤ nI l.length from nI_ge (b := 16) h (by omega)), gd_of (inb_nI h (by omega)), nI_clamp (by omega), nI_1]
  congr 2
  funext x y c
  unfold up tM
  rw [getD_app, List.length_append]
  by_cases h1 : x = 94
  · subst h1
    by_cases h2 : y = 0
    · subst h2
      by_cases h3 : c = l.length
      · subst h3
        simp
      · by_cases h4 : c < l.length
        · have h5 : c < l.length + 1 := by omega
          simp [h3, h4, h5]
        · have h5 : ¬ c < l.length + 1 := by omega
          simp [h3, h4, h5]
    · simp [h2]
  · by_cases h2 : x = 60
    · by_cases h3 : y = 0
      · by_cases h4 : c = 56
        · simp [h2, h3, h4]
        · simp [h2, h3, h4]
      · simp [h2, h3]
    · simp [h1, h2]
theorem bg10 (g : Nat × Nat) (s : St) {i d e : Nat} (hi : i < 16) (he : e ≤ 9) {l : List Int32} (h : l.length < 16) : F_X0_begin g (d + 1) 10 (nI i) (nI e) (tX s l) = some (s 40 0 i, tX s (l ++ [10])) := by
  rw [F_X0_begin, if_pos (show nI e ≤ (20 : Int32) from nI_le (b := 20) (by omega) (by omega)), F_leave g _ s h, bd_so, if_pos rfl, gd_of (inb_nI hi (by omega)), nI_clamp (by omega)]
  rfl
theorem bg20 (g : Nat × Nat) (s : St) {i d e : Nat} (he : e ≤ 9) {l : List Int32} (h : l.length < 16) : F_X0_begin g (d + 1) 20 (nI i) (nI e) (tX s l) = some (s 38 0 6, tX s (l ++ [20])) := by
  rw [F_X0_begin, if_pos (show nI e ≤ (20 : Int32) from nI_le (b := 20) (by omega) (by omega)), F_leave g _ s h, bd_so, if_neg (by decide), if_neg (by decide), if_neg (by decide), if_neg (by decide), if_neg (by decide), if_pos rfl]
  rfl
theorem bg21 (g : Nat × Nat) (s : St) {i d e : Nat} (he : e ≤ 8) {l : List Int32} (h : l.length < 15) : F_X0_begin g (d + 2) 21 (nI i) (nI e) (tX s l) = some (s 38 0 6 + 100, tX s (l ++ [21] ++ [20])) := by
  rw [F_X0_begin, if_pos (show nI e ≤ (20 : Int32) from nI_le (b := 20) (by omega) (by omega)), F_leave g _ s (by omega), bd_so, if_neg (by decide), if_neg (by decide), if_neg (by decide), if_neg (by decide), if_neg (by decide), if_neg (by decide), if_pos rfl, nI_1, bg20 g s (by omega) (by simp; omega), bd_so]
theorem bg22 (g : Nat × Nat) (s : St) {i d e : Nat} (he : e ≤ 8) {l : List Int32} (h : l.length < 15) : F_X0_begin g (d + 2) 22 (nI i) (nI e) (tX s l) = some (s 38 0 6 + s 38 0 7, tX s (l ++ [22] ++ [20])) := by
  rw [F_X0_begin, if_pos (show nI e ≤ (20 : Int32) from nI_le (b := 20) (by omega) (by omega)), F_leave g _ s (by omega), bd_so, if_neg (by decide), if_neg (by decide), if_neg (by decide), if_neg (by decide), if_neg (by decide), if_neg (by decide), if_neg (by decide), if_pos rfl, nI_1, bg20 g s (by omega) (by simp; omega), bd_so]
  rfl
theorem bg14 (g : Nat × Nat) (s : St) {i d e : Nat} (hi : i < 16) (he : e ≤ 8) {l : List Int32} (h : l.length < 15) : F_X0_begin g (d + 2) 14 (nI i) (nI e) (tX s l) = some (s 40 0 i / 2, tX s (l ++ [14] ++ [10])) := by
  rw [F_X0_begin, if_pos (show nI e ≤ (20 : Int32) from nI_le (b := 20) (by omega) (by omega)), F_leave g _ s (by omega), bd_so, if_neg (by decide), if_neg (by decide), if_neg (by decide), if_neg (by decide), if_pos rfl, nI_1, bg10 g s hi (by omega) (by simp; omega), bd_so]
theorem F_bodyFor0 (g : Nat × Nat) (s : St) {i t : Nat} (hi : i < 16) (ht : t ≤ 5) (h : s 39 0 i = nI t) (l : List Int32) : F_X0_bodyFor g (nI i) 0 (tX s l) = some (stV 2 t, tX s l) := by
  have e : tX s l 39 0 i = nI t := h
  unfold F_X0_bodyFor
  rw [if_pos rfl, gd_of (inb_nI hi (by omega)), nI_clamp (by omega), e, gd_of (inb_nI (by omega) (by omega)), nI_clamp (by omega)]
theorem F_bodyFor1 (g : Nat × Nat) (s : St) {i t : Nat} (hi : i < 16) (ht : t ≤ 5) (h : s 39 0 i = nI t) (l : List Int32) : F_X0_bodyFor g (nI i) 1 (tX s l) = some (stV 3 t, tX s l) := by
  have e : tX s l 39 0 i = nI t := h
  unfold F_X0_bodyFor
  rw [if_neg (by decide), gd_of (inb_nI hi (by omega)), nI_clamp (by omega), e, gd_of (inb_nI (by omega) (by omega)), nI_clamp (by omega)]
theorem bg23 (g : Nat × Nat) (s : St) {i d e : Nat} (hi : i < 16) (h5 : s 39 0 i = nI 5) (he : e ≤ 7) {l : List Int32} (h : l.length < 12) : F_X0_begin g (d + 3) 23 (nI i) (nI e) (tX s l) = some (s 38 0 6 + s 38 0 7 + s 40 0 i / 2, tX s (l ++ [23] ++ [22] ++ [20] ++ [14] ++ [10])) := by
  rw [F_X0_begin, if_pos (show nI e ≤ (20 : Int32) from nI_le (b := 20) (by omega) (by omega)), F_leave g _ s (by omega), bd_so, if_neg (by decide), if_neg (by decide), if_neg (by decide), if_neg (by decide), if_neg (by decide), if_neg (by decide), if_neg (by decide), if_neg (by decide), if_pos rfl, nI_1, bg22 g s (by omega) (by simp; omega), bd_so, F_bodyFor0 g s hi (by omega) h5, bd_so, show stV 2 5 = 14 from rfl, bg14 g s hi (by omega) (by simp; omega), bd_so]
/-- the MARK that a THING of sort t gives, and its trace -/
def mkL : Nat → List Int32 := fun t => match t with
  | 2 => [21, 20]
  | 3 => [21, 20]
  | 4 => [22, 20]
  | 5 => [23, 22, 20, 14, 10]
  | _ => [20]
def mkV (w r n : Int32) : Nat → Int32 := fun t => match t with
  | 2 => w + 100
  | 3 => w + 100
  | 4 => w + r
  | 5 => w + r + n / 2
  | _ => w
theorem X_mark (g : Nat × Nat) (s : St) {i d e t : Nat} (hi : i < 16) (ht : t ≤ 5) (h5 : s 39 0 i = nI t) (he : e ≤ 6) {l : List Int32} (h : l.length < 11) : F_X0_begin g (d + 3) (stV 3 t) (nI i) (nI e) (tX s l) = some (mkV (s 38 0 6) (s 38 0 7) (s 40 0 i) t, tX s (l ++ mkL t)) := by
  rcases (show t = 0 ∨ t = 1 ∨ t = 2 ∨ t = 3 ∨ t = 4 ∨ t = 5 by omega) with rfl | rfl | rfl | rfl | rfl | rfl
  · exact bg20 g s (d := d + 2) (by omega) (by omega)
  · exact bg20 g s (d := d + 2) (by omega) (by omega)
  · have := bg21 g s (i := i) (d := d + 1) (e := e) (by omega) (l := l) (by omega)
    rw [List.append_assoc] at this
    exact this
  · have := bg21 g s (i := i) (d := d + 1) (e := e) (by omega) (l := l) (by omega)
    rw [List.append_assoc] at this
    exact this
  · have := bg22 g s (i := i) (d := d + 1) (e := e) (by omega) (l := l) (by omega)
    rw [List.append_assoc] at this
    exact this
  · have := bg23 g s (i := i) (d := d) (e := e) hi h5 (by omega) (l := l) (by omega)
    simp only [List.append_assoc, List.singleton_append] at this
    exact this
theorem bg11 (g : Nat × Nat) (s : St) {i d e t : Nat} (hi : i < 16) (ht : t ≤ 5) (h5 : s 39 0 i = nI t) (he : e ≤ 5) {l : List Int32} (h : l.length < 9) : F_X0_begin g (d + 4) 11 (nI i) (nI e) (tX s l) = some (s 40 0 i + mkV (s 38 0 6) (s 38 0 7) (s 40 0 i) t, tX s (l ++ [11] ++ [10] ++ mkL t)) := by
  rw [F_X0_begin, if_pos (show nI e ≤ (20 : Int32) from nI_le (b := 20) (by omega) (by omega)), F_leave g _ s (by omega), bd_so, if_neg (by decide), if_pos rfl, nI_1, bg10 g s hi (by omega) (by simp; omega), bd_so, F_bodyFor1 g s hi ht h5, bd_so, X_mark g s hi ht h5 (by omega) (by simp; omega), bd_so]
theorem bg12 (g : Nat × Nat) (s : St) {i d e t j c : Nat} (hi : i < 16) (ht : t ≤ 5) (h5 : s 39 0 i = nI t) (hc : s 38 0 4 = nI c) (hc2 : c ≤ 16) (hj : j < c) (hm : s 41 0 i = nI j) (he : e ≤ 4) {l : List Int32} (h : l.length < 8) : F_X0_begin g (d + 5) 12 (nI i) (nI e) (tX s l) = some (s 40 0 i + mkV (s 38 0 6) (s 38 0 7) (s 40 0 i) t + s 40 0 j, tX s (l ++ [12] ++ [11] ++ [10] ++ mkL t)) := by
  have e1 : ∀ l', F_X0_numberOf g (nI j) (tX s l') = some (s 40 0 j, tX s l') := fun l' => by
    have e2 : bw (nI j) 0 (nI c - 1) = true := by
      obtain ⟨c', rfl⟩ : ∃ c', c = c' + 1 := ⟨c - 1, by omega⟩
      rw [nI_pred]
      unfold bw
      simp only [Bool.and_eq_true, decide_eq_true_eq]
      exact ⟨nI_pos' (by omega), nI_le (by omega) (by omega)⟩
    have e3 : tX s l' 38 0 4 = nI c := hc
    unfold F_X0_numberOf F_X0_hasThing
    rw [F_within, bd_so, e3, e2, gd_of (isb_bI _), bd_so, bI_if, if_pos rfl, gd_of (inb_nI (by omega) (by omega)), nI_clamp (by omega)]
    rfl
  have e4 : ∀ l', tX s l' 41 0 i = nI j := fun l' => hm
  rw [F_X0_begin, if_pos (show nI e ≤ (20 : Int32) from nI_le (b := 20) (by omega) (by omega)), F_leave g _ s (by omega), bd_so, if_neg (by decide), if_neg (by decide), if_pos rfl, nI_1, bg11 g s hi ht h5 (by omega) (by simp; omega), bd_so, gd_of (inb_nI hi (by omega)), nI_clamp (by omega), e4, e1, bd_so]
theorem bg13 (g : Nat × Nat) (s : St) {i d e t j c : Nat} (hi : i < 16) (ht : t ≤ 5) (h5 : s 39 0 i = nI t) (hc : s 38 0 4 = nI c) (hc2 : c ≤ 16) (hj : j < c) (hm : s 41 0 i = nI j) (he : e ≤ 3) {l : List Int32} (h : l.length < 7) : F_X0_begin g (d + 6) 13 (nI i) (nI e) (tX s l) = some (2 * (s 40 0 i + mkV (s 38 0 6) (s 38 0 7) (s 40 0 i) t + s 40 0 j), tX s (l ++ [13] ++ [12] ++ [11] ++ [10] ++ mkL t)) := by
  rw [F_X0_begin, if_pos (show nI e ≤ (20 : Int32) from nI_le (b := 20) (by omega) (by omega)), F_leave g _ s (by omega), bd_so, if_neg (by decide), if_neg (by decide), if_neg (by decide), if_pos rfl, nI_1, bg12 g s hi ht h5 hc hc2 hj hm (by omega) (by simp; omega), bd_so]
