/-! both objects as their constructors leave them: by program -/
theorem at_refs {D : va_G} {q : Nat} {c : ClassId} {n : Nat} {f f1 : Nat → Option Nat} {H : Heap} (h : ∀ i, f i = f1 i) (e : va_at D vwCl (q, .inl (c, n, .inr (.inr (.inr (.inr f))))) H) : va_at D vwCl (q, .inl (c, n, .inr (.inr (.inr (.inr f1))))) H := by
  rw [show f1 = f from (funext fun i => (h i).symm)]
  exact e
def ixX : Nat → Nat → Nat := fun t k => match t with
  | 0 => 62
  | 1 => 61
  | 2 => 15 - 2 * k
  | 3 => 14 - 2 * k
  | 4 => 60
  | 5 => 59
  | 6 => 58
  | 7 => 57
  | 8 => 56
  | 9 => 55
  | 10 => 54
  | 11 => 53
  | 12 => 52
  | 13 => 51
  | 17 => 50
  | 18 => 49
  | 19 => 48
  | 20 => 47
  | 21 => 46
  | 22 => 45
  | 23 => 44
  | 24 => 43
  | 25 => 42
  | 28 => 41
  | 29 => 40
  | 30 => 39
  | 31 => 31 + k
  | 32 => 30
  | 33 => 29
  | 34 => 28
  | 35 => 27
  | 36 => 26
  | 37 => 25
  | 38 => 24
  | 39 => 23
  | 40 => 22
  | 41 => 21
  | 42 => 20
  | 43 => 19
  | 44 => 18
  | 45 => 17
  | 46 => 16
  | _ => 0
def elX : List (Nat × Nat) := [(3, 7), (2, 7), (3, 6), (2, 6), (3, 5), (2, 5), (3, 4), (2, 4), (3, 3), (2, 3), (3, 2), (2, 2), (3, 1), (2, 1), (3, 0), (2, 0), (46, 0), (45, 0), (44, 0), (43, 0), (42, 0), (41, 0), (40, 0), (39, 0), (38, 0), (37, 0), (36, 0), (35, 0), (34, 0), (33, 0), (32, 0), (31, 0), (31, 1), (31, 2), (31, 3), (31, 4), (31, 5), (31, 6), (31, 7), (30, 0), (29, 0), (28, 0), (25, 0), (24, 0), (23, 0), (22, 0), (21, 0), (20, 0), (19, 0), (18, 0), (17, 0), (13, 0), (12, 0), (11, 0), (10, 0), (9, 0), (8, 0), (7, 0), (6, 0), (5, 0), (4, 0), (1, 0), (0, 0)]
def adX (ad : Nat → Nat → Nat) (w : va_W) : Nat → Nat → Nat := fun t k => if 100 ≤ t then ad t k else (w.map Prod.fst).getD (ixX t k) 0
def stX : St := fun t k j => match t with
  | 2 => if j = 1 then 1 else 0
  | 4 => if j = 4 then 500 else 0
  | 5 => (upd (upd (upd (upd (fun _ => 0) (0 : Int32).toNatClampNeg (100)) (1 : Int32).toNatClampNeg (100)) (2 : Int32).toNatClampNeg (100)) (3 : Int32).toNatClampNeg (100)) j
  | 6 => (upd (upd (upd (upd (fun _ => 0) (0 : Int32).toNatClampNeg (0)) (1 : Int32).toNatClampNeg (10)) (2 : Int32).toNatClampNeg (20)) (3 : Int32).toNatClampNeg (30)) j
  | _ => 0
theorem elX_ok : ∀ t : Fin 47, ∀ k : Fin 8, k.val < shN (0, 0) t.val → elX[ixX t.val k.val]? = some (t.val, k.val) := by decide
theorem elX_at {t k : Nat} (h : exX (0, 0) t k) : elX[ixX t k]? = some (t, k) := by
  obtain ⟨h1, h2⟩ := h
  have h3 : k < 8 := by
    have h4 : ∀ t : Fin 47, shN (0, 0) t.val ≤ 8 := by decide
    have := h4 ⟨t, h1⟩
    exact Nat.lt_of_lt_of_le h2 this
  exact elX_ok ⟨t, h1⟩ ⟨k, h3⟩ h2
set_option maxRecDepth 100000 in
set_option maxHeartbeats 8000000 in
theorem X_cells {D : va_G} {c : Nat → ClassId} {h0 : Nat} {w : va_W} {H : Heap} (ad : Nat → Nat → Nat) (hp : P_X10_init c h0 w) (hP : va_P D vwCl w H) : adX ad w 0 0 = h0 ∧ w.length = 63 ∧ ZW D c (adX ad w) (0, 0) (exX (0, 0)) stX H := by
  obtain ⟨q1, q2, q1_3, q2_3, q3_3, q4_3, q5_3, q6_3, q7_3, q8_3, q9_3, q4, q1_5, q2_5, q3_5, q4_5, q5_5, q6, q1_7, q8, q9, q1_10, q2_10, r2_10, q3_10, q4_10, q5_10, q11, q1_12, q2_12, q13, q1_14, q2_14, q3_14, q4_14, q15, q1_16, q2_16, q3_16, q17, q1_18, q19, q1_20, q21, q1_22, q23, q1_24, q25, q1_26, q27, q1_28, q29, q1_30, q31, q1_32, rfl⟩ := hp
  refine ⟨rfl, rfl, fun t k hx => ?_⟩
  obtain ⟨ht, hk⟩ := hx
  have hc : t = 0 ∨ t = 1 ∨ t = 2 ∨ t = 3 ∨ t = 4 ∨ t = 5 ∨ t = 6 ∨ t = 7 ∨ t = 8 ∨ t = 9 ∨ t = 10 ∨ t = 11 ∨ t = 12 ∨ t = 13 ∨ t = 14 ∨ t = 15 ∨ t = 16 ∨ t = 17 ∨ t = 18 ∨ t = 19 ∨ t = 20 ∨ t = 21 ∨ t = 22 ∨ t = 23 ∨ t = 24 ∨ t = 25 ∨ t = 26 ∨ t = 27 ∨ t = 28 ∨ t = 29 ∨ t = 30 ∨ t = 31 ∨ t = 32 ∨ t = 33 ∨ t = 34 ∨ t = 35 ∨ t = 36 ∨ t = 37 ∨ t = 38 ∨ t = 39 ∨ t = 40 ∨ t = 41 ∨ t = 42 ∨ t = 43 ∨ t = 44 ∨ t = 45 ∨ t = 46 := by omega
  rcases hc with rfl | rfl | rfl | rfl | rfl | rfl | rfl | rfl | rfl | rfl | rfl | rfl | rfl | rfl | rfl | rfl | rfl | rfl | rfl | rfl | rfl | rfl | rfl | rfl | rfl | rfl | rfl | rfl | rfl | rfl | rfl | rfl | rfl | rfl | rfl | rfl | rfl | rfl | rfl | rfl | rfl | rfl | rfl | rfl | rfl | rfl | rfl
  · have e0 : k = 0 := by
      have : k < 1 := hk
      omega
    subst e0
    exact hP 62 _ rfl
  · have e0 : k = 0 := by
      have : k < 1 := hk
      omega
    subst e0
    refine at_refs (fun i => ?_) (hP 61 _ rfl)
    by_cases hi : i < 8
    · have hi8 : i = 0 ∨ i = 1 ∨ i = 2 ∨ i = 3 ∨ i = 4 ∨ i = 5 ∨ i = 6 ∨ i = 7 := by omega
      rcases hi8 with rfl | rfl | rfl | rfl | rfl | rfl | rfl | rfl <;> rfl
    · show va_up _ 7 _ i = if i < 8 then _ else none
      rw [if_neg hi]
      have h0 : ¬ i = 0 := by omega
      have h1 : ¬ i = 1 := by omega
      have h2 : ¬ i = 2 := by omega
      have h3 : ¬ i = 3 := by omega
      have h4 : ¬ i = 4 := by omega
      have h5 : ¬ i = 5 := by omega
      have h6 : ¬ i = 6 := by omega
      have h7 : ¬ i = 7 := by omega
      show (if i = 7 then _ else if i = 6 then _ else if i = 5 then _ else if i = 4 then _ else if i = 3 then _ else if i = 2 then _ else if i = 1 then _ else if i = 0 then _ else none) = none
      rw [if_neg h7, if_neg h6, if_neg h5, if_neg h4, if_neg h3, if_neg h2, if_neg h1, if_neg h0]
  · have e8 : k = 0 ∨ k = 1 ∨ k = 2 ∨ k = 3 ∨ k = 4 ∨ k = 5 ∨ k = 6 ∨ k = 7 := by
      have : k < 8 := hk
      omega
    rcases e8 with rfl | rfl | rfl | rfl | rfl | rfl | rfl | rfl
    · exact hP 15 _ rfl
    · exact hP 13 _ rfl
    · exact hP 11 _ rfl
    · exact hP 9 _ rfl
    · exact hP 7 _ rfl
    · exact hP 5 _ rfl
    · exact hP 3 _ rfl
    · exact hP 1 _ rfl
  · have e8 : k = 0 ∨ k = 1 ∨ k = 2 ∨ k = 3 ∨ k = 4 ∨ k = 5 ∨ k = 6 ∨ k = 7 := by
      have : k < 8 := hk
      omega
    rcases e8 with rfl | rfl | rfl | rfl | rfl | rfl | rfl | rfl
    · exact hP 14 _ rfl
    · exact hP 12 _ rfl
    · exact hP 10 _ rfl
    · exact hP 8 _ rfl
    · exact hP 6 _ rfl
    · exact hP 4 _ rfl
    · exact hP 2 _ rfl
    · exact hP 0 _ rfl
  · have e0 : k = 0 := by
      have : k < 1 := hk
      omega
    subst e0
    exact hP 60 _ rfl
  · have e0 : k = 0 := by
      have : k < 1 := hk
      omega
    subst e0
    exact hP 59 _ rfl
  · have e0 : k = 0 := by
      have : k < 1 := hk
      omega
    subst e0
    exact hP 58 _ rfl
  · have e0 : k = 0 := by
      have : k < 1 := hk
      omega
    subst e0
    exact hP 57 _ rfl
  · have e0 : k = 0 := by
      have : k < 1 := hk
      omega
    subst e0
    exact hP 56 _ rfl
  · have e0 : k = 0 := by
      have : k < 1 := hk
      omega
    subst e0
    exact hP 55 _ rfl
  · have e0 : k = 0 := by
      have : k < 1 := hk
      omega
    subst e0
    exact hP 54 _ rfl
  · have e0 : k = 0 := by
      have : k < 1 := hk
      omega
    subst e0
    exact hP 53 _ rfl
  · have e0 : k = 0 := by
      have : k < 1 := hk
      omega
    subst e0
    exact hP 52 _ rfl
  · have e0 : k = 0 := by
      have : k < 1 := hk
      omega
    subst e0
    refine at_refs (fun i => ?_) (hP 51 _ rfl)
    first | rfl | exact (if_neg (Nat.not_lt_zero i)).symm
  · exact absurd (show k < 0 from hk) (by omega)
  · exact absurd (show k < 0 from hk) (by omega)
  · exact absurd (show k < 0 from hk) (by omega)
  · have e0 : k = 0 := by
      have : k < 1 := hk
      omega
    subst e0
    exact hP 50 _ rfl
  · have e0 : k = 0 := by
      have : k < 1 := hk
      omega
    subst e0
    exact hP 49 _ rfl
  · have e0 : k = 0 := by
      have : k < 1 := hk
      omega
    subst e0
    exact hP 48 _ rfl
  · have e0 : k = 0 := by
      have : k < 1 := hk
      omega
    subst e0
    exact hP 47 _ rfl
  · have e0 : k = 0 := by
      have : k < 1 := hk
      omega
    subst e0
    exact hP 46 _ rfl
  · have e0 : k = 0 := by
      have : k < 1 := hk
      omega
    subst e0
    exact hP 45 _ rfl
  · have e0 : k = 0 := by
      have : k < 1 := hk
      omega
    subst e0
    exact hP 44 _ rfl
  · have e0 : k = 0 := by
      have : k < 1 := hk
      omega
    subst e0
    exact hP 43 _ rfl
  · have e0 : k = 0 := by
      have : k < 1 := hk
      omega
    subst e0
    refine at_refs (fun i => ?_) (hP 42 _ rfl)
    first | rfl | exact (if_neg (Nat.not_lt_zero i)).symm
  · exact absurd (show k < 0 from hk) (by omega)
  · exact absurd (show k < 0 from hk) (by omega)
  · have e0 : k = 0 := by
      have : k < 1 := hk
      omega
    subst e0
    exact hP 41 _ rfl
  · have e0 : k = 0 := by
      have : k < 1 := hk
      omega
    subst e0
    exact hP 40 _ rfl
  · have e0 : k = 0 := by
      have : k < 1 := hk
      omega
    subst e0
    refine at_refs (fun i => ?_) (hP 39 _ rfl)
    by_cases hi : i < 8
    · have hi8 : i = 0 ∨ i = 1 ∨ i = 2 ∨ i = 3 ∨ i = 4 ∨ i = 5 ∨ i = 6 ∨ i = 7 := by omega
      rcases hi8 with rfl | rfl | rfl | rfl | rfl | rfl | rfl | rfl <;> rfl
    · show (if i < 8 then _ else none) = if i < 8 then _ else none
      rw [if_neg hi, if_neg hi]
  · have e8 : k = 0 ∨ k = 1 ∨ k = 2 ∨ k = 3 ∨ k = 4 ∨ k = 5 ∨ k = 6 ∨ k = 7 := by
      have : k < 8 := hk
      omega
    rcases e8 with rfl | rfl | rfl | rfl | rfl | rfl | rfl | rfl
    · exact hP 31 _ rfl
    · exact hP 32 _ rfl
    · exact hP 33 _ rfl
    · exact hP 34 _ rfl
    · exact hP 35 _ rfl
    · exact hP 36 _ rfl
    · exact hP 37 _ rfl
    · exact hP 38 _ rfl
  · have e0 : k = 0 := by
      have : k < 1 := hk
      omega
    subst e0
    exact hP 30 _ rfl
  · have e0 : k = 0 := by
      have : k < 1 := hk
      omega
    subst e0
    exact hP 29 _ rfl
  · have e0 : k = 0 := by
      have : k < 1 := hk
      omega
    subst e0
    exact hP 28 _ rfl
  · have e0 : k = 0 := by
      have : k < 1 := hk
      omega
    subst e0
    exact hP 27 _ rfl
  · have e0 : k = 0 := by
      have : k < 1 := hk
      omega
    subst e0
    exact hP 26 _ rfl
  · have e0 : k = 0 := by
      have : k < 1 := hk
      omega
    subst e0
    exact hP 25 _ rfl
  · have e0 : k = 0 := by
      have : k < 1 := hk
      omega
    subst e0
    exact hP 24 _ rfl
  · have e0 : k = 0 := by
      have : k < 1 := hk
      omega
    subst e0
    exact hP 23 _ rfl
  · have e0 : k = 0 := by
      have : k < 1 := hk
      omega
    subst e0
    exact hP 22 _ rfl
  · have e0 : k = 0 := by
      have : k < 1 := hk
      omega
    subst e0
    exact hP 21 _ rfl
  · have e0 : k = 0 := by
      have : k < 1 := hk
      omega
    subst e0
    exact hP 20 _ rfl
  · have e0 : k = 0 := by
      have : k < 1 := hk
      omega
    subst e0
    exact hP 19 _ rfl
  · have e0 : k = 0 := by
      have : k < 1 := hk
      omega
    subst e0
    exact hP 18 _ rfl
  · have e0 : k = 0 := by
      have : k < 1 := hk
      omega
    subst e0
    exact hP 17 _ rfl
  · have e0 : k = 0 := by
      have : k < 1 := hk
      omega
    subst e0
    exact hP 16 _ rfl
def ixM : Nat → Nat → Nat := fun t k => match t with
  | 60 => 34
  | 61 => 33
  | 62 => 32
  | 63 => 31
  | 64 => 30
  | 65 => 29
  | 66 => 28
  | 67 => 27
  | 68 => 26
  | 69 => 25
  | 70 => 24
  | 71 => 23
  | 72 => 22
  | 73 => 21
  | 74 => 20
  | 75 => 19
  | 76 => 18
  | 77 => 17
  | 78 => 16
  | 79 => 15
  | 80 => 14
  | 81 => 13
  | 82 => 12
  | 83 => 11
  | 84 => 10
  | 85 => 9
  | 86 => 8
  | 87 => 7
  | 88 => 6
  | 89 => 5
  | 90 => 4
  | 91 => 3
  | 92 => 2
  | 93 => 1
  | 94 => 0
  | _ => 0
def elM : List (Nat × Nat) := [(94, 0), (93, 0), (92, 0), (91, 0), (90, 0), (89, 0), (88, 0), (87, 0), (86, 0), (85, 0), (84, 0), (83, 0), (82, 0), (81, 0), (80, 0), (79, 0), (78, 0), (77, 0), (76, 0), (75, 0), (74, 0), (73, 0), (72, 0), (71, 0), (70, 0), (69, 0), (68, 0), (67, 0), (66, 0), (65, 0), (64, 0), (63, 0), (62, 0), (61, 0), (60, 0)]
def adM (ad : Nat → Nat → Nat) (w : va_W) : Nat → Nat → Nat := fun t k => if 100 ≤ t then ad t k else (w.map Prod.fst).getD (ixM t k) 0
def stM (f2 : Nat → Int32) : St := fun t k j => match t with
  | 60 => if j = 8 then 500 else 0
  | 61 => (upd (upd (upd (upd (upd (upd (upd (upd (fun _ => 0) (0 : Int32).toNatClampNeg (-1)) (1 : Int32).toNatClampNeg (-1)) (2 : Int32).toNatClampNeg (-1)) (3 : Int32).toNatClampNeg (-1)) (4 : Int32).toNatClampNeg (-1)) (5 : Int32).toNatClampNeg (-1)) (6 : Int32).toNatClampNeg (-1)) (7 : Int32).toNatClampNeg (-1)) j
  | 64 => (upd (upd (upd (upd (fun _ => 0) (0 : Int32).toNatClampNeg (100)) (1 : Int32).toNatClampNeg (100)) (2 : Int32).toNatClampNeg (100)) (3 : Int32).toNatClampNeg (100)) j
  | 65 => (upd (upd (upd (upd (fun _ => 0) (0 : Int32).toNatClampNeg (0)) (1 : Int32).toNatClampNeg (10)) (2 : Int32).toNatClampNeg (20)) (3 : Int32).toNatClampNeg (30)) j
  | 76 => f2 j
  | 77 => (upd (upd (upd (upd (fun _ => 0) (0 : Int32).toNatClampNeg ((-1000000))) (1 : Int32).toNatClampNeg ((-1000000))) (2 : Int32).toNatClampNeg ((-1000000))) (3 : Int32).toNatClampNeg ((-1000000))) j
  | _ => 0
theorem elM_ok : ∀ t : Fin 35, elM[ixM (60 + t.val) 0]? = some (60 + t.val, 0) := by decide
theorem exM_0 {g : Nat × Nat} {t k : Nat} (h : exM g t k) : k = 0 := by
  obtain ⟨⟨h1, h2⟩, h3⟩ := h
  have h4 : shN g t = 1 := by
    have : t = 60 ∨ t = 61 ∨ t = 62 ∨ t = 63 ∨ t = 64 ∨ t = 65 ∨ t = 66 ∨ t = 67 ∨ t = 68 ∨ t = 69 ∨ t = 70 ∨ t = 71 ∨ t = 72 ∨ t = 73 ∨ t = 74 ∨ t = 75 ∨ t = 76 ∨ t = 77 ∨ t = 78 ∨ t = 79 ∨ t = 80 ∨ t = 81 ∨ t = 82 ∨ t = 83 ∨ t = 84 ∨ t = 85 ∨ t = 86 ∨ t = 87 ∨ t = 88 ∨ t = 89 ∨ t = 90 ∨ t = 91 ∨ t = 92 ∨ t = 93 ∨ t = 94 := by omega
    rcases this with rfl | rfl | rfl | rfl | rfl | rfl | rfl | rfl | rfl | rfl | rfl | rfl | rfl | rfl | rfl | rfl | rfl | rfl | rfl | rfl | rfl | rfl | rfl | rfl | rfl | rfl | rfl | rfl | rfl | rfl | rfl | rfl | rfl | rfl | rfl <;> rfl
  omega
theorem elM_at {t k : Nat} (h : exM (0, 0) t k) : elM[ixM t k]? = some (t, k) := by
  have hk := exM_0 h
  subst hk
  obtain ⟨⟨h1, h2⟩, -⟩ := h
  have := elM_ok ⟨t - 60, by omega⟩
  simp only [show 60 + (t - 60) = t by omega] at this
  exact this
set_option maxRecDepth 100000 in
set_option maxHeartbeats 8000000 in
theorem M_cells {D : va_G} {c : Nat → ClassId} {h0 : Nat} {w : va_W} {H : Heap} (ad : Nat → Nat → Nat) (hp : P_X11_init c h0 w) (hP : va_P D vwCl w H) : adM ad w 60 0 = h0 ∧ w.length = 35 ∧ ∃ f2 : Nat → Int32, (∀ j, j < 600 → f2 j = -1000000) ∧ ZW D c (adM ad w) (0, 0) (exM (0, 0)) (stM f2) H := by
  obtain ⟨q1, q2, q3, q4, q5, q6, q7, q8, q9, q10, q11, q12, q13, q14, q15, q16, q17, q18, q19, q20, q21, q22, q23, q24, q25, q26, q27, q28, q29, q30, q31, q32, q33, q34, f2, hf2, rfl⟩ := hp
  refine ⟨rfl, rfl, f2, hf2, fun t k hx => ?_⟩
  have hk := exM_0 hx
  subst hk
  obtain ⟨⟨h1, h2⟩, -⟩ := hx
  have hc : t = 60 ∨ t = 61 ∨ t = 62 ∨ t = 63 ∨ t = 64 ∨ t = 65 ∨ t = 66 ∨ t = 67 ∨ t = 68 ∨ t = 69 ∨ t = 70 ∨ t = 71 ∨ t = 72 ∨ t = 73 ∨ t = 74 ∨ t = 75 ∨ t = 76 ∨ t = 77 ∨ t = 78 ∨ t = 79 ∨ t = 80 ∨ t = 81 ∨ t = 82 ∨ t = 83 ∨ t = 84 ∨ t = 85 ∨ t = 86 ∨ t = 87 ∨ t = 88 ∨ t = 89 ∨ t = 90 ∨ t = 91 ∨ t = 92 ∨ t = 93 ∨ t = 94 := by omega
  rcases hc with rfl | rfl | rfl | rfl | rfl | rfl | rfl | rfl | rfl | rfl | rfl | rfl | rfl | rfl | rfl | rfl | rfl | rfl | rfl | rfl | rfl | rfl | rfl | rfl | rfl | rfl | rfl | rfl | rfl | rfl | rfl | rfl | rfl | rfl | rfl
  · exact hP 34 _ rfl
  · exact hP 33 _ rfl
  · exact hP 32 _ rfl
  · exact hP 31 _ rfl
  · exact hP 30 _ rfl
  · exact hP 29 _ rfl
  · exact hP 28 _ rfl
  · exact hP 27 _ rfl
  · exact hP 26 _ rfl
  · exact hP 25 _ rfl
  · exact hP 24 _ rfl
  · exact hP 23 _ rfl
  · exact hP 22 _ rfl
  · exact hP 21 _ rfl
  · exact hP 20 _ rfl
  · exact hP 19 _ rfl
  · exact hP 18 _ rfl
  · exact hP 17 _ rfl
  · exact hP 16 _ rfl
  · exact hP 15 _ rfl
  · exact hP 14 _ rfl
  · exact hP 13 _ rfl
  · exact hP 12 _ rfl
  · exact hP 11 _ rfl
  · exact hP 10 _ rfl
  · exact hP 9 _ rfl
  · exact hP 8 _ rfl
  · exact hP 7 _ rfl
  · exact hP 6 _ rfl
  · exact hP 5 _ rfl
  · exact hP 4 _ rfl
  · exact hP 3 _ rfl
  · exact hP 2 _ rfl
  · exact hP 1 _ rfl
  · exact hP 0 _ rfl
theorem ad_facts {A : Nat → Prop} {w : va_W} {a : Nat → Nat → Nat} {x : Nat → Nat → Prop} {el : List (Nat × Nat)} {ix : Nat → Nat → Nat} (hD : va_D A w) (hl : w.length = el.length) (ha : ∀ t k, x t k → a t k = (w.map Prod.fst).getD (ix t k) 0) (he : ∀ t k, x t k → el[ix t k]? = some (t, k)) : (∀ t k, x t k → A (a t k)) ∧ (∀ t k t' k' : Nat, x t k → x t' k' → a t k = a t' k' → t = t' ∧ k = k') ∧ ∀ t k, x t k → ∃ (i : Nat) (e : va_E), w[i]? = some (a t k, e) := by
  have at1 : ∀ t k, x t k → ∃ e : va_E, w[ix t k]? = some (a t k, e) := fun t k h => by
    have h1 := (List.getElem?_eq_some_iff.mp (he t k h)).1
    have h2 : ix t k < w.length := by omega
    refine ⟨(w[ix t k]).2, ?_⟩
    rw [ha t k h, List.getElem?_eq_getElem h2]
    congr 1
    apply Prod.ext
    · simp [List.getD, List.getElem?_eq_getElem h2]
    · rfl
  refine ⟨fun t k h => ?_, fun t k t' k' h h' e => ?_, fun t k h => ?_⟩
  · obtain ⟨e, h1⟩ := at1 t k h
    exact hD.2 _ _ h1
  · obtain ⟨e1, h1⟩ := at1 t k h
    obtain ⟨e2, h2⟩ := at1 t' k' h'
    have h3 := hD.1 _ _ _ _ h1 h2 e
    have h4 := he t k h
    rw [h3, he t' k' h'] at h4
    have h5 := Option.some.inj h4
    exact ⟨(congrArg Prod.fst h5).symm, (congrArg Prod.snd h5).symm⟩
  · obtain ⟨e, h1⟩ := at1 t k h
    exact ⟨_, e, h1⟩
