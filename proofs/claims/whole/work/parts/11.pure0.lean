/-! meanings, made plain: ranges, small helpers of both sides -/
theorem gd_of {α : Type} {b : Bool} {x : Option α} (h : b = true) : gd b x = x := by
  unfold gd
  rw [if_pos h]
theorem bd_of {α β : Type} {x : Option (α × St)} {f : α → St → Option β} {r : α} {s : St} (h : x = some (r, s)) : bd x f = f r s := by
  subst h
  rfl
theorem bd_so {α β : Type} {f : α → St → Option β} {r : α} {s : St} : bd (some (r, s)) f = f r s := rfl
def bw (x lo hi : Int32) : Bool := decide (lo ≤ x) && decide (x ≤ hi)
def bI (b : Bool) : Int32 := if b = true then 1 else 0
theorem bI_0 (b : Bool) : bI b = 0 ↔ b = false := by cases b <;> decide
theorem bI_t : bI true = 1 := rfl
theorem bI_f : bI false = 0 := rfl
theorem isb_bI (b : Bool) : isb (bI b) = true := by cases b <;> decide
theorem bI_if {α : Type} (b : Bool) (x y : α) : (if bI b = 0 then x else y) = if b = true then y else x := by
  cases b
  · rw [if_pos (show bI false = 0 from rfl), if_neg (by decide)]
  · rw [if_neg (show ¬ bI true = 0 by decide), if_pos rfl]
theorem lg_lt (x y : Int64) : lg_cmp x y < 0 ↔ x < y := by
  unfold lg_cmp
  by_cases h1 : y < x
  · have h2 : ¬ x < y := lg_lt_not h1
    simp [h1, h2]
  · by_cases h2 : x = y
    · subst h2
      simp
    · have h3 : x < y := by
        rcases lg_tri x y with h | h | h
        · exact h
        · exact absurd h h2
        · exact absurd h h1
      simp [h1, h2, h3]
theorem lg_gt (x y : Int64) : 0 < lg_cmp x y ↔ y < x := by
  unfold lg_cmp
  by_cases h1 : y < x
  · simp [h1]
  · by_cases h2 : x = y
    · subst h2
      simp
    · simp [h1, h2]
theorem lg_le (x y : Int64) : lg_cmp x y ≤ 0 ↔ x ≤ y := by
  rw [← Int32.not_lt, lg_gt, Int64.not_lt]
theorem F_within (g : Nat × Nat) (x lo hi : Int32) (s : St) : F_X10_within g x lo hi s = some (bI (bw x lo hi), s) := by
  unfold F_X10_within bw
  by_cases h1 : x < lo
  · have h2 : ¬ lo ≤ x := Int32.not_le.mpr h1
    simp [h1, h2, bI]
  · have h2 : lo ≤ x := Int32.not_lt.mp h1
    by_cases h3 : hi < x
    · have h4 : ¬ x ≤ hi := Int32.not_le.mpr h3
      simp [h1, h2, h3, h4, bI]
    · have h4 : x ≤ hi := Int32.not_lt.mp h3
      simp [h1, h2, h3, h4, bI]
theorem wide_le (a b : Int32) : a.toInt64 ≤ b.toInt64 ↔ a ≤ b := by
  rw [Int64.le_iff_toInt_le, Int32.le_iff_toInt_le]
  simp
theorem wide_lt (a b : Int32) : a.toInt64 < b.toInt64 ↔ a < b := by
  rw [Int64.lt_iff_toInt_lt, Int32.lt_iff_toInt_lt]
  simp
theorem F_in (g : Nat × Nat) (x lo hi : Int32) (s : St) : F_X11_in g x.toInt64 lo.toInt64 hi.toInt64 s = some (bI (bw x lo hi), s) := by
  unfold F_X11_in bw
  simp only [lg_lt, lg_gt, wide_lt]
  by_cases h1 : x < lo
  · have h2 : ¬ lo ≤ x := Int32.not_le.mpr h1
    simp [h1, h2, bI]
  · have h2 : lo ≤ x := Int32.not_lt.mp h1
    by_cases h3 : hi < x
    · have h4 : ¬ x ≤ hi := Int32.not_le.mpr h3
      simp [h1, h2, h3, h4, bI]
    · have h4 : x ≤ hi := Int32.not_lt.mp h3
      simp [h1, h2, h3, h4, bI]
theorem in_0w (g : Nat × Nat) (x y : Int32) (s : St) : F_X11_in g x.toInt64 (0 : Int64) y.toInt64 s = some (bI (bw x 0 y), s) := F_in g x 0 y s
theorem in_0_1 (g : Nat × Nat) (x : Int32) (s : St) : F_X11_in g x.toInt64 (0 : Int64) (1 : Int64) s = some (bI (bw x 0 1), s) := F_in g x 0 1 s
theorem in_0_2 (g : Nat × Nat) (x : Int32) (s : St) : F_X11_in g x.toInt64 (0 : Int64) (2 : Int64) s = some (bI (bw x 0 2), s) := F_in g x 0 2 s
theorem in_0_3 (g : Nat × Nat) (x : Int32) (s : St) : F_X11_in g x.toInt64 (0 : Int64) (3 : Int64) s = some (bI (bw x 0 3), s) := F_in g x 0 3 s
theorem in_0_4 (g : Nat × Nat) (x : Int32) (s : St) : F_X11_in g x.toInt64 (0 : Int64) (4 : Int64) s = some (bI (bw x 0 4), s) := F_in g x 0 4 s
theorem in_0_5 (g : Nat × Nat) (x : Int32) (s : St) : F_X11_in g x.toInt64 (0 : Int64) (5 : Int64) s = some (bI (bw x 0 5), s) := F_in g x 0 5 s
theorem in_0_7 (g : Nat × Nat) (x : Int32) (s : St) : F_X11_in g x.toInt64 (0 : Int64) (7 : Int64) s = some (bI (bw x 0 7), s) := F_in g x 0 7 s
theorem in_0_9 (g : Nat × Nat) (x : Int32) (s : St) : F_X11_in g x.toInt64 (0 : Int64) (9 : Int64) s = some (bI (bw x 0 9), s) := F_in g x 0 9 s
theorem in_0_10 (g : Nat × Nat) (x : Int32) (s : St) : F_X11_in g x.toInt64 (0 : Int64) (10 : Int64) s = some (bI (bw x 0 10), s) := F_in g x 0 10 s
theorem in_0_30 (g : Nat × Nat) (x : Int32) (s : St) : F_X11_in g x.toInt64 (0 : Int64) (30 : Int64) s = some (bI (bw x 0 30), s) := F_in g x 0 30 s
theorem in_0_99 (g : Nat × Nat) (x : Int32) (s : St) : F_X11_in g x.toInt64 (0 : Int64) (99 : Int64) s = some (bI (bw x 0 99), s) := F_in g x 0 99 s
theorem in_0_500 (g : Nat × Nat) (x : Int32) (s : St) : F_X11_in g x.toInt64 (0 : Int64) (500 : Int64) s = some (bI (bw x 0 500), s) := F_in g x 0 500 s
theorem in_0_999 (g : Nat × Nat) (x : Int32) (s : St) : F_X11_in g x.toInt64 (0 : Int64) (999 : Int64) s = some (bI (bw x 0 999), s) := F_in g x 0 999 s
theorem in_0_1000 (g : Nat × Nat) (x : Int32) (s : St) : F_X11_in g x.toInt64 (0 : Int64) (1000 : Int64) s = some (bI (bw x 0 1000), s) := F_in g x 0 1000 s
theorem in_0_5000 (g : Nat × Nat) (x : Int32) (s : St) : F_X11_in g x.toInt64 (0 : Int64) (5000 : Int64) s = some (bI (bw x 0 5000), s) := F_in g x 0 5000 s
theorem in_0_9999 (g : Nat × Nat) (x : Int32) (s : St) : F_X11_in g x.toInt64 (0 : Int64) (9999 : Int64) s = some (bI (bw x 0 9999), s) := F_in g x 0 9999 s
theorem in_1_8 (g : Nat × Nat) (x : Int32) (s : St) : F_X11_in g x.toInt64 (1 : Int64) (8 : Int64) s = some (bI (bw x 1 8), s) := F_in g x 1 8 s
theorem in_1_10 (g : Nat × Nat) (x : Int32) (s : St) : F_X11_in g x.toInt64 (1 : Int64) (10 : Int64) s = some (bI (bw x 1 10), s) := F_in g x 1 10 s
theorem in_1_15 (g : Nat × Nat) (x : Int32) (s : St) : F_X11_in g x.toInt64 (1 : Int64) (15 : Int64) s = some (bI (bw x 1 15), s) := F_in g x 1 15 s
theorem in_1_20 (g : Nat × Nat) (x : Int32) (s : St) : F_X11_in g x.toInt64 (1 : Int64) (20 : Int64) s = some (bI (bw x 1 20), s) := F_in g x 1 20 s
theorem in_1_50 (g : Nat × Nat) (x : Int32) (s : St) : F_X11_in g x.toInt64 (1 : Int64) (50 : Int64) s = some (bI (bw x 1 50), s) := F_in g x 1 50 s
theorem in_1_500 (g : Nat × Nat) (x : Int32) (s : St) : F_X11_in g x.toInt64 (1 : Int64) (500 : Int64) s = some (bI (bw x 1 500), s) := F_in g x 1 500 s
theorem in_10_13 (g : Nat × Nat) (x : Int32) (s : St) : F_X11_in g x.toInt64 (10 : Int64) (13 : Int64) s = some (bI (bw x 10 13), s) := F_in g x 10 13 s
theorem F_isSheet (g : Nat × Nat) (x : Int32) (s : St) : F_X10_isSheet g x s = some (bI (bw x 0 7), s) := by
  unfold F_X10_isSheet
  rw [F_within, bd_so, gd_of (isb_bI _)]
theorem F_isSort (g : Nat × Nat) (x : Int32) (s : St) : F_X10_isSort g x s = some (bI (bw x 0 3), s) := by
  unfold F_X10_isSort
  rw [F_within, bd_so, gd_of (isb_bI _)]
theorem F_isWeek (g : Nat × Nat) (x : Int32) (s : St) : F_X10_isWeek g x s = some (bI (bw x 0 99), s) := by
  unfold F_X10_isWeek
  rw [F_within, bd_so, gd_of (isb_bI _)]
theorem G_isSheet (g : Nat × Nat) (x : Int32) (s : St) : F_X11_isSheet g x s = some (bI (bw x 0 7), s) := by
  unfold F_X11_isSheet
  rw [in_0_7, bd_so, gd_of (isb_bI _)]
theorem G_isSort (g : Nat × Nat) (x : Int32) (s : St) : F_X11_isSort g x s = some (bI (bw x 0 3), s) := by
  unfold F_X11_isSort
  rw [in_0_3, bd_so, gd_of (isb_bI _)]
theorem G_isWeek (g : Nat × Nat) (x : Int32) (s : St) : F_X11_isWeek g x s = some (bI (bw x 0 99), s) := by
  unfold F_X11_isWeek
  rw [in_0_99, bd_so, gd_of (isb_bI _)]
