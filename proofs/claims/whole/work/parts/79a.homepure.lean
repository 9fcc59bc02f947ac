/-! a home more: what its items must be, on both sides -/
def lf (f : Nat → Int32) (b : Bool) : Nat → Bool
  | 0 => b
  | j + 1 => lf f b j && bw (f (5 + j)) 0 999
def h5 (f : Nat → Int32) : Bool := bw (f 0) 0 5 && (bw (f 1) 1 12 && (bw (f 2) 0 (f 1) && (bw (f 3) 0 9999 && bw (f 4) 0 99)))
def hft (f : Nat → Int32) : Bool := lf f (h5 f) 4
theorem lf_f (f : Nat → Int32) : ∀ j, lf f false j = false
  | 0 => rfl
  | j + 1 => by
    show (lf f false j && _) = false
    rw [lf_f f j]
    rfl
theorem hft_0 {f : Nat → Int32} (h : hft f = true) : bw (f 0) 0 5 = true := by
  cases e : h5 f with
  | true =>
    unfold h5 at e
    cases e0 : bw (f 0) 0 5 with
    | true => rfl
    | false =>
      rw [e0] at e
      cases e
  | false =>
    unfold hft at h
    rw [e, lf_f] at h
    cases h
theorem X_hfl (g : Nat × Nat) (k i : Nat) (hi : i + 9 ≤ 80) (s : St) (b : Bool) : ∀ (m j n : Nat), j + m = 4 → m < n → F_X10_homeItemsFit_79 g 3 k (nI i) n (bI (lf (fun q => s 3 k (i + q)) b j)) (nI j) s = some (bI (lf (fun q => s 3 k (i + q)) b 4), s)
  | 0, j, n + 1, hj, _ => by
    have : j = 4 := by omega
    subst this
    rw [F_X10_homeItemsFit_79, if_pos (show (4 : Int32) ≤ nI 4 by decide), gd_of (isb_bI _)]
  | m + 1, j, n + 1, hj, hn => by
    have ih := X_hfl g k i hi s b m (j + 1) n (by omega) (by omega)
    have e1 : nI i + 5 + nI j = nI (i + 5 + j) := by
      rw [show nI i + 5 = nI (i + 5) from nI_add i 5, nI_add]
    have b1 : inb (nI (i + 5 + j)) (lna 3) = true := inb_nI (show i + 5 + j < 80 by omega) (by decide)
    have f1 : s 3 k (i + 5 + j) = (fun q => s 3 k (i + q)) (5 + j) := by
      show s 3 k (i + 5 + j) = s 3 k (i + (5 + j))
      rw [Nat.add_assoc]
    rw [F_X10_homeItemsFit_79, if_neg (show ¬ (4 : Int32) ≤ nI j from nI_ge (b := 4) (by omega) (by omega)), bI_if, e1, gd_of b1, nI_clamp (show i + 5 + j < 2 ^ 31 by omega), F_within, bd_so, bI_if, f1]
    by_cases q : lf (fun q => s 3 k (i + q)) b j = true
    · rw [if_pos q]
      by_cases q2 : bw ((fun q => s 3 k (i + q)) (5 + j)) 0 999 = true
      · rw [if_pos q2, F_X10_homeItemsFit_110, nI_1]
        have e : lf (fun q => s 3 k (i + q)) b (j + 1) = true := by
          show (lf (fun q => s 3 k (i + q)) b j && bw ((fun q => s 3 k (i + q)) (5 + j)) 0 999) = true
          rw [q, q2]
          rfl
        rw [e, bI_t] at ih
        exact ih
      · rw [if_neg q2, F_X10_homeItemsFit_109, F_X10_homeItemsFit_110, nI_1]
        have e : lf (fun q => s 3 k (i + q)) b (j + 1) = false := by
          show (lf (fun q => s 3 k (i + q)) b j && bw ((fun q => s 3 k (i + q)) (5 + j)) 0 999) = false
          rw [Bool.eq_false_iff.mpr q2, Bool.and_false]
        rw [e, bI_f] at ih
        exact ih
    · rw [if_neg q, F_X10_homeItemsFit_109, F_X10_homeItemsFit_110, nI_1]
      have e : lf (fun q => s 3 k (i + q)) b (j + 1) = false := by
        show (lf (fun q => s 3 k (i + q)) b j && bw ((fun q => s 3 k (i + q)) (5 + j)) 0 999) = false
        rw [Bool.eq_false_iff.mpr q, Bool.false_and]
      rw [e, bI_f] at ih
      exact ih
theorem F_fit (g : Nat × Nat) (k i : Nat) (hi : i + 9 ≤ 80) (s : St) : F_X10_homeItemsFit g 3 k (nI i) s = some (bI (hft (fun q => s 3 k (i + q))), s) := by
  have hl : ∀ b : Bool, F_X10_homeItemsFit_76 g 3 k (nI i) (bI b) s = some (bI (lf (fun q => s 3 k (i + q)) b 4), s) := fun b => X_hfl g k i hi s b 4 0 fu rfl (lt_fu (by omega))
  have hl0 : F_X10_homeItemsFit_75 g 3 k (nI i) s = some (bI (lf (fun q => s 3 k (i + q)) false 4), s) := hl false
  have hl1 : F_X10_homeItemsFit_76 g 3 k (nI i) 1 s = some (bI (lf (fun q => s 3 k (i + q)) true 4), s) := hl true
  have e1 : nI i + 1 = nI (i + 1) := nI_add i 1
  have e2 : nI i + 2 = nI (i + 2) := nI_add i 2
  have e3 : nI i + 3 = nI (i + 3) := nI_add i 3
  have e4 : nI i + 4 = nI (i + 4) := nI_add i 4
  have b0 : inb (nI i) (lna 3) = true := inb_nI (show i < 80 by omega) (by decide)
  have b1 : inb (nI (i + 1)) (lna 3) = true := inb_nI (show i + 1 < 80 by omega) (by decide)
  have b2 : inb (nI (i + 2)) (lna 3) = true := inb_nI (show i + 2 < 80 by omega) (by decide)
  have b3 : inb (nI (i + 3)) (lna 3) = true := inb_nI (show i + 3 < 80 by omega) (by decide)
  have b4 : inb (nI (i + 4)) (lna 3) = true := inb_nI (show i + 4 < 80 by omega) (by decide)
  unfold F_X10_homeItemsFit
  simp only [e1, e2, e3, e4, gd_of b0, gd_of b1, gd_of b2, gd_of b3, gd_of b4, F_within, bd_so, bI_if, hl0, hl1, nI_clamp (show i < 2 ^ 31 by omega), nI_clamp (show i + 1 < 2 ^ 31 by omega), nI_clamp (show i + 2 < 2 ^ 31 by omega), nI_clamp (show i + 3 < 2 ^ 31 by omega), nI_clamp (show i + 4 < 2 ^ 31 by omega)]
  unfold hft h5
  show _ = some (bI (lf (fun q => s 3 k (i + q)) (bw (s 3 k i) 0 5 && (bw (s 3 k (i + 1)) 1 12 && (bw (s 3 k (i + 2)) 0 (s 3 k (i + 1)) && (bw (s 3 k (i + 3)) 0 9999 && bw (s 3 k (i + 4)) 0 99)))) 4), s)
  cases q0 : bw (s 3 k i) 0 5
  · rfl
  cases q1 : bw (s 3 k (i + 1)) 1 12
  · rfl
  cases q2 : bw (s 3 k (i + 2)) 0 (s 3 k (i + 1))
  · rfl
  cases q3 : bw (s 3 k (i + 3)) 0 9999
  · rfl
  cases q4 : bw (s 3 k (i + 4)) 0 99
  · rfl
  rfl
theorem M_hfl (g : Nat × Nat) (a1 a2 : Int32) (h211_ : Int32 → Int32 → St → Option (Int32 × St)) (p : Nat) (hp : p + 9 ≤ 640) (u : St) (f : Nat → Int32) (hf : ∀ q, q < 9 → u 63 0 (p + q) = f q) (b : Bool) : ∀ (m j n : Nat), j + m = 4 → m < n → F_X11_home_165 g a1 a2 h211_ n (nI p) (bI (lf f b j)) (nI (5 + j)) u = h211_ (nI p) (bI (lf f b 4)) u
  | 0, j, n + 1, hj, _ => by
    have : j = 4 := by omega
    subst this
    rw [F_X11_home_165, if_pos (show (9 : Int32) ≤ nI (5 + 4) by decide)]
  | m + 1, j, n + 1, hj, hn => by
    have ih := M_hfl g a1 a2 h211_ p hp u f hf b m (j + 1) n (by omega) (by omega)
    have b1 : inb (nI (p + (5 + j))) 640 = true := inb_nI (by omega) (by omega)
    rw [F_X11_home_165, if_neg (show ¬ (9 : Int32) ≤ nI (5 + j) from nI_ge (b := 9) (by omega) (by omega)), bI_if, nI_add, gd_of b1, nI_clamp (show p + (5 + j) < 2 ^ 31 by omega), in_0_999, bd_so, bI_if, hf (5 + j) (by omega)]
    by_cases q : lf f b j = true
    · rw [if_pos q]
      by_cases q2 : bw (f (5 + j)) 0 999 = true
      · rw [if_pos q2, F_X11_home_203, nI_1]
        have e : lf f b (j + 1) = true := by
          show (lf f b j && bw (f (5 + j)) 0 999) = true
          rw [q, q2]
          rfl
        rw [e, bI_t] at ih
        exact ih
      · rw [if_neg q2, F_X11_home_202, F_X11_home_203, nI_1]
        have e : lf f b (j + 1) = false := by
          show (lf f b j && bw (f (5 + j)) 0 999) = false
          rw [Bool.eq_false_iff.mpr q2, Bool.and_false]
        rw [e, bI_f] at ih
        exact ih
    · rw [if_neg q, F_X11_home_202, F_X11_home_203, nI_1]
      have e : lf f b (j + 1) = false := by
        show (lf f b j && bw (f (5 + j)) 0 999) = false
        rw [Bool.eq_false_iff.mpr q, Bool.false_and]
      rw [e, bI_f] at ih
      exact ih
/-- the reference's row of a home: j numbers from 11 H on are f's -/
def fih (u : St) (H : Nat) (f : Nat → Int32) (j : Nat) : St := fun a b c => if a = 84 then (if b = 0 then (if 11 * H ≤ c ∧ c < 11 * H + j then f (c - 11 * H) else u a b c) else u a b c) else u a b c
theorem fih_0 (u : St) (H : Nat) (f : Nat → Int32) : fih u H f 0 = u := by
  funext a b c
  unfold fih
  have h : ¬ (11 * H ≤ c ∧ c < 11 * H + 0) := by omega
  rw [if_neg h]
  simp
theorem fih_1 (u : St) (H : Nat) (f : Nat → Int32) (j : Nat) : up (fih u H f j) 84 0 (11 * H + j) (f j) = fih u H f (j + 1) := by
  funext a b c
  unfold up fih
  by_cases h1 : a = 84
  · by_cases h2 : b = 0
    · by_cases h3 : c = 11 * H + j
      · have h5 : 11 * H ≤ c ∧ c < 11 * H + (j + 1) := by omega
        simp only [h1, h2, if_true]
        rw [if_pos h3, if_pos h5, show c - 11 * H = j by omega]
      · simp only [h1, h2, if_true]
        rw [if_neg h3]
        by_cases h4 : 11 * H ≤ c ∧ c < 11 * H + j
        · rw [if_pos h4, if_pos (by omega)]
        · rw [if_neg h4, if_neg (by omega)]
    · simp [h1, h2]
  · simp [h1]
theorem fih_ne {u : St} {H : Nat} {f : Nat → Int32} {j t : Nat} (h : t ≠ 84) : fih u H f j t = u t := by
  funext b c
  unfold fih
  rw [if_neg h]
theorem fih_at {u : St} {H : Nat} {f : Nat → Int32} {j i : Nat} (h : i < j) : fih u H f j 84 0 (11 * H + i) = f i := by
  unfold fih
  rw [if_pos rfl, if_pos rfl, if_pos (by omega), show 11 * H + i - 11 * H = i by omega]
theorem fih_off {u : St} {H : Nat} {f : Nat → Int32} {j c : Nat} (h : c < 11 * H) : fih u H f j 84 0 c = u 84 0 c := by
  unfold fih
  rw [if_pos rfl, if_pos rfl, if_neg (by omega)]
theorem M_hrow (g : Nat × Nat) (a1 a2 : Int32) (h276_ : St → Option (Int32 × St)) (p H : Nat) (hH : H < 12) (hp : p + 9 ≤ 640) (u : St) (f : Nat → Int32) (hu : u 60 0 42 = nI H) (hf : ∀ q, q < 9 → u 63 0 (p + q) = f q) (h9 : f 9 = 0) (h10 : f 10 = 0) : ∀ (m j n : Nat), j + m = 11 → m < n → F_X11_home_227 g a1 a2 h276_ n (nI p) (nI j) (fih u H f j) = h276_ (fih u H f 11)
  | 0, j, n + 1, hj, _ => by
    have : j = 11 := by omega
    subst this
    rw [F_X11_home_227, if_pos (show (11 : Int32) ≤ nI 11 by decide)]
  | m + 1, j, n + 1, hj, hn => by
    have ih := M_hrow g a1 a2 h276_ p H hH hp u f hu hf h9 h10 m (j + 1) n (by omega) (by omega)
    have e42 : fih u H f j 60 0 42 = nI H := by
      rw [fih_ne (by decide)]
      exact hu
    have e1 : (11 : Int32) * nI H + nI j = nI (11 * H + j) := by
      rw [show (11 : Int32) = nI 11 from rfl, pk_mul, nI_add]
    have b1 : inb (nI (11 * H + j)) 132 = true := inb_nI (by omega) (by omega)
    rw [F_X11_home_227, if_neg (show ¬ (11 : Int32) ≤ nI j from nI_ge (b := 11) (by omega) (by omega)), e42, e1]
    by_cases q : 9 ≤ j
    · have e0 : (0 : Int32) = f j := by
        rcases (show j = 9 ∨ j = 10 by omega) with rfl | rfl
        · exact h9.symm
        · exact h10.symm
      rw [if_pos (show (9 : Int32) ≤ nI j from nI_le (a := 9) q (by omega)), F_X11_home_269, gd_of b1, nI_clamp (show 11 * H + j < 2 ^ 31 by omega), e0, fih_1, nI_1]
      exact ih
    · have e63 : fih u H f j 63 0 (p + j) = f j := by
        rw [fih_ne (by decide)]
        exact hf j (by omega)
      rw [if_neg (show ¬ (9 : Int32) ≤ nI j from nI_ge (b := 9) (by omega) (by omega)), nI_add, gd_of (inb_nI (show p + j < 640 by omega) (by omega)), nI_clamp (show p + j < 2 ^ 31 by omega), e63, F_X11_home_269, gd_of b1, nI_clamp (show 11 * H + j < 2 ^ 31 by omega), fih_1, nI_1]
      exact ih
def hrw (it : Nat → Int32) : Nat → Int32 := fun j => if j < 9 then it j else 0
theorem G_home (gg : Nat × Nat) {k i H : Nat} (hk : k < 8) (hi : i + 9 ≤ 80) (hH : H < 12) (u : St) (f : Nat → Int32) (hu : u 60 0 42 = nI H) (hf : ∀ q, q < 9 → u 63 0 (80 * k + i + q) = f q) (hl : F_X11_lookItems gg (nI k) (nI i) 9 (up u 60 0 0 0) = some (0, up u 60 0 0 0)) :
    F_X11_home gg (nI k) (nI i) u = if hft f = true then some (nI H + 1 - 1, up (fih (up (up u 60 0 0 0) 60 0 1 0) H (hrw f) 11) 60 0 42 (nI H + 1)) else some (-1000001, up u 60 0 0 0) := by
  have hl2 : ∀ b : Bool, F_X11_home_160 gg (nI k) (nI i) (nI (80 * k + i)) (bI b) (up u 60 0 0 0) = F_X11_home_211 gg (nI k) (nI i) (nI (80 * k + i)) (bI (lf f b 4)) (up u 60 0 0 0) := fun b => M_hfl gg (nI k) (nI i) (F_X11_home_211 gg (nI k) (nI i)) (80 * k + i) (by omega) (up u 60 0 0 0) f hf b 4 0 fu rfl (lt_fu (by omega))
  have hl0 : F_X11_home_159 gg (nI k) (nI i) (nI (80 * k + i)) (up u 60 0 0 0) = F_X11_home_211 gg (nI k) (nI i) (nI (80 * k + i)) (bI (lf f false 4)) (up u 60 0 0 0) := hl2 false
  have hl1 : F_X11_home_160 gg (nI k) (nI i) (nI (80 * k + i)) 1 (up u 60 0 0 0) = F_X11_home_211 gg (nI k) (nI i) (nI (80 * k + i)) (bI (lf f true 4)) (up u 60 0 0 0) := hl2 true
  have hrow : F_X11_home_227 gg (nI k) (nI i) (F_X11_home_276 gg (nI k) (nI i)) fu (nI (80 * k + i)) 0 (up (up u 60 0 0 0) 60 0 1 0) = F_X11_home_276 gg (nI k) (nI i) (fih (up (up u 60 0 0 0) 60 0 1 0) H (hrw f) 11) := by
    have := M_hrow gg (nI k) (nI i) (F_X11_home_276 gg (nI k) (nI i)) (80 * k + i) H hH (by omega) (up (up u 60 0 0 0) 60 0 1 0) (hrw f) hu (fun q hq => by
      show u 63 0 (80 * k + i + q) = _
      rw [hf q hq]
      unfold hrw
      rw [if_pos hq]) rfl rfl 11 0 fu rfl (lt_fu (by omega))
    rw [fih_0, nI_0] at this
    exact this
  have e42 : fih (up (up u 60 0 0 0) 60 0 1 0) H (hrw f) 11 60 0 42 = nI H := by
    rw [fih_ne (by decide)]
    exact hu
  have hend : F_X11_home_276 gg (nI k) (nI i) (fih (up (up u 60 0 0 0) 60 0 1 0) H (hrw f) 11) = some (nI H + 1 - 1, up (fih (up (up u 60 0 0 0) 60 0 1 0) H (hrw f) 11) 60 0 42 (nI H + 1)) := by
    rw [F_X11_home_276, e42]
  have h211 : ∀ b : Bool, F_X11_home_211 gg (nI k) (nI i) (nI (80 * k + i)) (bI b) (up u 60 0 0 0) = if b = true then some (nI H + 1 - 1, up (fih (up (up u 60 0 0 0) 60 0 1 0) H (hrw f) 11) 60 0 42 (nI H + 1)) else some (-1000001, up u 60 0 0 0) := fun b => by
    rw [F_X11_home_211, bI_if, hrow, hend]
  have e1 : nI (80 * k + i) + 1 = nI (80 * k + i + 1) := nI_add _ 1
  have e2 : nI (80 * k + i) + 2 = nI (80 * k + i + 2) := nI_add _ 2
  have e3 : nI (80 * k + i) + 3 = nI (80 * k + i + 3) := nI_add _ 3
  have e4 : nI (80 * k + i) + 4 = nI (80 * k + i + 4) := nI_add _ 4
  have b0 : inb (nI (80 * k + i)) 640 = true := inb_nI (by omega) (by omega)
  have b1 : inb (nI (80 * k + i + 1)) 640 = true := inb_nI (by omega) (by omega)
  have b2 : inb (nI (80 * k + i + 2)) 640 = true := inb_nI (by omega) (by omega)
  have b3 : inb (nI (80 * k + i + 3)) 640 = true := inb_nI (by omega) (by omega)
  have b4 : inb (nI (80 * k + i + 4)) 640 = true := inb_nI (by omega) (by omega)
  have f0 : up u 60 0 0 0 63 0 (80 * k + i) = f 0 := hf 0 (by omega)
  have f1 : up u 60 0 0 0 63 0 (80 * k + i + 1) = f 1 := hf 1 (by omega)
  have f2 : up u 60 0 0 0 63 0 (80 * k + i + 2) = f 2 := hf 2 (by omega)
  have f3 : up u 60 0 0 0 63 0 (80 * k + i + 3) = f 3 := hf 3 (by omega)
  have f4 : up u 60 0 0 0 63 0 (80 * k + i + 4) = f 4 := hf 4 (by omega)
  have i12 : ∀ x : Int32, F_X11_in gg x.toInt64 (1 : Int64) (12 : Int64) (up u 60 0 0 0) = some (bI (bw x 1 12), up u 60 0 0 0) := fun x => F_in gg x 1 12 _
  have hb : bw (nI k) 0 7 = true := by
    unfold bw
    rw [decide_eq_true (nI_pos' (show k < 2 ^ 31 by omega)), decide_eq_true (show nI k ≤ 7 from nI_le (b := 7) (by omega) (by omega))]
    rfl
  have hne : ¬ up u 60 0 0 0 60 0 42 = 12 := by
    rw [show up u 60 0 0 0 60 0 42 = nI H from hu]
    exact nI_ne (b := 12) (by omega) (by omega) (by omega)
  unfold F_X11_home
  rw [G_isSheet, bd_so, bI_if, if_pos hb, if_neg hne, hl, bd_so, if_pos (show (0 : Int32) ≤ 0 by decide)]
  simp only [ix80, e1, e2, e3, e4, gd_of b0, gd_of b1, gd_of b2, gd_of b3, gd_of b4, in_0_5, i12, in_0w, in_0_9999, in_0_99, bd_so, bI_if, hl0, hl1, nI_clamp (show 80 * k + i < 2 ^ 31 by omega), nI_clamp (show 80 * k + i + 1 < 2 ^ 31 by omega), nI_clamp (show 80 * k + i + 2 < 2 ^ 31 by omega), nI_clamp (show 80 * k + i + 3 < 2 ^ 31 by omega), nI_clamp (show 80 * k + i + 4 < 2 ^ 31 by omega), f0, f1, f2, f3, f4, h211]
  unfold hft h5
  cases q0 : bw (f 0) 0 5
  · simp [lf_f]
  cases q1 : bw (f 1) 1 12
  · simp [lf_f]
  cases q2 : bw (f 2) 0 (f 1)
  · simp [lf_f]
  cases q3 : bw (f 3) 0 9999
  · simp [lf_f]
  cases q4 : bw (f 4) 0 99
  · simp [lf_f]
  simp
