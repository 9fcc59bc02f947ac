/-! step: what a mill does -/
def okM (tk ne : Int32) (ow po : Nat → Int32) (i : Nat) : Bool := decide (((tk >>> (nI i &&& 31)) &&& (1 : Int32)) = (1 : Int32)) && !(decide (ow i + po i < ne))
def chp (ok : Nat → Bool) (p : Nat → Int32) : Nat → Nat → Int32 → Int32
  | _, 0, b => b
  | i, m + 1, b => chp ok p (i + 1) m (if ok i = true then (if b = -1000000 then nI i else if p b.toNatClampNeg ≤ p i then b else nI i) else b)
theorem X_chp (g : Nat × Nat) (k : Nat) (s : St) : ∀ (m i n : Nat) (b : Int32), (b = -1000000 ∨ ∃ j : Nat, j < 4 ∧ b = nI j) → i + m = 4 → m < n → F_X1_cheapestFor_5 g k n b (nI i) s = some (chp (okM (s 14 k 1) (s 14 k 0) (s 15 k) (s 7 0)) (s 8 0) i m b, s)
  | 0, i, n + 1, b, hb, hi, _ => by
    have : i = 4 := by omega
    subst this
    rw [F_X1_cheapestFor_5, if_pos (show (4 : Int32) ≤ nI 4 by decide)]
    rfl
  | m + 1, i, n + 1, b, hb, hi, hn => by
    have b1 : inb (nI i) 4 = true := inb_nI (by omega) (by omega)
    have hb2 : ∀ b' : Int32, (b' = b ∨ b' = nI i) → F_X1_cheapestFor_5 g k n b' (nI (i + 1)) s = some (chp (okM (s 14 k 1) (s 14 k 0) (s 15 k) (s 7 0)) (s 8 0) (i + 1) m b', s) := fun b' hb' => X_chp g k s m (i + 1) n b' (by
      rcases hb' with e | e
      · rw [e]
        exact hb
      · exact Or.inr ⟨i, by omega, e⟩) (by omega) (by omega)
    rw [F_X1_cheapestFor_5, if_neg (show ¬ (4 : Int32) ≤ nI i from nI_ge (b := 4) (by omega) (by omega)), F_X4_canUse, chp, okM]
    by_cases q1 : ((s 14 k 1 >>> (nI i &&& 31)) &&& (1 : Int32)) = (1 : Int32)
    · rw [if_pos q1, bd_so, if_neg (show ¬ (1 : Int32) = 0 by decide), gd_of b1, gd_of b1, nI_clamp (by omega), decide_eq_true q1, Bool.true_and]
      by_cases q2 : s 15 k i + s 7 0 i < s 14 k 0
      · rw [if_pos q2, decide_eq_true q2, F_X1_cheapestFor_42, F_X1_cheapestFor_43, if_pos rfl, F_X1_cheapestFor_73, nI_1, hb2 b (Or.inl rfl)]
        rfl
      · rw [if_neg q2, decide_eq_false q2, F_X1_cheapestFor_43, if_neg (show ¬ (1 : Int32) = 0 by decide), F_X1_cheapestFor_71, F_X1_cheapestFor_73, F_X1_cheapestFor_73, nI_1, if_pos (show (!false) = true from rfl)]
        rcases hb with e | ⟨j, hj, e⟩
        · rw [if_pos e, if_pos e, hb2 _ (Or.inr rfl)]
        · have e' : ¬ b = -1000000 := by
            rw [e]
            exact no_n (by omega)
          have b2 : inb b 4 = true := by
            rw [e]
            exact inb_nI hj (by omega)
          rw [if_neg e', if_neg e', gd_of b1, gd_of b2, nI_clamp (show i < 2 ^ 31 by omega)]
          by_cases q3 : s 8 0 b.toNatClampNeg ≤ s 8 0 i
          · rw [if_pos q3, if_pos q3, hb2 _ (Or.inl rfl)]
          · rw [if_neg q3, if_neg q3, hb2 _ (Or.inr rfl)]
    · rw [if_neg q1, bd_so, if_pos rfl, F_X1_cheapestFor_42, F_X1_cheapestFor_43, if_pos rfl, F_X1_cheapestFor_73, nI_1, hb2 b (Or.inl rfl), decide_eq_false q1, Bool.false_and]
      rfl
theorem M_chp (g : Nat × Nat) {k : Nat} (hk : k < 6) (hh : Int32 → St → Option (Unit × St)) (u : St) : ∀ (m i n : Nat) (b : Int32), (b = -1000000 ∨ ∃ j : Nat, j < 4 ∧ b = nI j) → i + m = 4 → m < n → F_X11_work_5 g (nI k) hh n b (nI i) u = hh (chp (okM (u 71 0 k) (u 70 0 k) (fun q => u 74 0 (4 * k + q)) (u 66 0)) (u 77 0) i m b) u
  | 0, i, n + 1, b, hb, hi, _ => by
    have : i = 4 := by omega
    subst this
    rw [F_X11_work_5, if_pos (show (4 : Int32) ≤ nI 4 by decide)]
    rfl
  | m + 1, i, n + 1, b, hb, hi, hn => by
    have b1 : inb (nI i) 4 = true := inb_nI (by omega) (by omega)
    have b3 : inb (nI k) 6 = true := inb_nI hk (by omega)
    have b4 : inb (nI (4 * k + i)) 24 = true := inb_nI (by omega) (by omega)
    have hb2 : ∀ b' : Int32, (b' = b ∨ b' = nI i) → F_X11_work_5 g (nI k) hh n b' (nI (i + 1)) u = hh (chp (okM (u 71 0 k) (u 70 0 k) (fun q => u 74 0 (4 * k + q)) (u 66 0)) (u 77 0) (i + 1) m b') u := fun b' hb' => M_chp g hk hh u m (i + 1) n b' (by
      rcases hb' with e | e
      · rw [e]
        exact hb
      · exact Or.inr ⟨i, by omega, e⟩) (by omega) (by omega)
    rw [F_X11_work_5, if_neg (show ¬ (4 : Int32) ≤ nI i from nI_ge (b := 4) (by omega) (by omega)), gd_of b3, nI_clamp (show k < 2 ^ 31 by omega), chp, okM]
    by_cases q1 : ((u 71 0 k >>> (nI i &&& 31)) &&& (1 : Int32)) = (1 : Int32)
    · rw [if_pos q1, ix4, gd_of b4, gd_of b1, gd_of b3, nI_clamp (show i < 2 ^ 31 by omega), nI_clamp (show 4 * k + i < 2 ^ 31 by omega), decide_eq_true q1, Bool.true_and]
      by_cases q2 : u 74 0 (4 * k + i) + u 66 0 i < u 70 0 k
      · rw [if_pos q2, decide_eq_true q2, F_X11_work_54, F_X11_work_55, if_pos rfl, F_X11_work_87, F_X11_work_88, nI_1, hb2 b (Or.inl rfl)]
        rfl
      · rw [if_neg q2, decide_eq_false q2, F_X11_work_55, if_neg (show ¬ (1 : Int32) = 0 by decide), F_X11_work_83, F_X11_work_87, F_X11_work_88, F_X11_work_88, nI_1, if_pos (show (!false) = true from rfl)]
        rcases hb with e | ⟨j, hj, e⟩
        · rw [if_pos e, if_pos e, hb2 _ (Or.inr rfl)]
        · have e' : ¬ b = -1000000 := by
            rw [e]
            exact no_n (by omega)
          have b2 : inb b 4 = true := by
            rw [e]
            exact inb_nI hj (by omega)
          rw [if_neg e', if_neg e', gd_of b1, gd_of b2, nI_clamp (show i < 2 ^ 31 by omega)]
          by_cases q3 : u 77 0 b.toNatClampNeg ≤ u 77 0 i
          · rw [if_pos q3, if_pos q3, hb2 _ (Or.inl rfl)]
          · rw [if_neg q3, if_neg q3, hb2 _ (Or.inr rfl)]
    · rw [if_neg q1, F_X11_work_54, F_X11_work_55, if_pos rfl, F_X11_work_87, F_X11_work_88, nI_1, hb2 b (Or.inl rfl), decide_eq_false q1, Bool.false_and]
      rfl
theorem chp_congr {ok ok' : Nat → Bool} {p p' : Nat → Int32} (ho : ∀ i, i < 4 → ok i = ok' i) (hp : ∀ i, i < 4 → p i = p' i) : ∀ (m i : Nat) (b : Int32), (b = -1000000 ∨ ∃ j : Nat, j < 4 ∧ b = nI j) → i + m = 4 → chp ok p i m b = chp ok' p' i m b
  | 0, _, _, _, _ => rfl
  | m + 1, i, b, hb, hi => by
    have e : (if ok i = true then (if b = -1000000 then nI i else if p b.toNatClampNeg ≤ p i then b else nI i) else b) = (if ok' i = true then (if b = -1000000 then nI i else if p' b.toNatClampNeg ≤ p' i then b else nI i) else b) := by
      rw [ho i (by omega), hp i (by omega)]
      rcases hb with e | ⟨j, hj, e⟩
      · rw [if_pos e, if_pos e]
      · rw [e, nI_clamp (by omega), hp j hj]
    rw [chp, chp, e]
    refine chp_congr ho hp m (i + 1) _ ?_ (by omega)
    by_cases q1 : ok' i = true
    · rw [if_pos q1]
      by_cases q2 : b = -1000000
      · rw [if_pos q2]
        exact Or.inr ⟨i, by omega, rfl⟩
      · rw [if_neg q2]
        by_cases q3 : p' b.toNatClampNeg ≤ p' i
        · rw [if_pos q3]
          exact hb
        · rw [if_neg q3]
          exact Or.inr ⟨i, by omega, rfl⟩
    · rw [if_neg q1]
      exact hb
theorem chp_ok {ok : Nat → Bool} {p : Nat → Int32} : ∀ (m i : Nat) (b : Int32), (b = -1000000 ∨ ∃ j : Nat, j < 4 ∧ b = nI j ∧ ok j = true) → i + m = 4 → (chp ok p i m b = -1000000 ∨ ∃ j : Nat, j < 4 ∧ chp ok p i m b = nI j ∧ ok j = true)
  | 0, _, _, hb, _ => hb
  | m + 1, i, b, hb, hi => by
    rw [chp]
    refine chp_ok m (i + 1) _ ?_ (by omega)
    by_cases q1 : ok i = true
    · rw [if_pos q1]
      by_cases q2 : b = -1000000
      · rw [if_pos q2]
        exact Or.inr ⟨i, by omega, rfl, q1⟩
      · rw [if_neg q2]
        by_cases q3 : p b.toNatClampNeg ≤ p i
        · rw [if_pos q3]
          exact hb
        · rw [if_neg q3]
          exact Or.inr ⟨i, by omega, rfl, q1⟩
    · rw [if_neg q1]
      exact hb
theorem WM.run {Bf th : Nat → Nat} {nM w C : Nat} {s u : St} (h : WM Bf th nM w C s u) {k j O P K : Nat} (hk : k < nM) (hj : j < 4) (hP : P ≤ Bf j) (hO : O ≤ 9999) (hK : K ≤ 2000000000) (ht : th k = w) : WM Bf (fun q => if q = k then w + 1 else th q) nM w C (up (up (up (up (up s 15 k j (nI O)) 7 0 j (nI P)) 14 k 6 (nI K)) 16 k w (nI j)) 14 k 7 (s 14 k 7 + 1)) (up (up (up (up u 74 0 (4 * k + j) (nI O)) 66 0 j (nI P)) 76 0 (100 * k + w) (nI j)) 75 0 k (nI K)) := by
  obtain ⟨h1, h2, h3, h4, h5, h6⟩ := h
  have hw := h1.2.2.2.2.2.1
  refine ⟨h1, h2, fun q hq => ?_, fun k' hk' q hq => ?_, fun k' hk' => ?_, fun k' hk' hk6 => ⟨fun q hq => ?_, ?_, fun x hx => ?_⟩⟩
  · by_cases e : q = j
    · subst e
      exact ⟨by simp [up], P, hP, by simp [up]⟩
    · obtain ⟨e1, n, e2, e3⟩ := h3 q hq
      exact ⟨by simpa [up, e] using e1, n, e2, by simpa [up, e] using e3⟩
  · obtain ⟨e1, n, e2, e3⟩ := h4 k' hk' q hq
    by_cases e : k' = k ∧ q = j
    · obtain ⟨rfl, rfl⟩ := e
      exact ⟨by simp [up], O, hO, by simp [up]⟩
    · have e4 : ¬ 4 * k' + q = 4 * k + j := by omega
      have e5 : up (up (up (up (up s 15 k j (nI O)) 7 0 j (nI P)) 14 k 6 (nI K)) 16 k w (nI j)) 14 k 7 (s 14 k 7 + 1) 15 k' q = s 15 k' q := by
        by_cases e5 : k' = k
        · have : ¬ q = j := fun e6 => e ⟨e5, e6⟩
          simp [up, this]
        · simp [up, e5]
      rw [e5]
      exact ⟨by simpa [up, e4] using e1, n, e2, e3⟩
  · have r := h5 k' hk'
    by_cases e : k' = k
    · subst e
      rw [ht] at r
      have r2 := r.run hw hK hj
      have x1 : up (up (up (up (up s 15 k' j (nI O)) 7 0 j (nI P)) 14 k' 6 (nI K)) 16 k' w (nI j)) 14 k' 7 (s 14 k' 7 + 1) 14 k' = fun c => if c = 7 then s 14 k' 7 + 1 else if c = 6 then nI K else s 14 k' c := by
        funext c
        simp [up]
      have x2 : up (up (up (up (up s 15 k' j (nI O)) 7 0 j (nI P)) 14 k' 6 (nI K)) 16 k' w (nI j)) 14 k' 7 (s 14 k' 7 + 1) 16 k' = fun c => if c = w then nI j else s 16 k' c := by
        funext c
        simp [up]
      have x3 : (fun x => up (up (up (up u 74 0 (4 * k' + j) (nI O)) 66 0 j (nI P)) 76 0 (100 * k' + w) (nI j)) 75 0 k' (nI K) 76 0 (100 * k' + x)) = fun x => if x = w then nI j else u 76 0 (100 * k' + x) := by
        funext x
        by_cases e : x = w
        · subst e
          simp [up]
        · have : ¬ 100 * k' + x = 100 * k' + w := by omega
          simp [up, e]
      have x4 : up (up (up (up u 74 0 (4 * k' + j) (nI O)) 66 0 j (nI P)) 76 0 (100 * k' + w) (nI j)) 75 0 k' (nI K) 75 0 k' = nI K := by simp [up]
      rw [x1, x2, x3, x4]
      refine (show RM1 (if k' = k' then w + 1 else th k') _ _ _ _ _ _ _ _ from ?_)
      rw [if_pos rfl]
      exact r2
    · have x1 : up (up (up (up (up s 15 k j (nI O)) 7 0 j (nI P)) 14 k 6 (nI K)) 16 k w (nI j)) 14 k 7 (s 14 k 7 + 1) 14 k' = s 14 k' := by
        funext c
        simp [up, e]
      have x2 : up (up (up (up (up s 15 k j (nI O)) 7 0 j (nI P)) 14 k 6 (nI K)) 16 k w (nI j)) 14 k 7 (s 14 k 7 + 1) 16 k' = s 16 k' := by
        funext c
        simp [up, e]
      have x4 : up (up (up (up u 74 0 (4 * k + j) (nI O)) 66 0 j (nI P)) 76 0 (100 * k + w) (nI j)) 75 0 k (nI K) 75 0 k' = u 75 0 k' := by simp [up, e]
      rw [x1, x2, x4]
      refine (show RM1 (if k' = k then w + 1 else th k') _ _ _ _ _ _ _ _ from ?_)
      rw [if_neg e]
      obtain ⟨a1, a2, a3, a4, a5, a6, a7, a8, a9, a10, a11, a12⟩ := r
      refine ⟨a1, a2, a3, a4, a5, a6, a7, a8, a9, a10, a11, fun x hx => ?_⟩
      have e3 : ¬ 100 * k' + x = 100 * k + w := by omega
      have := a12 x hx
      simpa [up, e3] using this
  · have e1 : ¬ 4 * k' + q = 4 * k + j := by omega
    have e2 := (h6 k' hk' hk6).1 q hq
    simpa [up, e1] using e2
  · have e : ¬ k' = k := by omega
    have e2 := (h6 k' hk' hk6).2.1
    simpa [up, e] using e2
  · have e1 : ¬ 100 * k' + x = 100 * k + w := by omega
    have e2 := (h6 k' hk' hk6).2.2 x hx
    simpa [up, e1] using e2
theorem cap_n {Z : Nat} (hZ : Z ≤ 4000000000) : (if lN Z < (2000000000 : Int64) then lN Z else (2000000000 : Int64)).toInt32 = nI (min Z 2000000000) := by
  rw [big_n]
  by_cases q : Z < 2000000000
  · rw [if_pos ((pk_lLT (by omega) (by omega)).mpr q), lN_i]
    congr 1
    omega
  · rw [if_neg (fun e => q ((pk_lLT (by omega) (by omega)).mp e)), lN_i]
    congr 1
    omega
theorem neg_m (a b : Nat) (K : Int64) : K + (-(lN a)) * lN b = K - lN (a * b) := by
  rw [Int64.neg_mul, lN_mul, Int64.sub_eq_add_neg]
theorem mill_same (g : Nat × Nat) {Bf th : Nat → Nat} {nM w C k : Nat} {s u : St} (hg : g.1 = nM) (hk : k < nM) (hB : ∀ i, i < 4 → Bf i ≤ 1000000000) (ht : th k = w) (h : WM Bf th nM w C s u) (n : Nat) : ∃ s' u' : St, F_X1_workMills_2 g (n + 1) (nI k) s = F_X1_workMills_2 g n (nI (k + 1)) s' ∧ F_X11_work g (nI k) u = some ((), u') ∧ WM (fun q => Bf q + 9999) (fun q => if q = k then w + 1 else th q) nM w C s' u' ∧ FrW s s' u u' := by
  have h0 := h
  obtain ⟨⟨c1, c2, c3, c4, c5, c6, c7, c8, c9⟩, hp, hpo, hba, hrm, _⟩ := h
  obtain ⟨a1, a2, a3, a4, a5, ⟨nd, a6, a6', a6''⟩, a7, ⟨mg, a8, a8'⟩, ⟨H, a9, a9'⟩, ⟨K, a10, a10'⟩, a11, a12⟩ := id (hrm k hk)
  have b2 : inb (nI k) 6 = true := inb_nI (by omega) (by omega)
  have b5 : ltb (nI k) g.1 = true := by
    rw [hg]
    exact ltb_nI hk (by omega)
  have eok : ∀ i, i < 4 → okM (u 71 0 k) (u 70 0 k) (fun q => u 74 0 (4 * k + q)) (u 66 0) i = okM (s 14 k 1) (s 14 k 0) (s 15 k) (s 7 0) i := fun i hi => by
    have e1 := (hba k hk i hi).1
    have e2 := (hpo i hi).1
    simp only [okM, a1, a2, e1, e2]
  have x1 := X_chp g k s 4 0 fu (-1000000) (Or.inl rfl) (by omega) (lt_fu (by omega))
  have m1 := M_chp g (show k < 6 by omega) (F_X11_work_95 g (nI k)) u 4 0 fu (-1000000) (Or.inl rfl) (by omega) (lt_fu (by omega))
  rw [chp_congr eok (fun i hi => (hp i hi).1) 4 0 (-1000000) (Or.inl rfl) (by omega)] at m1
  rw [nI_0] at x1 m1
  have hres := chp_ok (ok := okM (s 14 k 1) (s 14 k 0) (s 15 k) (s 7 0)) (p := s 8 0) 4 0 (-1000000) (Or.inl rfl) (by omega)
  rw [F_X1_workMills_2, c2, if_neg (nI_ge hk (by omega)), gd_of b2, gd_of b5, nI_clamp (show k < 2 ^ 31 by omega), F_X1_cheapestFor, x1, bd_so, F_X11_work, m1]
  have hsell : ∃ s' u' : St, F_X1_workMills_56 g (F_X1_workMills_2 g n) (nI k) k s = F_X1_workMills_2 g n (nI (k + 1)) s' ∧ F_X11_work_241 g (nI k) u = some ((), u') ∧ WM (fun q => Bf q + 9999) (fun q => if q = k then w + 1 else th q) nM w C s' u' ∧ FrW s s' u u' := by
    unfold F_X1_workMills_56 F_X1_sellOut F_X1_workMills_61 F_X11_work_241
    rw [a9', nI_1]
    have tm : ∀ q, q < nM → th q ≤ (fun q => if q = k then w + 1 else th q) q := fun q _ => by
      show th q ≤ if q = k then w + 1 else th q
      by_cases e : q = k
      · rw [if_pos e, e, ht]
        omega
      · rw [if_neg e]
        exact Nat.le_refl _
    by_cases q : H = 0
    · subst q
      have z := M_sell0 g (show k < 6 by omega) (u := u) (by rw [a4, a9', nI_0]) 4 0 fu (by omega) (lt_fu (by omega))
      rw [nI_0] at z
      rw [nI_0, if_pos rfl, bd_so, z]
      exact ⟨s, u, rfl, rfl, h0.mono (fun _ _ => by omega) tm, fun _ _ _ _ _ => rfl, fun _ _ _ _ _ => rfl⟩
    · obtain ⟨s', u', y1, y2, y3, y4⟩ := sell_same g (s := s) (u := u) (C := C) (w := w) (th := th) hk (show 0 < H by omega) a9 hB 4 0 fu fu s u (h0.mono (fun i hi => by simp) (fun _ _ => Nat.le_refl _)) ⟨fun _ _ _ _ _ => rfl, fun _ _ _ _ _ => rfl⟩ a9' (by omega) (lt_fu (by omega)) (lt_fu (by omega))
      rw [nI_0] at y1 y2
      rw [if_neg (nI_ne0 (by omega) (by omega)), y1, bd_so, y2]
      exact ⟨s', u', rfl, rfl, y3.mono (fun _ _ => Nat.le_refl _) tm, y4⟩
  rcases hres with e | ⟨j, hj, e, ej⟩
  · rw [e, if_pos rfl, F_X11_work_95, if_pos rfl]
    exact hsell
  · have b1 : inb (nI j) 4 = true := inb_nI hj (by omega)
    have b3 : inb (nI (4 * k + j)) 24 = true := inb_nI (by omega) (by omega)
    have b4 : inb (nI (100 * k + w)) 600 = true := inb_nI (by omega) (by omega)
    obtain ⟨p1, p, p2, p3, p4⟩ := hp j hj
    obtain ⟨q1, P, q2, q3⟩ := hpo j hj
    have hBj := hB j hj
    obtain ⟨o1, O, o2, o3⟩ := hba k hk j hj
    rw [e, if_neg (no_n (by omega)), gd_of b1, nI_clamp (show j < 2 ^ 31 by omega), c7, p4, a8', F_X11_work_95, if_neg (no_n (by omega)), gd_of b1, gd_of b2, nI_clamp (show j < 2 ^ 31 by omega), nI_clamp (show k < 2 ^ 31 by omega), c8, p1, p4, a3, a8']
    by_cases q : nI C - nI p < nI mg
    · rw [if_pos q, if_pos q]
      exact hsell
    · rw [if_neg q, if_neg q]
      have hpC : p ≤ C := by
        by_cases z : p ≤ C
        · exact z
        · exact absurd (Int32.lt_of_lt_of_le (pk_sneg (a := C) (b := p) (by omega) (by omega)) (nI_pos' (show mg < 2 ^ 31 by omega))) q
      have hOP : nd ≤ O + P := by
        unfold okM at ej
        rw [Bool.and_eq_true, o3, q3, a6'', nI_add] at ej
        have e2 := ej.2
        by_cases z : nd ≤ O + P
        · exact z
        · rw [decide_eq_true (nI_lt (show O + P < nd by omega) (by omega))] at e2
          exact absurd e2 (by decide)
      have hmin : (if nI O < nI nd then nI O else nI nd) = nI (min O nd) := by
        rw [min_nI (by omega) (by omega), Nat.min_comm]
      have hG1 : nd * C ≤ 50 * 5000 := Nat.mul_le_mul a6' c9
      have hC1 : (nd - min O nd) * p ≤ nd * C := Nat.mul_le_mul (by omega) hpC
      have hfin : min (K + (nd * C - (nd - min O nd) * p)) 2000000000 ≤ 2000000000 := Nat.min_le_right _ _
      have hX : F_X1_runMill g k (nI j) s = some ((), up (up (up (up (up s 15 k j (nI (O - min O nd))) 7 0 j (nI (P - (nd - min O nd)))) 14 k 6 (nI (min (K + (nd * C - (nd - min O nd) * p)) 2000000000))) 16 k w (nI j)) 14 k 7 (s 14 k 7 + 1)) := by
        unfold F_X1_runMill F_X4_gain
        rw [gd_of b1, gd_of b1, gd_of b1, gd_of b1, gd_of b1, gd_of b1, nI_clamp (show j < 2 ^ 31 by omega), o3, a6'', hmin, q3, p4, pk_sub (show min O nd ≤ nd by omega), pk_sub (show min O nd ≤ O by omega), pk_sub (show nd - min O nd ≤ P by omega), bd_so, bd_so]
        have z1 : up (up s 15 k j (nI (O - min O nd))) 7 0 j (nI (P - (nd - min O nd))) 14 k 6 = nI K := a10'
        rw [z1, nI_l (show K < 2 ^ 31 by omega), nI_l (show nd - min O nd < 2 ^ 31 by omega), nI_l (show p < 2 ^ 31 by omega), neg_m]
        generalize hY : (if lN K - lN ((nd - min O nd) * p) < 2000000000 then lN K - lN ((nd - min O nd) * p) else 2000000000).toInt32 = Y
        have hpay := pay_n (K := K) (C := (nd - min O nd) * p) (G := nd * C) a10 (by omega) (by omega) hC1
        rw [hY] at hpay
        have z2 : up (up (up s 15 k j (nI (O - min O nd))) 7 0 j (nI (P - (nd - min O nd)))) 14 k 6 Y 14 k 6 = Y := up_at
        have z3 : up (up (up s 15 k j (nI (O - min O nd))) 7 0 j (nI (P - (nd - min O nd)))) 14 k 6 Y 14 k 0 = nI nd := by simpa [up] using a6''
        have z4 : up (up (up s 15 k j (nI (O - min O nd))) 7 0 j (nI (P - (nd - min O nd)))) 14 k 6 Y 4 0 4 = nI C := c7
        rw [z2, z3, z4, nI_l (show nd < 2 ^ 31 by omega), nI_l (show C < 2 ^ 31 by omega), lN_mul, hpay, cap_n (by omega), up_up]
        have z5 : up (up (up s 15 k j (nI (O - min O nd))) 7 0 j (nI (P - (nd - min O nd)))) 14 k 6 (nI (min (K + (nd * C - (nd - min O nd) * p)) 2000000000)) 4 0 13 = nI w := c4
        rw [z5, gd_of (inb_nI (show w < 100 from c6) (by omega)), nI_clamp (show w < 2 ^ 31 by omega)]
        have z6 : up (up (up s 15 k j (nI (O - min O nd))) 7 0 j (nI (P - (nd - min O nd)))) 14 k 6 (nI (min (K + (nd * C - (nd - min O nd) * p)) 2000000000)) 14 k 7 = s 14 k 7 := by simp [up]
        rw [z6]
      have hM : F_X11_work_159 g (nI k) (nI j) (nI (min O nd)) u = some ((), up (up (up (up u 74 0 (4 * k + j) (nI (O - min O nd))) 66 0 j (nI (P - (nd - min O nd)))) 76 0 (100 * k + w) (nI j)) 75 0 k (nI (min (K + (nd * C - (nd - min O nd) * p)) 2000000000))) := by
        unfold F_X11_work_159
        rw [c5, ix4, ix100, gd_of b3, gd_of b3, gd_of b1, gd_of b2, gd_of b1, gd_of b4, gd_of b2, gd_of b2, gd_of b1, nI_clamp (show 4 * k + j < 2 ^ 31 by omega), nI_clamp (show j < 2 ^ 31 by omega), nI_clamp (show k < 2 ^ 31 by omega), nI_clamp (show 100 * k + w < 2 ^ 31 by omega), a1, a6'', c8, p1, p4, o1, o3, q1, q3, pk_sub (show min O nd ≤ nd by omega), pk_sub (show min O nd ≤ O by omega), pk_sub (show nd - min O nd ≤ P by omega), pk_mul, pk_mul, pk_sub hC1]
        have z1 : up (up (up u 74 0 (4 * k + j) (nI (O - min O nd))) 66 0 j (nI (P - (nd - min O nd)))) 76 0 (100 * k + w) (nI j) 75 0 k = nI K := by
          rw [show up (up (up u 74 0 (4 * k + j) (nI (O - min O nd))) 66 0 j (nI (P - (nd - min O nd)))) 76 0 (100 * k + w) (nI j) 75 0 k = u 75 0 k from rfl, a5, a10']
        rw [earn_n g (show k < 6 by omega) a10 (show nd * C - (nd - min O nd) * p ≤ 2000000000 by omega) z1, bd_so]
      have hM2 : (gd (inb (4 * nI k + nI j) 24) (gd (inb (nI k) 6) (if u 70 0 k ≤ u 74 0 (4 * nI k + nI j).toNatClampNeg then gd (inb (nI k) 6) (F_X11_work_159 g (nI k) (nI j) (u 70 0 k) u) else gd (inb (4 * nI k + nI j) 24) (F_X11_work_159 g (nI k) (nI j) (u 74 0 (4 * nI k + nI j).toNatClampNeg) u)))) = F_X11_work_159 g (nI k) (nI j) (nI (min O nd)) u := by
        rw [ix4, gd_of b3, gd_of b2, gd_of b2, gd_of b3, nI_clamp (show 4 * k + j < 2 ^ 31 by omega), o1, o3, a1, a6'']
        by_cases z : nd ≤ O
        · rw [if_pos (nI_le z (by omega)), Nat.min_eq_right z]
        · rw [if_neg (nI_ge (by omega) (by omega)), Nat.min_eq_left (by omega)]
      rw [hX, bd_so, F_X1_workMills_61, nI_1]
      refine ⟨_, _, rfl, Eq.trans hM2 hM, ((h0.run hk hj (O := O - min O nd) (P := P - (nd - min O nd)) (by omega) (by omega) hfin ht).mono (fun _ _ => by omega) (fun _ _ => Nat.le_refl _)), fun t t1 t2 t3 t4 => ?_, fun t t1 t2 t3 t4 => ?_⟩
      · funext x y
        simp [up, t1, t2, t3, t4]
      · funext x y
        simp [up, t1, t2, t3, t4]
