/-! step: the mills of a week -/
def RM1 (th : Nat) (ml ro : Nat → Int32) (ne tk mg hd co : Int32) (rn : Nat → Int32) : Prop := ne = ml 0 ∧ tk = ml 1 ∧ mg = ml 2 ∧ hd = ml 3 ∧ co = ml 6 ∧ (∃ n : Nat, 1 ≤ n ∧ n ≤ 50 ∧ ml 0 = nI n) ∧ (∃ n : Nat, n ≤ 15 ∧ ml 1 = nI n) ∧ (∃ n : Nat, n ≤ 1000 ∧ ml 2 = nI n) ∧ (∃ n : Nat, n ≤ 5000 ∧ ml 3 = nI n) ∧ (∃ n : Nat, n ≤ 2000000000 ∧ ml 6 = nI n) ∧ ml 7 = nI (cnR ro 100) ∧ ∀ w, w < 100 → rn w = ro w ∧ (th ≤ w → ro w = -1000000) ∧ (ro w = -1000000 ∨ ∃ j : Nat, j < 4 ∧ ro w = nI j)
def WM (Bf th : Nat → Nat) (nM w C : Nat) (s u : St) : Prop :=
  (nM ≤ 6 ∧ s 4 0 12 = nI nM ∧ u 60 0 15 = nI nM ∧ s 4 0 13 = nI w ∧ u 60 0 10 = nI w ∧ w < 100 ∧ s 4 0 4 = nI C ∧ u 60 0 8 = nI C ∧ C ≤ 5000) ∧
  (∀ i, i < 4 → u 77 0 i = s 8 0 i ∧ ∃ n : Nat, 1 ≤ n ∧ n ≤ 5000 ∧ s 8 0 i = nI n) ∧
  (∀ i, i < 4 → u 66 0 i = s 7 0 i ∧ ∃ n : Nat, n ≤ Bf i ∧ s 7 0 i = nI n) ∧
  (∀ k, k < nM → ∀ i, i < 4 → u 74 0 (4 * k + i) = s 15 k i ∧ ∃ n : Nat, n ≤ 9999 ∧ s 15 k i = nI n) ∧
  (∀ k, k < nM → RM1 (th k) (s 14 k) (s 16 k) (u 70 0 k) (u 71 0 k) (u 72 0 k) (u 73 0 k) (u 75 0 k) (fun x => u 76 0 (100 * k + x))) ∧
  ∀ k, nM ≤ k → k < 6 → (∀ i, i < 4 → u 74 0 (4 * k + i) = 0) ∧ u 75 0 k = 0 ∧ ∀ x, x < 100 → u 76 0 (100 * k + x) = -1000000
def FrW (s s' u u' : St) : Prop := (∀ t, t ≠ 7 → t ≠ 14 → t ≠ 15 → t ≠ 16 → s' t = s t) ∧ ∀ t, t ≠ 66 → t ≠ 74 → t ≠ 75 → t ≠ 76 → u' t = u t
theorem FrW.tr {s s' s'' u u' u'' : St} (h : FrW s s' u u') (h' : FrW s' s'' u' u'') : FrW s s'' u u'' :=
  ⟨fun t h1 h2 h3 h4 => (h'.1 t h1 h2 h3 h4).trans (h.1 t h1 h2 h3 h4), fun t h1 h2 h3 h4 => (h'.2 t h1 h2 h3 h4).trans (h.2 t h1 h2 h3 h4)⟩
theorem WM.mono {Bf Bf' th th' : Nat → Nat} {nM w C : Nat} {s u : St} (h : WM Bf th nM w C s u) (hB : ∀ i, i < 4 → Bf i ≤ Bf' i) (ht : ∀ k, k < nM → th k ≤ th' k) : WM Bf' th' nM w C s u := by
  obtain ⟨h1, h2, h3, h4, h5, h6⟩ := h
  refine ⟨h1, h2, fun i hi => ?_, h4, fun k hk => ?_, h6⟩
  · obtain ⟨e1, n, e2, e3⟩ := h3 i hi
    exact ⟨e1, n, Nat.le_trans e2 (hB i hi), e3⟩
  · obtain ⟨a1, a2, a3, a4, a5, a6, a7, a8, a9, a10, a11, a12⟩ := h5 k hk
    exact ⟨a1, a2, a3, a4, a5, a6, a7, a8, a9, a10, a11, fun x hx => ⟨(a12 x hx).1, fun e => (a12 x hx).2.1 (Nat.le_trans (ht k hk) e), (a12 x hx).2.2⟩⟩
theorem RM1.coin {th : Nat} {ml ro : Nat → Int32} {ne tk mg hd co : Int32} {rn : Nat → Int32} (h : RM1 th ml ro ne tk mg hd co rn) {K : Nat} (hK : K ≤ 2000000000) : RM1 th (fun c => if c = 6 then nI K else ml c) ro ne tk mg hd (nI K) rn := by
  obtain ⟨a1, a2, a3, a4, a5, a6, a7, a8, a9, a10, a11, a12⟩ := h
  exact ⟨a1, a2, a3, a4, rfl, a6, a7, a8, a9, ⟨K, hK, rfl⟩, a11, a12⟩
theorem cnR_up {ro : Nat → Int32} {w : Nat} {x : Int32} (h : ro w = -1000000) (hx : ¬ x = -1000000) : ∀ n, cnR (fun c => if c = w then x else ro c) n = cnR ro n + (if w < n then 1 else 0)
  | 0 => by simp [cnR]
  | n + 1 => by
    rw [cnR, cnR, cnR_up h hx n]
    by_cases e : n = w
    · subst e
      rw [if_pos rfl, if_neg hx, if_pos h, if_neg (Nat.lt_irrefl n), if_pos (Nat.lt_succ_self n)]
    · rw [if_neg e]
      by_cases e2 : w < n
      · rw [if_pos e2, if_pos (show w < n + 1 by omega)]
        omega
      · rw [if_neg e2, if_neg (show ¬ w < n + 1 by omega)]
        omega
theorem no_n {j : Nat} (hj : j < 2 ^ 31) : ¬ nI j = -1000000 := fun e => by
  have := nI_pos hj
  rw [e] at this
  exact this (by decide)
theorem RM1.run {w : Nat} {ml ro : Nat → Int32} {ne tk mg hd co : Int32} {rn : Nat → Int32} (h : RM1 w ml ro ne tk mg hd co rn) (hw : w < 100) {K j : Nat} (hK : K ≤ 2000000000) (hj : j < 4) : RM1 (w + 1) (fun c => if c = 7 then ml 7 + 1 else if c = 6 then nI K else ml c) (fun c => if c = w then nI j else ro c) ne tk mg hd (nI K) (fun x => if x = w then nI j else rn x) := by
  obtain ⟨a1, a2, a3, a4, a5, a6, a7, a8, a9, a10, a11, a12⟩ := h
  refine ⟨a1, a2, a3, a4, rfl, a6, a7, a8, a9, ⟨K, hK, rfl⟩, ?_, fun x hx => ?_⟩
  · show ml 7 + 1 = _
    rw [a11, cnR_up ((a12 w hw).2.1 (Nat.le_refl _)) (no_n (by omega)) 100, if_pos hw, nI_1]
  · obtain ⟨b1, b2, b3⟩ := a12 x hx
    by_cases e : x = w
    · subst e
      exact ⟨by simp, fun q => by omega, Or.inr ⟨j, hj, by simp⟩⟩
    · refine ⟨by simp only [if_neg e]; exact b1, fun q => by simp only [if_neg e]; exact b2 (by omega), ?_⟩
      simp only [if_neg e]
      exact b3
theorem WM.sell {Bf th : Nat → Nat} {nM w C : Nat} {s u : St} (h : WM Bf th nM w C s u) {k i O P K : Nat} (hk : k < nM) (hi : i < 4) (hP : P ≤ Bf i) (hO : O ≤ 9999) (hK : K ≤ 2000000000) : WM (fun q => if q = i then Bf q + 9999 else Bf q) th nM w C (up (up (up s 15 k i 0) 7 0 i (nI (P + O))) 14 k 6 (nI K)) (up (up (up u 75 0 k (nI K)) 66 0 i (nI (P + O))) 74 0 (4 * k + i) 0) := by
  obtain ⟨h1, h2, h3, h4, h5, h6⟩ := h
  refine ⟨h1, h2, fun q hq => ?_, fun k' hk' q hq => ?_, fun k' hk' => ?_, fun k' hk' hk6 => ⟨fun q hq => ?_, ?_, fun x hx => ?_⟩⟩
  · by_cases e : q = i
    · subst e
      exact ⟨by simp [up], P + O, by show P + O ≤ if q = q then Bf q + 9999 else Bf q; rw [if_pos rfl]; omega, by simp [up]⟩
    · obtain ⟨e1, n, e2, e3⟩ := h3 q hq
      exact ⟨by simpa [up, e] using e1, n, by show n ≤ if q = i then Bf q + 9999 else Bf q; rw [if_neg e]; exact e2, by simpa [up, e] using e3⟩
  · obtain ⟨e1, n, e2, e3⟩ := h4 k' hk' q hq
    by_cases e : k' = k ∧ q = i
    · obtain ⟨rfl, rfl⟩ := e
      exact ⟨by simp [up], 0, by omega, by simp [up, nI_0]⟩
    · have e4 : ¬ 4 * k' + q = 4 * k + i := by omega
      refine ⟨?_, n, e2, ?_⟩
      · rw [show up (up (up s 15 k i 0) 7 0 i (nI (P + O))) 14 k 6 (nI K) 15 k' q = s 15 k' q by
          by_cases e5 : k' = k
          · have : ¬ q = i := fun e6 => e ⟨e5, e6⟩
            simp [up, this]
          · simp [up, e5]]
        simpa [up, e4] using e1
      · by_cases e5 : k' = k
        · have : ¬ q = i := fun e6 => e ⟨e5, e6⟩
          simpa [up, this] using e3
        · simpa [up, e5] using e3
  · have r := h5 k' hk'
    by_cases e : k' = k
    · subst e
      have r2 := r.coin hK
      have x1 : up (up (up s 15 k' i 0) 7 0 i (nI (P + O))) 14 k' 6 (nI K) 14 k' = fun c => if c = 6 then nI K else s 14 k' c := by
        funext c
        simp [up]
      have x2 : up (up (up u 75 0 k' (nI K)) 66 0 i (nI (P + O))) 74 0 (4 * k' + i) 0 75 0 k' = nI K := by simp [up]
      rw [x1, x2]
      exact r2
    · have x1 : up (up (up s 15 k i 0) 7 0 i (nI (P + O))) 14 k 6 (nI K) 14 k' = s 14 k' := by
        funext c
        simp [up, e]
      have x2 : up (up (up u 75 0 k (nI K)) 66 0 i (nI (P + O))) 74 0 (4 * k + i) 0 75 0 k' = u 75 0 k' := by simp [up, e]
      rw [x1, x2]
      exact r
  · have : ¬ 4 * k' + q = 4 * k + i := by omega
    have := (h6 k' hk' hk6).1 q hq
    simpa [up, this] using this
  · have e : ¬ k' = k := by omega
    have := (h6 k' hk' hk6).2.1
    simpa [up, e] using this
  · exact (h6 k' hk' hk6).2.2 x hx
theorem F_changed (g : Nat × Nat) {t k j n : Nat} (hn : lna t = n) (hj : j < n) (h : n < 2 ^ 31) (v : Int32) (s : St) : F_X10_changed g t k (nI j) v s = some (s t k j, up s t k j v) := by
  unfold F_X10_changed
  rw [hn, gd_of (inb_nI hj h), gd_of (inb_nI hj h), nI_clamp (by omega)]
theorem sell_same (g : Nat × Nat) {Bf th : Nat → Nat} {nM w C k H : Nat} {s u : St} (hk : k < nM) (hH : 0 < H) (hH2 : H ≤ 5000) (hB : ∀ i, i < 4 → Bf i ≤ 1000000000) : ∀ (m i n n' : Nat) (s' u' : St), WM (fun q => if q < i then Bf q + 9999 else Bf q) th nM w C s' u' → FrW s s' u u' → s' 14 k 3 = nI H → i + m = 4 → m < n → m < n' → ∃ s'' u'' : St, F_X1_sellOut_10 g k n (nI i) s' = some ((), s'') ∧ F_X11_work_243 g (nI k) n' (nI i) u' = some ((), u'') ∧ WM (fun q => Bf q + 9999) th nM w C s'' u'' ∧ FrW s s'' u u''
  | 0, i, n + 1, n' + 1, s', u', hW, fr, h3, hi, _, _ => by
    have : i = 4 := by omega
    subst this
    refine ⟨s', u', ?_, ?_, hW.mono (fun q hq => ?_) (fun _ _ => Nat.le_refl _), fr⟩
    · rw [F_X1_sellOut_10, if_pos (show (4 : Int32) ≤ nI 4 by decide)]
    · rw [F_X11_work_243, if_pos (show (4 : Int32) ≤ nI 4 by decide)]
    · show (if q < 4 then Bf q + 9999 else Bf q) ≤ Bf q + 9999
      rw [if_pos hq]
      exact Nat.le_refl _
  | m + 1, i, n + 1, n' + 1, s', u', hW, fr, h3, hi, hn, hn' => by
    have hi4 : i < 4 := by omega
    have hW' := hW
    obtain ⟨⟨c1, c2, c3, c4, c5, c6, c7, c8, c9⟩, hp, hpo, hba, hrm, _⟩ := hW'
    have b1 : inb (nI i) 4 = true := inb_nI hi4 (by omega)
    have b2 : inb (nI k) 6 = true := inb_nI (by omega) (by omega)
    have b3 : inb (nI (4 * k + i)) 24 = true := inb_nI (by omega) (by omega)
    obtain ⟨p1, p, p2, p3, p4⟩ := hp i hi4
    obtain ⟨q1, P, q2, q3⟩ := hpo i hi4
    replace q2 : P ≤ if i < i then Bf i + 9999 else Bf i := q2
    rw [if_neg (Nat.lt_irrefl i)] at q2
    have hBi := hB i hi4
    obtain ⟨o1, O, o2, o3⟩ := hba k hk i hi4
    obtain ⟨a1, a2, a3, a4, a5, a6, a7, a8, a9, ⟨K, a10, a10'⟩, a11, a12⟩ := hrm k hk
    have hOp : O * p ≤ 9999 * 5000 := Nat.mul_le_mul o2 p3
    rw [F_X1_sellOut_10, if_neg (show ¬ (4 : Int32) ≤ nI i from nI_ge (b := 4) hi4 (by omega)), gd_of b1, nI_clamp (by omega), h3, p4, F_X11_work_243, if_neg (show ¬ (4 : Int32) ≤ nI i from nI_ge (b := 4) hi4 (by omega)), gd_of b2, nI_clamp (show k < 2 ^ 31 by omega), a4, h3, if_neg (show ¬ nI H ≤ 0 from nI_nle hH (by omega)), gd_of b1, gd_of b2, nI_clamp (show i < 2 ^ 31 by omega), p1, p4]
    by_cases q : p < H
    · rw [if_pos (nI_lt q (by omega)), if_pos (nI_lt q (by omega)), F_X1_sellOut_62, F_X11_work_324, nI_1]
      refine sell_same g hk hH hH2 hB m (i + 1) n n' s' u' (hW.mono (fun z hz => ?_) (fun _ _ => Nat.le_refl _)) fr h3 (by omega) (by omega) (by omega)
      show (if z < i then Bf z + 9999 else Bf z) ≤ (if z < i + 1 then Bf z + 9999 else Bf z)
      by_cases e : z < i
      · rw [if_pos e, if_pos (show z < i + 1 by omega)]
        exact Nat.le_refl _
      · rw [if_neg e]
        by_cases e2 : z < i + 1
        · rw [if_pos e2]
          omega
        · rw [if_neg e2]
          exact Nat.le_refl _
    · have nq : ¬ nI p < nI H := nI_nlt (by omega) (by omega)
      rw [if_neg nq, if_neg nq, F_changed g (show lna 15 = 4 from rfl) hi4 (by omega), bd_so, o3, gd_of b1, gd_of b1, gd_of b1, F_X4_gain]
      have z1 : up s' 15 k i 0 7 0 i = nI P := q3
      have z2 : up s' 15 k i 0 8 0 i = nI p := p4
      have z3 : up (up s' 15 k i 0) 7 0 i (nI P + nI O) 14 k 6 = nI K := a10'
      rw [z1, z2, z3, nI_l (show K < 2 ^ 31 by omega), nI_l (show O < 2 ^ 31 by omega), nI_l (show p < 2 ^ 31 by omega), lN_mul, gain_n a10 (by omega), nI_add, bd_so, F_X1_sellOut_62, nI_1]
      have y1 : up u' 75 0 k (nI (min (K + O * p) 2000000000)) 66 0 i = nI P := by
        rw [show up u' 75 0 k (nI (min (K + O * p) 2000000000)) 66 0 i = u' 66 0 i from rfl, q1, q3]
      have y2 : up u' 75 0 k (nI (min (K + O * p) 2000000000)) 74 0 (4 * k + i) = nI O := by
        rw [show up u' 75 0 k (nI (min (K + O * p) 2000000000)) 74 0 (4 * k + i) = u' 74 0 (4 * k + i) from rfl, o1, o3]
      rw [ix4, gd_of b3, gd_of b1, nI_clamp (show 4 * k + i < 2 ^ 31 by omega), o1, o3, pk_mul, earn_n g (show k < 6 by omega) a10 (by omega) (show u' 75 0 k = nI K by rw [a5, a10']), bd_so, gd_of b1, gd_of b3, gd_of b1, gd_of b3, y1, y2, nI_add, F_X11_work_324, nI_1]
      have hK' : min (K + O * p) 2000000000 ≤ 2000000000 := Nat.min_le_right _ _
      refine sell_same g hk hH hH2 hB m (i + 1) n n' _ _ ((hW.sell hk hi4 (P := P) (O := O) (by show P ≤ if i < i then Bf i + 9999 else Bf i; rw [if_neg (Nat.lt_irrefl i)]; exact q2) o2 hK').mono (fun z hz => ?_) (fun _ _ => Nat.le_refl _)) (fr.tr ⟨fun t t1 t2 t3 t4 => ?_, fun t t1 t2 t3 t4 => ?_⟩) (by simpa [up] using h3) (by omega) (by omega) (by omega)
      · show (if z = i then (if z < i then Bf z + 9999 else Bf z) + 9999 else if z < i then Bf z + 9999 else Bf z) ≤ (if z < i + 1 then Bf z + 9999 else Bf z)
        by_cases e : z = i
        · subst e
          simp
        · rw [if_neg e]
          by_cases e2 : z < i
          · rw [if_pos e2, if_pos (show z < i + 1 by omega)]
            exact Nat.le_refl _
          · rw [if_neg e2, if_neg (show ¬ z < i + 1 by omega)]
            exact Nat.le_refl _
      · funext x y
        simp [up, t1, t2, t3]
      · funext x y
        simp [up, t1, t2, t3]
theorem M_sell0 (g : Nat × Nat) {k : Nat} (hk : k < 6) {u : St} (h : u 73 0 k = 0) : ∀ (m i n : Nat), i + m = 4 → m < n → F_X11_work_243 g (nI k) n (nI i) u = some ((), u)
  | 0, i, n + 1, hi, _ => by
    have : i = 4 := by omega
    subst this
    rw [F_X11_work_243, if_pos (show (4 : Int32) ≤ nI 4 by decide)]
  | m + 1, i, n + 1, hi, hn => by
    rw [F_X11_work_243, if_neg (show ¬ (4 : Int32) ≤ nI i from nI_ge (b := 4) (by omega) (by omega)), gd_of (inb_nI hk (by omega)), nI_clamp (by omega), h, if_pos (show (0 : Int32) ≤ 0 by decide), F_X11_work_324, nI_1]
    exact M_sell0 g hk h m (i + 1) n (by omega) (by omega)
