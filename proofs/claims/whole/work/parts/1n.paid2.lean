/-! paid: taking the items, and the call -/
def gdR (f : Nat → Int32) (c a : Nat) : Nat → Nat → Bool
  | _, 0 => true
  | j, m + 1 => bw (f (c + a * c + j)) 0 (if j = a then 0 else 1000) && gdR f c a (j + 1) m
def gdP (f : Nat → Int32) (c : Nat) : Nat → Nat → Bool
  | _, 0 => true
  | a, m + 1 => bw (f a) 0 1000 && (gdR f c a 0 c && gdP f c (a + 1) m)
def pL (c q : Nat) : Int32 := if q < c then 1000 else if (q - c) / c = (q - c) % c then 0 else 1000
def gdL (f : Nat → Int32) (c : Nat) : Nat → Nat → Bool
  | _, 0 => true
  | q, m + 1 => bw (f q) 0 (pL c q) && gdL f c (q + 1) m
theorem gdR_iff {f : Nat → Int32} {c a : Nat} : ∀ (m j : Nat), gdR f c a j m = true ↔ ∀ b, j ≤ b → b < j + m → bw (f (c + a * c + b)) 0 (if b = a then 0 else 1000) = true
  | 0, j => by
    rw [gdR]
    exact ⟨fun _ b h1 h2 => by omega, fun _ => rfl⟩
  | m + 1, j => by
    rw [gdR, Bool.and_eq_true, gdR_iff m (j + 1)]
    constructor
    · rintro ⟨h1, h2⟩ b h3 h4
      by_cases e : b = j
      · subst e
        exact h1
      · exact h2 b (by omega) (by omega)
    · intro h
      exact ⟨h j (by omega) (by omega), fun b h3 h4 => h b (by omega) (by omega)⟩
theorem gdP_iff {f : Nat → Int32} {c : Nat} : ∀ (m a : Nat), gdP f c a m = true ↔ ∀ b, a ≤ b → b < a + m → bw (f b) 0 1000 = true ∧ gdR f c b 0 c = true
  | 0, j => by
    rw [gdP]
    exact ⟨fun _ b h1 h2 => by omega, fun _ => rfl⟩
  | m + 1, j => by
    rw [gdP, Bool.and_eq_true, Bool.and_eq_true, gdP_iff m (j + 1)]
    constructor
    · rintro ⟨h1, h2, h3⟩ b h4 h5
      by_cases e : b = j
      · subst e
        exact ⟨h1, h2⟩
      · exact h3 b (by omega) (by omega)
    · intro h
      exact ⟨(h j (by omega) (by omega)).1, (h j (by omega) (by omega)).2, fun b h3 h4 => h b (by omega) (by omega)⟩
theorem gdL_iff {f : Nat → Int32} {c : Nat} : ∀ (m a : Nat), gdL f c a m = true ↔ ∀ b, a ≤ b → b < a + m → bw (f b) 0 (pL c b) = true
  | 0, j => by
    rw [gdL]
    exact ⟨fun _ b h1 h2 => by omega, fun _ => rfl⟩
  | m + 1, j => by
    rw [gdL, Bool.and_eq_true, gdL_iff m (j + 1)]
    constructor
    · rintro ⟨h1, h3⟩ b h4 h5
      by_cases e : b = j
      · subst e
        exact h1
      · exact h3 b (by omega) (by omega)
    · intro h
      exact ⟨h j (by omega) (by omega), fun b h3 h4 => h b (by omega) (by omega)⟩
theorem gdP_PG {f : Nat → Int32} {c : Nat} : gdP f c 0 c = true ↔ PG f c := by
  rw [gdP_iff]
  unfold PG
  constructor
  · intro h
    exact ⟨fun a ha => (h a (by omega) (by omega)).1, fun a ha b hb => (gdR_iff c 0).mp (h a (by omega) (by omega)).2 b (by omega) (by omega)⟩
  · rintro ⟨h1, h2⟩ b h3 h4
    exact ⟨h1 b (by omega), (gdR_iff c 0).mpr (fun j h5 h6 => h2 b (by omega) j (by omega))⟩
theorem pL_row {c a b : Nat} (ha : a < c) (hb : b < c) : pL c (c + a * c + b) = if b = a then 0 else 1000 := by
  unfold pL
  rw [if_neg (by omega), show c + a * c + b - c = b + c * a by rw [Nat.mul_comm c a]; omega, Nat.add_mul_div_left _ _ (by omega), Nat.add_mul_mod_self_left, Nat.div_eq_of_lt hb, Nat.mod_eq_of_lt hb, Nat.zero_add]
  by_cases q : b = a
  · rw [if_pos q, if_pos q.symm]
  · rw [if_neg q, if_neg (fun e => q e.symm)]
theorem gdL_PG {f : Nat → Int32} {c : Nat} (hc : 0 < c) : gdL f c 0 (c + c * c) = true ↔ PG f c := by
  rw [gdL_iff]
  unfold PG
  constructor
  · intro h
    refine ⟨fun a ha => ?_, fun a ha b hb => ?_⟩
    · have := h a (by omega) (by omega)
      unfold pL at this
      rw [if_pos ha] at this
      exact this
    · have hr := rowB ha
      have := h (c + a * c + b) (by omega) (by omega)
      rw [pL_row ha hb] at this
      exact this
  · rintro ⟨h1, h2⟩ q h3 h4
    by_cases e : q < c
    · unfold pL
      rw [if_pos e]
      exact h1 q e
    · have e1 : (q - c) / c < c := Nat.div_lt_of_lt_mul (by omega)
      have e2 : (q - c) % c < c := Nat.mod_lt _ hc
      have e3 : q = c + (q - c) / c * c + (q - c) % c := by
        have := Nat.div_add_mod (q - c) c
        rw [Nat.mul_comm] at this
        omega
      rw [e3, pL_row e1 e2]
      exact h2 _ e1 _ e2
/-- a store in which the first a rows are taken -/
def TK (f : Nat → Int32) (c : Nat) (s s' : St) (a : Nat) : Prop := (∀ t, t ≠ 29 → t ≠ 31 → t ≠ 32 → s' t = s t) ∧ ∀ w, w < a → s' 29 0 w = f w ∧ s' 32 0 w = nI (pA f c w) ∧ ∀ b, b < c → s' 31 w b = f (c + w * c + b)
theorem X_prow (g : Nat × Nat) {f : Nat → Int32} {k i0 c a : Nat} (hc : c ≤ 8) (ha : a < c) (hi0 : i0 + (c + c * c) ≤ 80) (s : St) (hf : ∀ q, s 3 k (i0 + q) = f q) : ∀ (m j n : Nat) (s' : St), TK f c s s' a → s' 29 0 a = f a → s' 32 0 a = nI (smN (fun b => pO f c a b) j) → (∀ b, b < j → s' 31 a b = f (c + a * c + b)) → j + m = c → m < n → ∃ s'' : St, F_X2_takeRow_10 g 3 k (nI (i0 + c + a * c)) (nI a) (nI c) n (nI j) s' = some (bI (gdR f c a j m), s'') ∧ (∀ t, t ≠ 29 → t ≠ 31 → t ≠ 32 → s'' t = s t) ∧ (gdR f c a j m = true → TK f c s s'' (a + 1))
  | 0, j, n + 1, s', h1, h2, h3, h4, hj, _ => by
    have : j = c := by omega
    subst this
    refine ⟨s', ?_, h1.1, fun _ => ⟨h1.1, fun w hw => ?_⟩⟩
    · rw [F_X2_takeRow_10, if_pos (nI_le (by omega) (by omega))]
      rfl
    · by_cases e : w = a
      · subst e
        exact ⟨h2, h3, h4⟩
      · exact h1.2 w (by omega)
  | m + 1, j, n + 1, s', h1, h2, h3, h4, hj, hn => by
    have hr := rowB ha
    have b1 : inb (nI j) 8 = true := inb_nI (by omega) (by omega)
    have b2 : inb (nI a) 8 = true := inb_nI (by omega) (by omega)
    have b3 : inb (nI (i0 + c + a * c + j)) (lna 3) = true := inb_nI (show i0 + c + a * c + j < 80 by omega) (by decide)
    have e1 : s' 3 k (i0 + c + a * c + j) = f (c + a * c + j) := by
      rw [h1.1 3 (by decide) (by decide) (by decide), ← hf]
      congr 1
      omega
    rw [F_X2_takeRow_10, if_neg (nI_ge (by omega) (by omega)), nI_add, gd_of b3, nI_clamp (show i0 + c + a * c + j < 2 ^ 31 by omega), e1]
    have e2 : (if nI j = nI a then F_X2_takeRow_41 g 3 k (nI (i0 + c + a * c)) (nI a) (nI c) (F_X2_takeRow_10 g 3 k (nI (i0 + c + a * c)) (nI a) (nI c) n) (nI j) (f (c + a * c + j)) (f (c + a * c + j)) 0 0 s' else F_X2_takeRow_41 g 3 k (nI (i0 + c + a * c)) (nI a) (nI c) (F_X2_takeRow_10 g 3 k (nI (i0 + c + a * c)) (nI a) (nI c) n) (nI j) (f (c + a * c + j)) (f (c + a * c + j)) 0 1000 s') = F_X2_takeRow_41 g 3 k (nI (i0 + c + a * c)) (nI a) (nI c) (F_X2_takeRow_10 g 3 k (nI (i0 + c + a * c)) (nI a) (nI c) n) (nI j) (f (c + a * c + j)) (f (c + a * c + j)) 0 (if j = a then 0 else 1000) s' := by
      by_cases q : j = a
      · rw [if_pos (by rw [q]), if_pos q]
      · rw [if_neg (nI_ne (by omega) (by omega) q), if_neg q]
    rw [e2, F_X2_takeRow_41, F_within, bd_so, bI_if, gdR]
    cases q : bw (f (c + a * c + j)) 0 (if j = a then 0 else 1000)
    · refine ⟨s', ?_, h1.1, fun e => by simp at e⟩
      rw [if_neg (by decide), Bool.false_and]
      rfl
    · have hb := bw_F (bw_any q)
      rw [if_pos rfl, gd_of b2, gd_of b1, gd_of b2, gd_of b2, nI_clamp (show a < 2 ^ 31 by omega), nI_clamp (show j < 2 ^ 31 by omega), h3, nI_1, Bool.true_and]
      have e3 : nI (smN (fun b => pO f c a b) j) + f (c + a * c + j) = nI (smN (fun b => pO f c a b) (j + 1)) := by
        rw [hb.1, nI_add]
        rfl
      rw [e3]
      refine X_prow g hc ha hi0 s hf m (j + 1) n _ ⟨fun t t1 t2 t3 => ?_, fun w hw => ?_⟩ ?_ ?_ ?_ (by omega) (by omega)
      · rw [← h1.1 t t1 t2 t3]
        funext x y
        simp [up, t2, t3]
      · obtain ⟨g1, g2, g3⟩ := h1.2 w hw
        have : ¬ w = a := by omega
        refine ⟨by simpa [up] using g1, by simpa [up, this] using g2, fun b hb => by simpa [up, this] using g3 b hb⟩
      · simpa [up] using h2
      · simp [up]
      · intro b hb
        by_cases e : b = j
        · subst e
          simp [up]
        · have := h4 b (by omega)
          simpa [up, e] using this
theorem X_ptake (g : Nat × Nat) {f : Nat → Int32} {k i0 c : Nat} (hc : c ≤ 8) (hi0 : i0 + (c + c * c) ≤ 80) (s : St) (hf : ∀ q, s 3 k (i0 + q) = f q) : ∀ (m a n : Nat) (s' : St), TK f c s s' a → a + m = c → m < n → ∃ s'' : St, F_X2_take_3 g 3 k (nI i0) (nI c) n (nI a) s' = some (bI (gdP f c a m), s'') ∧ (∀ t, t ≠ 29 → t ≠ 31 → t ≠ 32 → s'' t = s t) ∧ (gdP f c a m = true → TK f c s s'' c)
  | 0, a, n + 1, s', h1, ha, _ => by
    have : a = c := by omega
    subst this
    refine ⟨s', ?_, h1.1, fun _ => h1⟩
    rw [F_X2_take_3, if_pos (nI_le (by omega) (by omega))]
    rfl
  | m + 1, a, n + 1, s', h1, ha, hn => by
    have hac : a < c := by omega
    have b1 : inb (nI a) 8 = true := inb_nI (by omega) (by omega)
    have b3 : inb (nI (i0 + a)) (lna 3) = true := inb_nI (show i0 + a < 80 by omega) (by decide)
    have e1 : s' 3 k (i0 + a) = f a := by
      rw [h1.1 3 (by decide) (by decide) (by decide), hf]
    rw [F_X2_take_3, if_neg (nI_ge (by omega) (by omega)), nI_add i0 a, gd_of b3, gd_of b1, gd_of b1, nI_clamp (show i0 + a < 2 ^ 31 by omega), nI_clamp (show a < 2 ^ 31 by omega), e1, F_within, bd_so, bI_if, gdP, pk_mul, nI_add, nI_add, nI_1]
    have h1' : TK f c s (up s' 29 0 a (f a)) a := by
      refine ⟨fun t t1 t2 t3 => ?_, fun w hw => ?_⟩
      · rw [← h1.1 t t1 t2 t3]
        funext x y
        simp [up, t1]
      · obtain ⟨g1, g2, g3⟩ := h1.2 w hw
        have : ¬ w = a := by omega
        exact ⟨by simpa [up, this] using g1, g2, g3⟩
    cases q : bw (f a) 0 1000
    · refine ⟨_, ?_, h1'.1, fun e => by simp at e⟩
      rw [if_neg (by decide), Bool.false_and]
      rfl
    · have h1'' : TK f c s (up (up s' 29 0 a (f a)) 32 0 a 0) a := by
        refine ⟨fun t t1 t2 t3 => ?_, fun w hw => ?_⟩
        · rw [← h1'.1 t t1 t2 t3]
          funext x y
          simp [up, t1, t3]
        · obtain ⟨g1, g2, g3⟩ := h1'.2 w hw
          have : ¬ w = a := by omega
          exact ⟨g1, by simpa [up, this] using g2, g3⟩
      obtain ⟨s2, r1, r2, r3⟩ := X_prow g hc hac hi0 s hf c 0 fu (up (up s' 29 0 a (f a)) 32 0 a 0) h1'' (by simp [up]) (by simp [up, smN, nI_0]) (fun b hb => by omega) (by omega) (lt_fu (by omega))
      rw [nI_0] at r1
      rw [if_pos rfl, F_X2_takeRow, gd_of b1, nI_clamp (show a < 2 ^ 31 by omega), r1, bd_so, bI_if, Bool.true_and]
      cases q2 : gdR f c a 0 c
      · refine ⟨s2, ?_, r2, fun e => by simp at e⟩
        rw [if_neg (by decide), Bool.false_and]
        rfl
      · rw [if_pos rfl, Bool.true_and]
        exact X_ptake g hc hi0 s hf m (a + 1) n s2 (r3 q2) (by omega) (by omega)
theorem in_0_0 (g : Nat × Nat) (x : Int32) (s : St) : F_X11_in g x.toInt64 (0 : Int64) (0 : Int64) s = some (bI (bw x 0 0), s) := F_in g x 0 0 s
theorem M_pck (g : Nat × Nat) (a1 a2 a4 : Int32) (hk : Int32 → St → Option (Int32 × St)) {f : Nat → Int32} {c p : Nat} (hc0 : 0 < c) (hc : c ≤ 8) (hp : p + (c + c * c) ≤ 640) (u : St) (hf : ∀ q, q < c + c * c → u 63 0 (p + q) = f q) : ∀ (m q n : Nat), q + m = c + c * c → m < n → F_X11_paid_71 g a1 a2 (nI c) a4 hk n (nI p) (nI q) u = if gdL f c q m = true then hk (nI p) u else some (-1000001, u)
  | 0, q, n + 1, hq, _ => by
    rw [F_X11_paid_71, pk_mul, nI_add, if_pos (nI_le (by omega) (by omega))]
    rfl
  | m + 1, q, n + 1, hq, hn => by
    have b3 : inb (nI (p + q)) 640 = true := inb_nI (by omega) (by omega)
    have e0 : ne0 (nI c) = true := by
      unfold ne0
      simp [nI_ne0 hc0 (show c < 2 ^ 31 by omega)]
    have ih := M_pck g a1 a2 a4 hk hc0 hc hp u hf m (q + 1) n (by omega) (by omega)
    have hfq := hf q (by omega)
    have key : ∀ (L : Int32) (x : Option (Int32 × St)), L = pL c q → x = (if bw (f q) 0 L = true then F_X11_paid_71 g a1 a2 (nI c) a4 hk n (nI p) (nI (q + 1)) u else some (-1000001, u)) → x = if gdL f c q (m + 1) = true then hk (nI p) u else some (-1000001, u) := by
      intro L x hL hx
      subst hL
      rw [hx, ih, gdL]
      cases bw (f q) 0 (pL c q)
      · simp
      · simp
    rw [F_X11_paid_71, pk_mul, nI_add, if_neg (nI_ge (by omega) (by omega)), gd_of e0, gd_of e0, F_X11_paid_106, F_X11_paid_107, F_X11_paid_107, nI_add, gd_of b3, gd_of b3, if_pos (show (0 : Int32) = 0 from rfl), if_neg (show ¬ (1 : Int32) = 0 by decide), F_X11_paid_133, F_X11_paid_133, nI_clamp (show p + q < 2 ^ 31 by omega), hfq, in_0_1000, in_0_0, bd_so, bd_so, bI_if, bI_if, nI_1]
    by_cases q1 : q < c
    · rw [if_pos (nI_lt q1 (by omega))]
      exact key 1000 _ (by unfold pL; rw [if_pos q1]) rfl
    · rw [if_neg (nI_nlt (by omega) (by omega)), pk_sub (by omega), pk_rem (by omega) hc0 (by omega), pk_div (by omega) hc0 (by omega), ifc (nI_eq (Nat.lt_of_le_of_lt (Nat.div_le_self _ _) (by omega)) (Nat.lt_of_le_of_lt (Nat.mod_le _ _) (by omega)))]
      by_cases q2 : (q - c) / c = (q - c) % c
      · rw [if_pos q2]
        exact key 0 _ (by unfold pL; rw [if_neg q1, if_pos q2]) rfl
      · rw [if_neg q2]
        exact key 1000 _ (by unfold pL; rw [if_neg q1, if_neg q2]) rfl
theorem up_up {s : St} {t k j : Nat} {v w : Int32} : up (up s t k j v) t k j w = up s t k j w := by
  funext x y z
  unfold up
  by_cases h1 : x = t
  · by_cases h2 : y = k
    · by_cases h3 : z = j
      · simp [h1, h2, h3]
      · simp [h1, h2, h3]
    · simp [h1, h2]
  · simp [h1]
theorem M_pall (g : Nat × Nat) (a1 a2 a4 : Int32) (hk : Int32 → Int32 → St → Option (Int32 × St)) {f : Nat → Int32} {c p a : Nat} (hc : c ≤ 8) (ha : a < c) (hp : p + (c + c * c) ≤ 640) (hG : PG f c) (u : St) (hf : ∀ q, q < c + c * c → u 63 0 (p + q) = f q) : ∀ (m j n : Nat), j + m = c → m < n → F_X11_paid_173 g a1 a2 (nI c) a4 hk n (nI p) (nI a) (nI j) (up u 87 0 a (nI (smN (fun b => pO f c a b) j))) = hk (nI p) (nI a) (up u 87 0 a (nI (pA f c a)))
  | 0, j, n + 1, hj, _ => by
    have : j = c := by omega
    subst this
    rw [F_X11_paid_173, if_pos (nI_le (by omega) (by omega))]
    rfl
  | m + 1, j, n + 1, hj, hn => by
    have hr := rowB ha
    have b1 : inb (nI a) 8 = true := inb_nI (by omega) (by omega)
    have b3 : inb (nI (p + (c + a * c + j))) 640 = true := inb_nI (by omega) (by omega)
    have e1 : up u 87 0 a (nI (smN (fun b => pO f c a b) j)) 63 0 (p + (c + a * c + j)) = nI (pO f c a j) := by
      rw [← (hG.o ha (show j < c by omega)).1]
      exact hf _ (by omega)
    have ih := M_pall g a1 a2 a4 hk hc ha hp hG u hf m (j + 1) n (by omega) (by omega)
    rw [F_X11_paid_173, if_neg (nI_ge (by omega) (by omega)), ixp, gd_of b1, gd_of b3, gd_of b1, nI_clamp (show a < 2 ^ 31 by omega), nI_clamp (show p + (c + a * c + j) < 2 ^ 31 by omega), e1, up_at, up_up, nI_add, nI_1]
    exact ih
theorem filF_upo {s : St} {t k n t' k' j : Nat} {f : Nat → Int32} {v : Int32} (h : t' ≠ t) : up (filF s t k n f) t' k' j v = filF (up s t' k' j v) t k n f := by
  funext x y z
  unfold up filF
  by_cases h1 : x = t
  · have h2 : ¬ t = t' := fun e => h e.symm
    simp [h1, h2]
  · simp [h1]
theorem M_pall2 (g : Nat × Nat) (a1 a2 a4 : Int32) (hk : Int32 → St → Option (Int32 × St)) {f : Nat → Int32} {c p : Nat} (hc : c ≤ 8) (hp : p + (c + c * c) ≤ 640) (hG : PG f c) (u : St) (hf : ∀ q, q < c + c * c → u 63 0 (p + q) = f q) : ∀ (m a n : Nat), a + m = c → m < n → F_X11_paid_156 g a1 a2 (nI c) a4 hk n (nI p) (nI a) (filF (filF u 87 0 a (fun w => nI (pA f c w))) 85 0 a (fun w => nI (pA f c w))) = hk (nI p) (filF (filF u 87 0 c (fun w => nI (pA f c w))) 85 0 c (fun w => nI (pA f c w)))
  | 0, a, n + 1, ha, _ => by
    have : a = c := by omega
    subst this
    rw [F_X11_paid_156, if_pos (nI_le (by omega) (by omega))]
  | m + 1, a, n + 1, ha, hn => by
    have b1 : inb (nI a) 8 = true := inb_nI (by omega) (by omega)
    have e1 := M_pall g a1 a2 a4 (F_X11_paid_212 g a1 a2 (nI c) a4 (F_X11_paid_156 g a1 a2 (nI c) a4 hk n) hk) hc (show a < c by omega) hp hG (filF (filF u 87 0 a (fun w => nI (pA f c w))) 85 0 a (fun w => nI (pA f c w))) hf c 0 fu (by omega) (lt_fu (by omega))
    rw [smN, nI_0] at e1
    have ih := M_pall2 g a1 a2 a4 hk hc hp hG u hf m (a + 1) n (by omega) (by omega)
    rw [F_X11_paid_156, if_neg (nI_ge (by omega) (by omega)), gd_of b1, nI_clamp (show a < 2 ^ 31 by omega), e1, F_X11_paid_212, gd_of b1, gd_of b1, nI_clamp (show a < 2 ^ 31 by omega), up_at, filF_upo (show (87 : Nat) ≠ 85 by decide), filF_1 u 87 0 a (fun w => nI (pA f c w)), filF_1 _ 85 0 a (fun w => nI (pA f c w)), nI_1]
    exact ih
theorem bw_toN {x : Int32} {c : Nat} (hc : c < 2 ^ 31) (h : bw x 0 (nI c) = true) : ∃ j : Nat, j ≤ c ∧ x = nI j := bw_of (nI_toInt hc) h
theorem op_paid {N : Nat} {g : Nat × Nat} {s u : St} (h : Rel N g s u) (a1 a2 a3 a4 : Int32) : Same N g (F_X10_paid g a1 a2 a3 a4 s) (F_X11_paid g a1 a2 a3 a4 u) := by
  have hR := h.read
  unfold F_X10_paid F_X11_paid
  rw [F_isSheet, bd_so, bI_if, G_isSheet, bd_so, bI_if]
  by_cases q1 : bw a1 0 7 = true
  rotate_left
  · rw [if_neg q1, if_neg q1]
    exact ⟨_, _, _, rfl, rfl, hR⟩
  rw [if_pos q1, if_pos q1, F_within, bd_so, bI_if, in_1_8, bd_so, bI_if]
  by_cases q2 : bw a3 1 8 = true
  rotate_left
  · rw [if_neg q2, if_neg q2]
    exact ⟨_, _, _, rfl, rfl, hR⟩
  rw [if_pos q2, if_pos q2, F_within, bd_so, bI_if, in_0w, bd_so, bI_if]
  by_cases q3 : bw a4 0 a3 = true
  rotate_left
  · rw [if_neg q3, if_neg q3]
    exact ⟨_, _, _, rfl, rfl, hR⟩
  obtain ⟨k, hk, rfl⟩ := bw_of (n := 7) rfl q1
  obtain ⟨c, hc1, hc, rfl⟩ := bw_of1 (a := 1) (n := 8) rfl (by decide) rfl q2
  obtain ⟨d, hd, rfl⟩ := bw_toN (by omega) q3
  have hcc : c * c ≤ 64 := Nat.mul_le_mul hc hc
  rw [if_pos q3, if_pos q3, gd_of (inb_nI (show k < 8 by omega) (by omega)), nI_clamp (show k < 2 ^ 31 by omega), pk_mul, nI_add]
  rcases look_same hR (show k < 8 by omega) a2 (show c + c * c < 1000 by omega) with ⟨v, hv, e1, e2⟩ | ⟨i, hi, rfl, e1, e2⟩
  · have hv0 : ¬ v = 0 := by rcases hv with q | q <;> subst q <;> decide
    rw [e1, bd_so, e2, bd_so, if_neg hv0, if_neg (neg_f v hv)]
    exact ⟨_, _, _, rfl, rfl, hR.unf v⟩
  · have hA : ∀ w, w < c + c * c → up u 60 0 0 0 63 0 (80 * k + i + w) = s 3 k (i + w) := fun w hw => by
      rw [show 80 * k + i + w = 80 * k + (i + w) by omega]
      exact (hR.1 k (by omega)).2.2.2 (i + w) (by omega)
    obtain ⟨s2, t1, t2, t3⟩ := X_ptake g (f := fun q => s 3 k (i + q)) hc (show i + (c + c * c) ≤ 80 by omega) s (fun q => rfl) c 0 fu s ⟨fun _ _ _ _ => rfl, fun w hw => by omega⟩ (by omega) (lt_fu (by omega))
    have m1 := M_pck g (nI k) (nI i) (nI d) (F_X11_paid_148 g (nI k) (nI i) (nI c) (nI d)) (f := fun q => s 3 k (i + q)) (show 0 < c by omega) hc (show 80 * k + i + (c + c * c) ≤ 640 by omega) (up u 60 0 0 0) hA (c + c * c) 0 fu (by omega) (lt_fu (by omega))
    rw [nI_0] at t1 m1
    rw [e1, bd_so, e2, bd_so, if_pos rfl, if_pos (show (0 : Int32) ≤ 0 by decide), ix80, m1, F_X2_take, t1, bd_so, bI_if]
    have hR2 : Rel (N + 1) g s2 (up u 60 0 0 0) := hR.frX (fun t ht => t2 t (by omega) (by omega) (by omega))
    by_cases q5 : PG (fun q => s 3 k (i + q)) c
    rotate_left
    · rw [if_neg (fun e => q5 (gdP_PG.mp e)), if_neg (fun e => q5 ((gdL_PG (by omega)).mp e))]
      exact ⟨_, _, _, rfl, rfl, hR2⟩
    · rw [if_pos (gdP_PG.mpr q5), if_pos ((gdL_PG (by omega)).mpr q5)]
      obtain ⟨k1, k2⟩ := t3 (gdP_PG.mpr q5)
      have m2 := M_pall2 g (nI k) (nI i) (nI d) (F_X11_paid_232 g (nI k) (nI i) (nI c) (nI d)) hc (show 80 * k + i + (c + c * c) ≤ 640 by omega) q5 (up (up u 60 0 0 0) 60 0 1 0) hA c 0 fu (by omega) (lt_fu (by omega))
      rw [nI_0, filF_0, filF_0] at m2
      rw [F_X11_paid_148, m2, F_X11_paid_232, F_X2_settle, gd_of (cpb_0 hc)]
      have hsum : smN (pA (fun q => s 3 k (i + q)) c) c ≤ 64000 := by
        have := smN_le (h := pA (fun q => s 3 k (i + q)) c) (B := 8000) c (fun w hw => q5.a hc hw)
        omega
      obtain ⟨R, Q, s', u', y1, y2, y3, y4⟩ := paid_loop g (nI k) (nI i) (nI d) hc (show 80 * k + i + c + c * c ≤ 640 by omega) q5 s2 (filF (up (up u 60 0 0 0) 60 0 1 0) 87 0 c (fun w => nI (pA (fun q => s 3 k (i + q)) c w))) (fun b hb => by rw [(k2 b hb).1]; exact (q5.i hb).1) (fun b hb => (k2 b hb).2.1) (fun b hb a ha => by rw [(k2 b hb).2.2 a ha]; exact (q5.o hb ha).1) hA (fun b hb => filF_at hb) (F_X11_paid_447 g (nI k) (nI i) (nI c) (nI d)) fu 0 (pA (fun q => s 3 k (i + q)) c) (cpy s2 32 0 0 33 0 0 (nI c)) (filF (filF (up (up u 60 0 0 0) 60 0 1 0) 87 0 c (fun w => nI (pA (fun q => s 3 k (i + q)) c w))) 85 0 c (fun w => nI (pA (fun q => s 3 k (i + q)) c w))) (lt_fu (by omega)) (by omega) (fun b hb => Nat.le_refl _) (fun b hb => pN_le _ _ _ _) ⟨fun t p1 p2 => by
          funext x y
          simp [cpy, p1], fun b hb => by
          show va_cpy (s2 32 0) (s2 33 0) 0 0 (nI c).toNatClampNeg b = _
          rw [nI_clamp (by omega), pk_cpy_in (by omega) (by omega), show 0 + (b - 0) = b by omega]
          exact (k2 b hb).2.1⟩ ⟨fun t p1 p2 => by
          funext x y
          simp [filF, p1], fun b hb => filF_at hb⟩
      rw [nI_0] at y1 y2
      rw [y1, y2, bd_so, F_X11_paid_447]
      have hR3 : Rel (N + 1) g (up s' 0 0 10 0) u' := by
        have z1 : Rel (N + 1) g (up s2 0 0 10 0) (up (up u 60 0 0 0) 60 0 1 0) := hR2.unf 0
        refine (z1.frM (fun t p1 p2 p3 p4 p5 => ?_) (fun j hj => ?_)).frX (fun t ht => ?_)
        · rw [y4.1 t p3 p4]
          funext x y
          simp [filF, p5]
        · rw [y4.1 60 (by decide) (by decide)]
          rfl
        · funext x y
          have : s' t = s2 t := y3.1 t (by omega) (by omega)
          simp [up, this]
      by_cases q6 : d = c
      · subst q6
        rw [if_pos rfl, if_pos rfl]
        exact ⟨_, _, _, rfl, rfl, hR3⟩
      · have b1 : inb (nI d) 8 = true := inb_nI (by omega) (by omega)
        have z := nI_ne (show d < 2 ^ 31 by omega) (show c < 2 ^ 31 by omega) q6
        rw [if_neg z, if_neg z, gd_of b1, gd_of b1, nI_clamp (show d < 2 ^ 31 by omega), y3.2 d (by omega), y4.2 d (by omega)]
        exact ⟨_, _, _, rfl, rfl, hR3⟩
