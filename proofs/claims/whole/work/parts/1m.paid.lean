/-! paid: what both compute -/
theorem ifc {α : Type} {p q : Prop} [Decidable p] [Decidable q] {x y : α} (h : p ↔ q) : (if p then x else y) = if q then x else y := by
  by_cases hq : q
  · rw [if_pos hq, if_pos (h.mpr hq)]
  · rw [if_neg hq, if_neg (fun e => hq (h.mp e))]
def smN (h : Nat → Nat) : Nat → Nat
  | 0 => 0
  | n + 1 => smN h n + h n
theorem smN_le {h : Nat → Nat} {B : Nat} : ∀ n : Nat, (∀ w, w < n → h w ≤ B) → smN h n ≤ B * n
  | 0, _ => by simp [smN]
  | n + 1, e => by
    have h1 := smN_le n (fun w hw => e w (by omega))
    have h2 := e n (by omega)
    rw [smN, Nat.mul_succ]
    omega
theorem smN_mono {h k : Nat → Nat} : ∀ n : Nat, (∀ w, w < n → h w ≤ k w) → smN h n ≤ smN k n
  | 0, _ => Nat.le_refl _
  | n + 1, e => by
    have h1 := smN_mono n (fun w hw => e w (by omega))
    have h2 := e n (by omega)
    rw [smN, smN]
    omega
theorem smN_up {h : Nat → Nat} {i n : Nat} (hi : i ≤ n) : smN h i ≤ smN h n := by
  induction hi with
  | refl => exact Nat.le_refl _
  | step _ ih =>
    rw [smN]
    omega
theorem smN_lt {h k : Nat → Nat} : ∀ n : Nat, (∀ w, w < n → h w ≤ k w) → (∃ w, w < n ∧ h w ≠ k w) → smN h n < smN k n
  | 0, _, q => by
    obtain ⟨w, hw, _⟩ := q
    omega
  | n + 1, e, q => by
    obtain ⟨w, hw, h3⟩ := q
    have h2 := e n (by omega)
    rw [smN, smN]
    by_cases h4 : w = n
    · subst h4
      have h1 := smN_mono w (fun w hw => e w (by omega))
      omega
    · have h1 := smN_lt n (fun w hw => e w (by omega)) ⟨w, by omega, h3⟩
      omega
/-- what there is: numbers of items f, n = c -/
def pF (f : Nat → Int32) (q : Nat) : Nat := (f q).toNatClampNeg
def pO (f : Nat → Int32) (c b a : Nat) : Nat := pF f (c + b * c + a)
def pA (f : Nat → Int32) (c a : Nat) : Nat := smN (fun b => pO f c a b) c
def pH (f : Nat → Int32) (c : Nat) (P : Nat → Nat) (a b : Nat) : Nat := P b * pO f c b a / pA f c b
def pN (f : Nat → Int32) (c : Nat) (P : Nat → Nat) (a : Nat) : Nat := min (pA f c a) (pF f a + smN (pH f c P a) c)
/-- the items are as told -/
def PG (f : Nat → Int32) (c : Nat) : Prop := (∀ a, a < c → bw (f a) 0 1000 = true) ∧ ∀ a, a < c → ∀ b, b < c → bw (f (c + a * c + b)) 0 (if b = a then 0 else 1000) = true
theorem bw_F {x : Int32} (h : bw x 0 1000 = true) : x = nI x.toNatClampNeg ∧ x.toNatClampNeg ≤ 1000 := by
  obtain ⟨j, hj, rfl⟩ := bw_of (n := 1000) rfl h
  rw [nI_clamp (by omega)]
  exact ⟨rfl, hj⟩
theorem bw_0 {x : Int32} (h : bw x 0 0 = true) : x = 0 := by
  obtain ⟨j, hj, rfl⟩ := bw_of (n := 0) rfl h
  have : j = 0 := by omega
  subst this
  rfl
theorem bw_any {x : Int32} {b : Prop} [Decidable b] (h : bw x 0 (if b then 0 else 1000) = true) : bw x 0 1000 = true := by
  by_cases q : b
  · rw [if_pos q] at h
    rw [bw_0 h]
    decide
  · rw [if_neg q] at h
    exact h
theorem PG.i {f : Nat → Int32} {c : Nat} (h : PG f c) {a : Nat} (ha : a < c) : f a = nI (pF f a) ∧ pF f a ≤ 1000 := bw_F (h.1 a ha)
theorem PG.o {f : Nat → Int32} {c : Nat} (h : PG f c) {a b : Nat} (ha : a < c) (hb : b < c) : f (c + a * c + b) = nI (pO f c a b) ∧ pO f c a b ≤ 1000 := bw_F (bw_any (h.2 a ha b hb))
theorem PG.z {f : Nat → Int32} {c : Nat} (h : PG f c) {a : Nat} (ha : a < c) : pO f c a a = 0 := by
  have := h.2 a ha a ha
  rw [if_pos rfl] at this
  unfold pO pF
  rw [bw_0 this]
  rfl
theorem PG.a {f : Nat → Int32} {c : Nat} (h : PG f c) (hc : c ≤ 8) {a : Nat} (ha : a < c) : pA f c a ≤ 8000 := by
  have := smN_le (h := fun b => pO f c a b) (B := 1000) c (fun w hw => (h.o ha hw).2)
  unfold pA
  omega
theorem PG.h {f : Nat → Int32} {c : Nat} (h : PG f c) (hc : c ≤ 8) {P : Nat → Nat} (hP : ∀ b, b < c → P b ≤ pA f c b) {a b : Nat} (ha : a < c) (hb : b < c) : pH f c P a b ≤ 1000 := by
  unfold pH
  have h1 := hP b hb
  have h2 := (h.o hb ha).2
  refine Nat.le_trans (Nat.div_le_of_le_mul ?_) h2
  exact Nat.mul_le_mul_right _ h1
theorem PG.s {f : Nat → Int32} {c : Nat} (h : PG f c) (hc : c ≤ 8) {P : Nat → Nat} (hP : ∀ b, b < c → P b ≤ pA f c b) {a : Nat} (ha : a < c) {i : Nat} (hi : i ≤ c) : smN (pH f c P a) i ≤ 8000 := by
  have := smN_le (h := pH f c P a) (B := 1000) i (fun w hw => h.h hc hP ha (by omega))
  omega
theorem PG.m {f : Nat → Int32} {c : Nat} (h : PG f c) (hc : c ≤ 8) {P : Nat → Nat} (hP : ∀ b, b < c → P b ≤ pA f c b) {a b : Nat} (ha : a < c) (hb : b < c) : P b * pO f c b a ≤ 8000000 := by
  have h1 := hP b hb
  have h2 := (h.o hb ha).2
  have h3 := h.a hc hb
  exact Nat.le_trans (Nat.mul_le_mul (show P b ≤ 8000 by omega) h2) (by decide)
theorem pN_le (f : Nat → Int32) (c : Nat) (P : Nat → Nat) (a : Nat) : pN f c P a ≤ pA f c a := Nat.min_le_left _ _
theorem pN_mono {f : Nat → Int32} {c : Nat} {P Q : Nat → Nat} (h : ∀ b, b < c → Q b ≤ P b) (a : Nat) : pN f c Q a ≤ pN f c P a := by
  unfold pN
  have h1 : smN (pH f c Q a) c ≤ smN (pH f c P a) c := smN_mono c (fun w hw => by
    unfold pH
    exact Nat.div_le_div_right (Nat.mul_le_mul_right _ (h w hw)))
  omega
/-- does a round change something, up to i -/
def pC (f : Nat → Int32) (c : Nat) (P : Nat → Nat) : Nat → Bool
  | 0 => false
  | n + 1 => pC f c P n || !(decide (pN f c P n = P n))
theorem pC_t {f : Nat → Int32} {c : Nat} {P : Nat → Nat} : ∀ n : Nat, pC f c P n = true → ∃ w, w < n ∧ pN f c P w ≠ P w
  | 0, h => by simp [pC] at h
  | n + 1, h => by
    rw [pC, Bool.or_eq_true] at h
    rcases h with h | h
    · obtain ⟨w, hw, e⟩ := pC_t n h
      exact ⟨w, by omega, e⟩
    · refine ⟨n, by omega, fun q => ?_⟩
      simp [q] at h
/-! the landed class's round -/
theorem X_paidTo (g : Nat × Nat) {f : Nat → Int32} {c : Nat} (hc : c ≤ 8) (hG : PG f c) {P : Nat → Nat} (hP : ∀ b, b < c → P b ≤ pA f c b) {a : Nat} (ha : a < c) (s : St) (h1 : ∀ b, b < c → s 33 0 b = nI (P b)) (h2 : ∀ b, b < c → s 32 0 b = nI (pA f c b)) (h3 : ∀ b, b < c → s 31 b a = nI (pO f c b a)) : ∀ (m i n : Nat), i + m = c → m < n → F_X2_paidTo_5 g (nI a) (nI c) n (nI (smN (pH f c P a) i)) (nI i) s = some (nI (smN (pH f c P a) c), s)
  | 0, i, n + 1, hi, _ => by
    have : i = c := by omega
    subst this
    rw [F_X2_paidTo_5, if_pos (nI_le (by omega) (by omega))]
  | m + 1, i, n + 1, hi, hn => by
    have b1 : inb (nI i) 8 = true := inb_nI (by omega) (by omega)
    have b2 : inb (nI a) 8 = true := inb_nI (by omega) (by omega)
    have hb : pA f c i ≤ 8000 := hG.a hc (by omega)
    rw [F_X2_paidTo_5, if_neg (nI_ge (by omega) (by omega))]
    simp only [F_X2_paidTo_55, nI_1, gd_of b1, gd_of b2, nI_clamp (show i < 2 ^ 31 by omega), nI_clamp (show a < 2 ^ 31 by omega), h1 i (by omega), h2 i (by omega), h3 i (by omega)]
    have ih := X_paidTo g hc hG hP ha s h1 h2 h3 m (i + 1) n (by omega) (by omega)
    rw [smN] at ih
    by_cases q : i = a
    · subst q
      rw [if_pos rfl]
      have : pH f c P i i = 0 := by
        unfold pH
        rw [hG.z ha]
        simp
      rw [this, Nat.add_zero] at ih
      exact ih
    · rw [if_neg (fun e => q ((nI_eq (by omega) (by omega)).mp e))]
      by_cases q2 : pA f c i = 0
      · rw [q2, if_pos (show nI 0 ≤ 0 by decide)]
        have : pH f c P a i = 0 := by
          unfold pH
          rw [q2]
          simp
        rw [this, Nat.add_zero] at ih
        exact ih
      · have e : ne0 (nI (pA f c i)) = true := by
          unfold ne0
          have := nI_ne0 (show 0 < pA f c i by omega) (show pA f c i < 2 ^ 31 by omega)
          simp [this]
        have e2 := hG.m hc hP ha (show i < c by omega)
        rw [if_neg (nI_nle (by omega) (by omega)), gd_of e, pk_mul, pk_div (by omega) (by omega) (by omega), nI_add]
        exact ih
theorem min_nI {x y : Nat} (hx : x < 2 ^ 31) (hy : y < 2 ^ 31) : (if nI x < nI y then nI x else nI y) = nI (min y x) := by
  by_cases q : x < y
  · rw [if_pos (nI_lt q hy)]
    congr 1
    omega
  · rw [if_neg (nI_nlt (by omega) hx)]
    congr 1
    omega
theorem X_prnd (g : Nat × Nat) {f : Nat → Int32} {c : Nat} (hc : c ≤ 8) (hG : PG f c) {P : Nat → Nat} (hP : ∀ b, b < c → P b ≤ pA f c b) (s : St) (h0 : ∀ b, b < c → s 29 0 b = nI (pF f b)) (h1 : ∀ b, b < c → s 33 0 b = nI (P b)) (h2 : ∀ b, b < c → s 32 0 b = nI (pA f c b)) (h3 : ∀ b, b < c → ∀ a, a < c → s 31 b a = nI (pO f c b a)) (hk : Int32 → St → Option (Int32 × St)) : ∀ (m i n : Nat), i + m = c → m < n → F_X2_roundChanges_4 g (nI c) hk n (bI (pC f c P i)) (nI i) (filF s 34 0 i (fun w => nI (pN f c P w))) = hk (bI (pC f c P c)) (filF s 34 0 c (fun w => nI (pN f c P w)))
  | 0, i, n + 1, hi, _ => by
    have : i = c := by omega
    subst this
    rw [F_X2_roundChanges_4, if_pos (nI_le (by omega) (by omega))]
  | m + 1, i, n + 1, hi, hn => by
    have b1 : inb (nI i) 8 = true := inb_nI (by omega) (by omega)
    have hi2 : i < c := by omega
    have e1 : F_X2_paidTo g (nI i) (nI c) (filF s 34 0 i (fun w => nI (pN f c P w))) = some (nI (smN (pH f c P i) c), filF s 34 0 i (fun w => nI (pN f c P w))) := by
      have := X_paidTo g hc hG hP hi2 (filF s 34 0 i (fun w => nI (pN f c P w))) h1 h2 (fun b hb => h3 b hb i hi2) c 0 fu (by omega) (lt_fu (by omega))
      rw [nI_0] at this
      exact this
    have e2 : filF s 34 0 i (fun w => nI (pN f c P w)) 29 0 i = nI (pF f i) := h0 i hi2
    have e3 : filF s 34 0 i (fun w => nI (pN f c P w)) 32 0 i = nI (pA f c i) := h2 i hi2
    have e4 : filF s 34 0 i (fun w => nI (pN f c P w)) 33 0 i = nI (P i) := h1 i hi2
    have hb : pA f c i ≤ 8000 := hG.a hc hi2
    have hp := hP i hi2
    have hf := (hG.i hi2).2
    have hs := hG.s hc hP hi2 (Nat.le_refl c)
    have e5 : (if nI (pF f i) + nI (smN (pH f c P i) c) < nI (pA f c i) then nI (pF f i) + nI (smN (pH f c P i) c) else nI (pA f c i)) = nI (pN f c P i) := by
      rw [nI_add, min_nI (by omega) (by omega)]
      rfl
    have hpn := pN_le f c P i
    have ih := X_prnd g hc hG hP s h0 h1 h2 h3 hk m (i + 1) n (by omega) (by omega)
    rw [F_X2_roundChanges_4, if_neg (nI_ge (by omega) (by omega)), gd_of b1, gd_of b1, e1, bd_so, nI_clamp (show i < 2 ^ 31 by omega), e2, e3, e4, e5, gd_of b1, gd_of b1, gd_of b1, filF_1 s 34 0 i (fun w => nI (pN f c P w)), F_X2_roundChanges_56, F_X2_roundChanges_61, F_X2_roundChanges_61, nI_1, bI_if, ifc (nI_eq (show pN f c P i < 2 ^ 31 by omega) (show P i < 2 ^ 31 by omega))]
    rw [pC] at ih
    cases hq : pC f c P i
    · rw [if_neg (by decide)]
      by_cases q : pN f c P i = P i
      · rw [if_pos q]
        simpa [hq, q, bI] using ih
      · rw [if_neg q]
        simpa [hq, q, bI] using ih
    · rw [if_pos rfl]
      simpa [hq, bI] using ih
/-- one of the landed class's states in the rounds -/
def PIx (f : Nat → Int32) (c : Nat) (s0 s : St) (P : Nat → Nat) : Prop := (∀ t, t ≠ 33 → t ≠ 34 → s t = s0 t) ∧ ∀ b, b < c → s 33 0 b = nI (P b)
theorem cpb_0 {c : Nat} (hc : c ≤ 8) : cpb (0 : Int32) (nI c) 8 (0 : Int32) 8 = true := by
  unfold cpb
  rw [nI_clamp (by omega)]
  simp only [Bool.and_eq_true, decide_eq_true_eq]
  exact ⟨by decide, by decide, nI_pos (by omega), by show 0 + c ≤ 8; omega, by show 0 + c ≤ 8; omega⟩
theorem X_pround (g : Nat × Nat) {f : Nat → Int32} {c : Nat} (hc : c ≤ 8) (hG : PG f c) {P : Nat → Nat} (hP : ∀ b, b < c → P b ≤ pA f c b) (s0 s : St) (h0 : ∀ b, b < c → s0 29 0 b = nI (pF f b)) (h2 : ∀ b, b < c → s0 32 0 b = nI (pA f c b)) (h3 : ∀ b, b < c → ∀ a, a < c → s0 31 b a = nI (pO f c b a)) (hI : PIx f c s0 s P) : ∃ s' : St, F_X2_roundChanges g (nI c) s = some (bI (pC f c P c), s') ∧ PIx f c s0 s' (pN f c P) := by
  have e := X_prnd g hc hG hP s (fun b hb => by rw [hI.1 29 (by decide) (by decide)]; exact h0 b hb) hI.2 (fun b hb => by rw [hI.1 32 (by decide) (by decide)]; exact h2 b hb) (fun b hb a ha => by rw [hI.1 31 (by decide) (by decide)]; exact h3 b hb a ha) (F_X2_roundChanges_68 g (nI c)) c 0 fu (by omega) (lt_fu (by omega))
  rw [filF_0] at e
  refine ⟨cpy (filF s 34 0 c (fun w => nI (pN f c P w))) 34 0 0 33 0 0 (nI c), ?_, ?_, ?_⟩
  · unfold F_X2_roundChanges
    rw [show (0 : Int32) = bI (pC f c P 0) from rfl]
    refine Eq.trans e ?_
    rw [F_X2_roundChanges_68, gd_of (cpb_0 hc), gd_of (isb_bI _)]
    rfl
  · intro t t1 t2
    rw [← hI.1 t t1 t2]
    funext x y
    simp [cpy, filF, t1, t2]
  · intro b hb
    show va_cpy (filF s 34 0 c (fun w => nI (pN f c P w)) 34 0) (filF s 34 0 c (fun w => nI (pN f c P w)) 33 0) 0 0 (nI c).toNatClampNeg b = nI (pN f c P b)
    rw [nI_clamp (by omega), pk_cpy_in (by omega) (by omega), show 0 + (b - 0) = b by omega, filF_at hb]
/-! the reference's round -/
def PIm (f : Nat → Int32) (c : Nat) (u0 u : St) (P : Nat → Nat) : Prop := (∀ t, t ≠ 85 → t ≠ 86 → u t = u0 t) ∧ ∀ b, b < c → u 85 0 b = nI (P b)
theorem ixp {p c i b : Nat} : nI p + nI c + nI c * nI i + nI b = nI (p + (c + i * c + b)) := by
  rw [pk_mul, nI_add, nI_add, nI_add, Nat.mul_comm c i]
  congr 1
  omega
theorem rowB {a c : Nat} (h : a < c) : a * c + c ≤ c * c := by
  have := Nat.mul_le_mul_right c (show a + 1 ≤ c by omega)
  rw [Nat.succ_mul] at this
  exact this
theorem M_psum (g : Nat × Nat) (a1 a2 a4 : Int32) {f : Nat → Int32} {c p : Nat} (hc : c ≤ 8) (hp : p + c + c * c ≤ 640) (hG : PG f c) {P : Nat → Nat} (hP : ∀ b, b < c → P b ≤ pA f c b) {a : Nat} (ha : a < c) (u : St) (hf : ∀ q, q < c + c * c → u 63 0 (p + q) = f q) (h1 : ∀ b, b < c → u 85 0 b = nI (P b)) (h2 : ∀ b, b < c → u 87 0 b = nI (pA f c b)) (hk : Int32 → Int32 → Int32 → Int32 → Int32 → St → Option (Int32 × St)) (v7 v8 : Int32) : ∀ (m i n : Nat), i + m = c → m < n → F_X11_paid_270 g a1 a2 (nI c) a4 hk n (nI p) v7 v8 (nI a) (nI (pF f a + smN (pH f c P a) i)) (nI i) u = hk (nI p) v7 v8 (nI a) (nI (pF f a + smN (pH f c P a) c)) u
  | 0, i, n + 1, hi, _ => by
    have : i = c := by omega
    subst this
    rw [F_X11_paid_270, if_pos (nI_le (by omega) (by omega))]
  | m + 1, i, n + 1, hi, hn => by
    have b1 : inb (nI i) 8 = true := inb_nI (by omega) (by omega)
    have hi2 : i < c := by omega
    have hb : pA f c i ≤ 8000 := hG.a hc hi2
    have hr := rowB hi2
    have b3 : inb (nI (p + (c + i * c + a))) 640 = true := inb_nI (by omega) (by omega)
    rw [F_X11_paid_270, if_neg (nI_ge (by omega) (by omega)), ixp]
    simp only [F_X11_paid_325, nI_1, gd_of b1, gd_of b3, nI_clamp (show i < 2 ^ 31 by omega), nI_clamp (show p + (c + i * c + a) < 2 ^ 31 by omega), h1 i hi2, h2 i hi2, hf (c + i * c + a) (by omega), (hG.o hi2 ha).1]
    have ih := M_psum g a1 a2 a4 hc hp hG hP ha u hf h1 h2 hk v7 v8 m (i + 1) n (by omega) (by omega)
    rw [smN, ← Nat.add_assoc, ← nI_add (pF f a + smN (pH f c P a) i)] at ih
    by_cases q2 : pA f c i = 0
    · rw [q2, if_pos (show nI 0 = 0 from rfl)]
      have : pH f c P a i = 0 := by
        unfold pH
        rw [q2]
        simp
      rw [this, nI_0] at ih
      exact ih
    · have e0 := nI_ne0 (show 0 < pA f c i by omega) (show pA f c i < 2 ^ 31 by omega)
      have e : ne0 (nI (pA f c i)) = true := by
        unfold ne0
        simp [e0]
      have e2 := hG.m hc hP ha hi2
      rw [if_neg e0, gd_of e, pk_mul, pk_div (by omega) (by omega) (by omega)]
      exact ih
theorem M_prnd (g : Nat × Nat) (a1 a2 a4 : Int32) {f : Nat → Int32} {c p : Nat} (hc : c ≤ 8) (hp : p + c + c * c ≤ 640) (hG : PG f c) {P : Nat → Nat} (hP : ∀ b, b < c → P b ≤ pA f c b) (u : St) (hf : ∀ q, q < c + c * c → u 63 0 (p + q) = f q) (h1 : ∀ b, b < c → u 85 0 b = nI (P b)) (h2 : ∀ b, b < c → u 87 0 b = nI (pA f c b)) (hk : Int32 → Int32 → Int32 → St → Option (Int32 × St)) (v7 v8 : Int32) : ∀ (m i n : Nat), i + m = c → m < n → F_X11_paid_249 g a1 a2 (nI c) a4 hk n (nI p) v7 v8 (nI i) (filF u 86 0 i (fun w => nI (pN f c P w))) = hk (nI p) v7 v8 (filF u 86 0 c (fun w => nI (pN f c P w)))
  | 0, i, n + 1, hi, _ => by
    have : i = c := by omega
    subst this
    rw [F_X11_paid_249, if_pos (nI_le (by omega) (by omega))]
  | m + 1, i, n + 1, hi, hn => by
    have b1 : inb (nI i) 8 = true := inb_nI (by omega) (by omega)
    have hi2 : i < c := by omega
    have b3 : inb (nI (p + i)) 640 = true := inb_nI (by omega) (by omega)
    have hb : pA f c i ≤ 8000 := hG.a hc hi2
    have hff := (hG.i hi2).2
    have hs := hG.s hc hP hi2 (Nat.le_refl c)
    have e1 := M_psum g a1 a2 a4 hc hp hG hP hi2 (filF u 86 0 i (fun w => nI (pN f c P w))) hf h1 h2 (F_X11_paid_334 g a1 a2 (nI c) a4 (F_X11_paid_249 g a1 a2 (nI c) a4 hk n) hk) v7 v8 c 0 fu (by omega) (lt_fu (by omega))
    rw [smN, Nat.add_zero, nI_0] at e1
    have e2 : filF u 86 0 i (fun w => nI (pN f c P w)) 63 0 (p + i) = nI (pF f i) := by
      have := hf i (by omega)
      rw [(hG.i hi2).1] at this
      exact this
    have e3 : filF u 86 0 i (fun w => nI (pN f c P w)) 87 0 i = nI (pA f c i) := h2 i hi2
    have ih := M_prnd g a1 a2 a4 hc hp hG hP u hf h1 h2 hk v7 v8 m (i + 1) n (by omega) (by omega)
    rw [F_X11_paid_249, if_neg (nI_ge (by omega) (by omega)), nI_add, gd_of b3, nI_clamp (show p + i < 2 ^ 31 by omega), e2, e1, F_X11_paid_334, gd_of b1, nI_clamp (show i < 2 ^ 31 by omega), e3, gd_of b1, F_X11_paid_364, F_X11_paid_364, gd_of b1, gd_of b1, nI_clamp (show i < 2 ^ 31 by omega), nI_1]
    have e5 : pN f c P i = min (pA f c i) (pF f i + smN (pH f c P i) c) := rfl
    have e6 := filF_1 u 86 0 i (fun w => nI (pN f c P w))
    by_cases q : pA f c i ≤ pF f i + smN (pH f c P i) c
    · rw [if_pos (nI_le q (by omega)), show pA f c i = pN f c P i by omega, e6]
      exact ih
    · rw [if_neg (nI_ge (by omega) (by omega)), show pF f i + smN (pH f c P i) c = pN f c P i by omega, e6]
      exact ih
theorem M_pchg (g : Nat × Nat) (a1 a2 a4 : Int32) {f : Nat → Int32} {c : Nat} (hc : c ≤ 8) (hG : PG f c) {P : Nat → Nat} (hP : ∀ b, b < c → P b ≤ pA f c b) (u : St) (h1 : ∀ b, b < c → u 85 0 b = nI (P b)) (h2 : ∀ b, b < c → u 86 0 b = nI (pN f c P b)) (hk : Int32 → Int32 → Int32 → St → Option (Int32 × St)) (v6 v7 : Int32) : ∀ (m i n : Nat), i + m = c → m < n → F_X11_paid_374 g a1 a2 (nI c) a4 hk n v6 v7 (bI (pC f c P i)) (nI i) (filF u 85 0 i (fun w => nI (pN f c P w))) = hk v6 v7 (bI (pC f c P c)) (filF u 85 0 c (fun w => nI (pN f c P w)))
  | 0, i, n + 1, hi, _ => by
    have : i = c := by omega
    subst this
    rw [F_X11_paid_374, if_pos (nI_le (by omega) (by omega))]
  | m + 1, i, n + 1, hi, hn => by
    have b1 : inb (nI i) 8 = true := inb_nI (by omega) (by omega)
    have hi2 : i < c := by omega
    have hb : pA f c i ≤ 8000 := hG.a hc hi2
    have hp := hP i hi2
    have hpn := pN_le f c P i
    have e2 : filF u 85 0 i (fun w => nI (pN f c P w)) 86 0 i = nI (pN f c P i) := h2 i hi2
    have e3 : filF u 85 0 i (fun w => nI (pN f c P w)) 85 0 i = nI (P i) := by
      rw [← h1 i hi2]
      simp [filF]
    have ih := M_pchg g a1 a2 a4 hc hG hP u h1 h2 hk v6 v7 m (i + 1) n (by omega) (by omega)
    rw [F_X11_paid_374, if_neg (nI_ge (by omega) (by omega)), bI_if, gd_of b1, gd_of b1, nI_clamp (show i < 2 ^ 31 by omega), e2, e3, ifc (nI_eq (show pN f c P i < 2 ^ 31 by omega) (show P i < 2 ^ 31 by omega)), F_X11_paid_402, F_X11_paid_407, F_X11_paid_407, gd_of b1, gd_of b1, gd_of b1, gd_of b1, nI_clamp (show i < 2 ^ 31 by omega), e2, filF_1 u 85 0 i (fun w => nI (pN f c P w)), nI_1]
    rw [pC] at ih
    cases hq : pC f c P i
    · rw [if_neg (by decide)]
      by_cases q : pN f c P i = P i
      · rw [if_pos q]
        simpa [hq, q, bI] using ih
      · rw [if_neg q]
        simpa [hq, q, bI] using ih
    · rw [if_pos rfl]
      simpa [hq, bI] using ih
/-! round after round -/
theorem paid_loop (g : Nat × Nat) (a1 a2 a4 : Int32) {f : Nat → Int32} {c p : Nat} (hc : c ≤ 8) (hp : p + c + c * c ≤ 640) (hG : PG f c) (s0 u0 : St) (h0 : ∀ b, b < c → s0 29 0 b = nI (pF f b)) (h2 : ∀ b, b < c → s0 32 0 b = nI (pA f c b)) (h3 : ∀ b, b < c → ∀ a, a < c → s0 31 b a = nI (pO f c b a)) (hf : ∀ q, q < c + c * c → u0 63 0 (p + q) = f q) (m2 : ∀ b, b < c → u0 87 0 b = nI (pA f c b)) (hk : Int32 → St → Option (Int32 × St)) : ∀ (n r : Nat) (P : Nat → Nat) (s u : St), smN P c + 1 < n → r + smN P c ≤ 64000 → (∀ b, b < c → P b ≤ pA f c b) → (∀ b, b < c → pN f c P b ≤ P b) → PIx f c s0 s P → PIm f c u0 u P → ∃ (R : Nat) (Q : Nat → Nat) (s' u' : St), F_X2_settle_16 g (nI c) n (nI r) s = some (nI R, s') ∧ F_X11_paid_238 g a1 a2 (nI c) a4 hk n (nI p) (nI r) 1 u = hk (nI R) u' ∧ PIx f c s0 s' Q ∧ PIm f c u0 u' Q
  | 0, _, _, _, _, hn, _, _, _, _, _ => by omega
  | n + 1, r, P, s, u, hn, hr, hP, hN, hx, hm => by
    obtain ⟨s', x1, x2⟩ := X_pround g hc hG hP s0 s h0 h2 h3 hx
    have f1 : ∀ q, q < c + c * c → u 63 0 (p + q) = f q := fun q hq => by
      rw [hm.1 63 (by decide) (by decide)]
      exact hf q hq
    have f2 : ∀ b, b < c → u 87 0 b = nI (pA f c b) := fun b hb => by
      rw [hm.1 87 (by decide) (by decide)]
      exact m2 b hb
    have e1 := M_prnd g a1 a2 a4 hc hp hG hP u f1 hm.2 f2 (F_X11_paid_371 g a1 a2 (nI c) a4 (F_X11_paid_238 g a1 a2 (nI c) a4 hk n) hk) (nI r) 0 c 0 fu (by omega) (lt_fu (by omega))
    rw [filF_0, nI_0] at e1
    have e2 := M_pchg g a1 a2 a4 hc hG hP (filF u 86 0 c (fun w => nI (pN f c P w))) hm.2 (fun b hb => filF_at hb) (F_X11_paid_429 g a1 a2 (nI c) a4 (F_X11_paid_238 g a1 a2 (nI c) a4 hk n) hk) (nI p) (nI r) c 0 fu (by omega) (lt_fu (by omega))
    rw [filF_0, nI_0, show bI (pC f c P 0) = 0 from rfl] at e2
    have hm' : PIm f c u0 (filF (filF u 86 0 c (fun w => nI (pN f c P w))) 85 0 c (fun w => nI (pN f c P w))) (pN f c P) := by
      refine ⟨fun t t1 t2 => ?_, fun b hb => filF_at hb⟩
      rw [← hm.1 t t1 t2]
      funext x y
      simp [filF, t1, t2]
    rw [F_X2_settle_16, if_neg (show ¬ (100000 : Int32) ≤ nI r from nI_ge (b := 100000) (by omega) (by omega)), x1, bd_so, F_X11_paid_238, if_neg (show ¬ (1 : Int32) = 0 by decide), e1, F_X11_paid_371, e2, F_X11_paid_429, F_X11_paid_441, F_X11_paid_441]
    cases hq : pC f c P c
    · rw [show bI false = 0 from rfl, if_pos rfl, if_pos rfl]
      refine ⟨r, pN f c P, s', _, rfl, ?_, x2, hm'⟩
      obtain ⟨n', rfl⟩ : ∃ n', n = n' + 1 := ⟨n - 1, by omega⟩
      rw [F_X11_paid_238, if_pos rfl, Int32.add_zero]
    · have hlt := smN_lt (h := pN f c P) (k := P) c hN (pC_t c hq)
      rw [show bI true = 1 from rfl, if_neg (show ¬ (1 : Int32) = 0 by decide), if_neg (show ¬ (1 : Int32) = 0 by decide), nI_1]
      exact paid_loop g a1 a2 a4 hc hp hG s0 u0 h0 h2 h3 hf m2 hk n (r + 1) (pN f c P) s' _ (by omega) (by omega) (fun b _ => pN_le f c P b) (fun b _ => pN_mono hN b) x2 hm'
