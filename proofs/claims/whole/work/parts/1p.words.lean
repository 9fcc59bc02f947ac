/-! lists: words and numbers of both sides -/
theorem lN_tb (n : Nat) : (lN n).toBitVec = BitVec.ofNat 64 n := rfl
theorem sh8 {v x : Nat} (hv : v < 2 ^ 48) (hx : x < 256) : (lN v <<< ((8 : Int32).toInt64 &&& 63)) ||| lN x = lN (v * 256 + x) := by
  rw [show ((8 : Int32).toInt64 &&& 63) = (8 : Int64) by decide]
  apply Int64.toBitVec_inj.mp
  rw [Int64.toBitVec_or, Int64.toBitVec_shiftLeft, lN_tb, lN_tb, lN_tb]
  rw [show (8 : Int64).toBitVec.smod 64 = 8#64 by decide]
  apply BitVec.eq_of_toNat_eq
  rw [BitVec.toNat_or]
  have e1 : (BitVec.ofNat 64 v <<< 8#64).toNat = v * 256 := by
    rw [BitVec.shiftLeft_eq', BitVec.toNat_shiftLeft, BitVec.toNat_ofNat, Nat.mod_eq_of_lt (show v < 2 ^ 64 by omega), show (8#64).toNat = 8 from rfl, Nat.shiftLeft_eq, Nat.mod_eq_of_lt (by omega)]
  rw [e1, BitVec.toNat_ofNat, BitVec.toNat_ofNat, Nat.mod_eq_of_lt (show x < 2 ^ 64 by omega), Nat.mod_eq_of_lt (show v * 256 + x < 2 ^ 64 by omega)]
  have := Nat.shiftLeft_add_eq_or_of_lt (i := 8) (show x < 2 ^ 8 by omega) v
  rw [Nat.shiftLeft_eq] at this
  exact this.symm
theorem lg_eq0 (x y : Int64) : lg_cmp x y = 0 ↔ x = y := by
  unfold lg_cmp
  by_cases h1 : y < x
  · have h2 : ¬ x = y := fun e => by
      subst e
      exact lg_lt_not h1 h1
    simp [h1, h2]
  · by_cases h2 : x = y
    · subst h2
      simp
    · simp [h1, h2]
def wE (p q : Nat → Int32) : Nat → Nat → Bool
  | _, 0 => true
  | j, m + 1 => decide (p j = q j) && wE p q (j + 1) m
theorem X_word (g : Nat × Nat) {b : Nat → Nat} {L a : Nat} (c : Nat) (s : St) (hB : BY b L (s 24 0)) (h5 : s 23 0 5 = nI a) (hl : a + txL.getD c 0 ≤ L) : ∀ (m j n : Nat), j + m = txL.getD c 0 → m < n → F_X8_isWord_28 g c n (nI j) s = some (bI (wE (fun i => nI (b (a + i))) (fun i => (txB.getD c []).getD i 0) j m), s)
  | 0, j, n + 1, hj, _ => by
    have hL := hB.1
    rw [F_X8_isWord_28, if_pos (show Int32.ofNat (txL.getD c 0) ≤ nI j from nI_le (by omega) (by omega))]
    rfl
  | m + 1, j, n + 1, hj, hn => by
    have hL := hB.1
    have e := (hB.2 (a + j) (by omega)).1
    rw [F_X8_isWord_28, if_neg (show ¬ Int32.ofNat (txL.getD c 0) ≤ nI j from nI_ge (by omega) (by omega)), h5, nI_add, gd_of (inb_nI (by omega) (by omega)), gd_of (inb_nI (by omega) (by omega)), nI_clamp (by omega), nI_clamp (by omega), e, nI_1, X_word g c s hB h5 hl m (j + 1) n (by omega) (by omega), wE]
    by_cases q : nI (b (a + j)) = (txB.getD c []).getD j 0
    · rw [if_pos q, decide_eq_true q, Bool.true_and]
    · rw [if_neg q, decide_eq_false q, Bool.false_and]
      rfl
def WX (b : Nat → Nat) (a e : Nat) (k : Int32) (c : Nat) : Bool := decide (k = 1) && (decide (e - a = txL.getD c 0) && wE (fun i => nI (b (a + i))) (fun i => (txB.getD c []).getD i 0) 0 (txL.getD c 0))
theorem X_isWord (g : Nat × Nat) {b : Nat → Nat} {L a e : Nat} {s u : St} (h : TokR b L s u a e) (c : Nat) (hc : txL.getD c 0 < 10) : F_X8_isWord g c s = some (bI (WX b a e (s 23 0 4) c), s) := by
  obtain ⟨hB, hC, h1, h33, hae, heL, h5, h6, h36, h34, h37, hK⟩ := h
  have hL := hB.1
  unfold F_X8_isWord WX
  by_cases q1 : s 23 0 4 = 1
  · rw [if_pos q1, h5, h6, pk_sub hae, decide_eq_true q1, Bool.true_and]
    by_cases q2 : e - a = txL.getD c 0
    · rw [if_pos (show nI (e - a) = Int32.ofNat (txL.getD c 0) by rw [q2]; rfl), decide_eq_true q2, Bool.true_and]
      have := X_word g c s hB h5 (by omega) (txL.getD c 0) 0 fu (by omega) (lt_fu (by omega))
      rw [nI_0] at this
      exact this
    · rw [if_neg (show ¬ nI (e - a) = Int32.ofNat (txL.getD c 0) from nI_ne (by omega) (by omega) q2), decide_eq_false q2, Bool.false_and]
      rfl
  · rw [if_neg q1, decide_eq_false q1, Bool.false_and]
    rfl
def wv (b : Nat → Nat) (a : Nat) : Nat → Nat
  | 0 => 0
  | n + 1 => wv b a n * 256 + b (a + n)
theorem wv_lt {b : Nat → Nat} (hb : ∀ i, b i < 256) (a : Nat) : ∀ n, wv b a n < 256 ^ n
  | 0 => by
    rw [wv]
    decide
  | n + 1 => by
    have h1 := wv_lt hb a n
    have h2 := hb (a + n)
    rw [wv, Nat.pow_succ]
    omega
theorem M_word (g : Nat × Nat) {b : Nat → Nat} {L a e : Nat} {s u : St} (hb : ∀ i, b i < 256) (h : TokR b L s u a e) : F_X11_word g u = some (lN (if u 60 0 35 = 2 then (if e - a < 8 then wv b a (e - a) else 0) else 0), u) := by
  obtain ⟨hB, hC, h1, h33, hae, heL, h5, h6, h36, h34, h37, hK⟩ := h
  have hL := hB.1
  unfold F_X11_word
  have key : ∀ (m j n : Nat), a + j + m = e → m < n → e - a < 8 → u 60 0 35 = 2 → F_X11_word_7 g n (lN (wv b a j)) (nI (a + j)) u = some (lN (wv b a (e - a)), u) := by
    intro m
    induction m with
    | zero =>
      intro j n hj hn h8 hk
      obtain ⟨n, rfl⟩ : ∃ n', n = n' + 1 := ⟨n - 1, by omega⟩
      rw [F_X11_word_7, h37, if_pos (nI_le (by omega) (by omega))]
      rw [show e - a = j by omega]
    | succ m ih =>
      intro j n hj hn h8 hk
      obtain ⟨n, rfl⟩ : ∃ n', n = n' + 1 := ⟨n - 1, by omega⟩
      have h9 := wv_lt hb a j
      have h10 : wv b a j < 2 ^ 48 := Nat.lt_of_lt_of_le h9 (Nat.le_trans (Nat.pow_le_pow_right (by omega) (show j ≤ 6 by omega)) (by decide))
      have h11 := hC.2 (a + j) (by omega)
      rw [F_X11_word_7, h37, if_neg (nI_ge (by omega) (by omega)), if_pos hk, h36, pk_sub hae, if_neg (show ¬ (8 : Int32) ≤ nI (e - a) from nI_ge (b := 8) h8 (by omega)), gd_of (inb_nI (by omega) (by omega)), nI_clamp (by omega), h11.1, nI_l (by omega), sh8 h10 h11.2, nI_1]
      exact ih (j + 1) n (by omega) (by omega) h8 hk
  by_cases q : u 60 0 35 = 2
  · rw [if_pos q]
    by_cases q2 : e - a < 8
    · rw [if_pos q2, h36]
      exact key (e - a) 0 fu (by omega) (lt_fu (by omega)) q2 q
    · rw [if_neg q2, show fu = 999999 + 1 from rfl, F_X11_word_7, h37, h36, if_neg (nI_ge (by omega) (by omega)), if_pos q, pk_sub hae, if_pos (show (8 : Int32) ≤ nI (e - a) from nI_le (a := 8) (by omega) (by omega))]
      rfl
  · rw [if_neg q, show fu = 999999 + 1 from rfl, F_X11_word_7, if_neg q, ite_self]
    rfl
theorem let_b {x : Nat} (h : pLet x = true) : 97 ≤ x ∧ x ≤ 122 := by
  unfold pLet at h
  rw [Bool.and_eq_true, decide_eq_true_eq, decide_eq_true_eq] at h
  exact h
theorem WX_0 {b : Nat → Nat} {a e : Nat} {k : Int32} (hb : ∀ i, b i < 256) : WX b a e k 0 = true ↔ k = 1 ∧ e - a = 4 ∧ b (a + 0) = 102 ∧ b (a + 1) = 114 ∧ b (a + 2) = 111 ∧ b (a + 3) = 109 := by
  unfold WX
  rw [show txL.getD 0 0 = 4 from rfl]
  simp only [wE, Bool.and_eq_true, decide_eq_true_eq, Nat.zero_add, and_true]
  rw [nI_c (b (a + 0)) 102 (y := (txB.getD 0 []).getD 0 0) rfl (hb _) (by omega), nI_c (b (a + 1)) 114 (y := (txB.getD 0 []).getD 1 0) rfl (hb _) (by omega), nI_c (b (a + 2)) 111 (y := (txB.getD 0 []).getD 2 0) rfl (hb _) (by omega), nI_c (b (a + 3)) 109 (y := (txB.getD 0 []).getD 3 0) rfl (hb _) (by omega)]
theorem wv_0 {b : Nat → Nat} {a n : Nat} (h0 : 0 < n) (h8 : n < 8) (hl : ∀ i, i < n → 97 ≤ b (a + i) ∧ b (a + i) ≤ 122) : wv b a n = 1718775661 ↔ n = 4 ∧ b (a + 0) = 102 ∧ b (a + 1) = 114 ∧ b (a + 2) = 111 ∧ b (a + 3) = 109 := by
  have h : n = 1 ∨ n = 2 ∨ n = 3 ∨ n = 4 ∨ n = 5 ∨ n = 6 ∨ n = 7 := by omega
  rcases h with h | h | h | h | h | h | h <;> subst h
  · have h00 := hl 0 (by omega)
    simp only [wv]
    omega
  · have h00 := hl 0 (by omega)
    have h10 := hl 1 (by omega)
    simp only [wv]
    omega
  · have h00 := hl 0 (by omega)
    have h10 := hl 1 (by omega)
    have h20 := hl 2 (by omega)
    simp only [wv]
    omega
  · have h00 := hl 0 (by omega)
    have h10 := hl 1 (by omega)
    have h20 := hl 2 (by omega)
    have h30 := hl 3 (by omega)
    simp only [wv]
    constructor
    · intro h
      refine ⟨trivial, ?_, ?_, ?_, ?_⟩ <;> omega
    · rintro ⟨_, e0, e1, e2, e3⟩
      omega
  · have h00 := hl 0 (by omega)
    have h10 := hl 1 (by omega)
    have h20 := hl 2 (by omega)
    have h30 := hl 3 (by omega)
    have h40 := hl 4 (by omega)
    simp only [wv]
    omega
  · have h00 := hl 0 (by omega)
    have h10 := hl 1 (by omega)
    have h20 := hl 2 (by omega)
    have h30 := hl 3 (by omega)
    have h40 := hl 4 (by omega)
    have h50 := hl 5 (by omega)
    simp only [wv]
    omega
  · have h00 := hl 0 (by omega)
    have h10 := hl 1 (by omega)
    have h20 := hl 2 (by omega)
    have h30 := hl 3 (by omega)
    have h40 := hl 4 (by omega)
    have h50 := hl 5 (by omega)
    have h60 := hl 6 (by omega)
    simp only [wv]
    omega
theorem WX_1 {b : Nat → Nat} {a e : Nat} {k : Int32} (hb : ∀ i, b i < 256) : WX b a e k 1 = true ↔ k = 1 ∧ e - a = 5 ∧ b (a + 0) = 112 ∧ b (a + 1) = 105 ∧ b (a + 2) = 101 ∧ b (a + 3) = 99 ∧ b (a + 4) = 101 := by
  unfold WX
  rw [show txL.getD 1 0 = 5 from rfl]
  simp only [wE, Bool.and_eq_true, decide_eq_true_eq, Nat.zero_add, and_true]
  rw [nI_c (b (a + 0)) 112 (y := (txB.getD 1 []).getD 0 0) rfl (hb _) (by omega), nI_c (b (a + 1)) 105 (y := (txB.getD 1 []).getD 1 0) rfl (hb _) (by omega), nI_c (b (a + 2)) 101 (y := (txB.getD 1 []).getD 2 0) rfl (hb _) (by omega), nI_c (b (a + 3)) 99 (y := (txB.getD 1 []).getD 3 0) rfl (hb _) (by omega), nI_c (b (a + 4)) 101 (y := (txB.getD 1 []).getD 4 0) rfl (hb _) (by omega)]
theorem wv_1 {b : Nat → Nat} {a n : Nat} (h0 : 0 < n) (h8 : n < 8) (hl : ∀ i, i < n → 97 ≤ b (a + i) ∧ b (a + i) ≤ 122) : wv b a n = 482804589413 ↔ n = 5 ∧ b (a + 0) = 112 ∧ b (a + 1) = 105 ∧ b (a + 2) = 101 ∧ b (a + 3) = 99 ∧ b (a + 4) = 101 := by
  have h : n = 1 ∨ n = 2 ∨ n = 3 ∨ n = 4 ∨ n = 5 ∨ n = 6 ∨ n = 7 := by omega
  rcases h with h | h | h | h | h | h | h <;> subst h
  · have h00 := hl 0 (by omega)
    simp only [wv]
    omega
  · have h00 := hl 0 (by omega)
    have h10 := hl 1 (by omega)
    simp only [wv]
    omega
  · have h00 := hl 0 (by omega)
    have h10 := hl 1 (by omega)
    have h20 := hl 2 (by omega)
    simp only [wv]
    omega
  · have h00 := hl 0 (by omega)
    have h10 := hl 1 (by omega)
    have h20 := hl 2 (by omega)
    have h30 := hl 3 (by omega)
    simp only [wv]
    omega
  · have h00 := hl 0 (by omega)
    have h10 := hl 1 (by omega)
    have h20 := hl 2 (by omega)
    have h30 := hl 3 (by omega)
    have h40 := hl 4 (by omega)
    simp only [wv]
    constructor
    · intro h
      refine ⟨trivial, ?_, ?_, ?_, ?_, ?_⟩ <;> omega
    · rintro ⟨_, e0, e1, e2, e3, e4⟩
      omega
  · have h00 := hl 0 (by omega)
    have h10 := hl 1 (by omega)
    have h20 := hl 2 (by omega)
    have h30 := hl 3 (by omega)
    have h40 := hl 4 (by omega)
    have h50 := hl 5 (by omega)
    simp only [wv]
    omega
  · have h00 := hl 0 (by omega)
    have h10 := hl 1 (by omega)
    have h20 := hl 2 (by omega)
    have h30 := hl 3 (by omega)
    have h40 := hl 4 (by omega)
    have h50 := hl 5 (by omega)
    have h60 := hl 6 (by omega)
    simp only [wv]
    omega
theorem WX_2 {b : Nat → Nat} {a e : Nat} {k : Int32} (hb : ∀ i, b i < 256) : WX b a e k 2 = true ↔ k = 1 ∧ e - a = 6 ∧ b (a + 0) = 114 ∧ b (a + 1) = 101 ∧ b (a + 2) = 108 ∧ b (a + 3) = 105 ∧ b (a + 4) = 101 ∧ b (a + 5) = 102 := by
  unfold WX
  rw [show txL.getD 2 0 = 6 from rfl]
  simp only [wE, Bool.and_eq_true, decide_eq_true_eq, Nat.zero_add, and_true]
  rw [nI_c (b (a + 0)) 114 (y := (txB.getD 2 []).getD 0 0) rfl (hb _) (by omega), nI_c (b (a + 1)) 101 (y := (txB.getD 2 []).getD 1 0) rfl (hb _) (by omega), nI_c (b (a + 2)) 108 (y := (txB.getD 2 []).getD 2 0) rfl (hb _) (by omega), nI_c (b (a + 3)) 105 (y := (txB.getD 2 []).getD 3 0) rfl (hb _) (by omega), nI_c (b (a + 4)) 101 (y := (txB.getD 2 []).getD 4 0) rfl (hb _) (by omega), nI_c (b (a + 5)) 102 (y := (txB.getD 2 []).getD 5 0) rfl (hb _) (by omega)]
theorem wv_2 {b : Nat → Nat} {a n : Nat} (h0 : 0 < n) (h8 : n < 8) (hl : ∀ i, i < n → 97 ≤ b (a + i) ∧ b (a + i) ≤ 122) : wv b a n = 125779936109926 ↔ n = 6 ∧ b (a + 0) = 114 ∧ b (a + 1) = 101 ∧ b (a + 2) = 108 ∧ b (a + 3) = 105 ∧ b (a + 4) = 101 ∧ b (a + 5) = 102 := by
  have h : n = 1 ∨ n = 2 ∨ n = 3 ∨ n = 4 ∨ n = 5 ∨ n = 6 ∨ n = 7 := by omega
  rcases h with h | h | h | h | h | h | h <;> subst h
  · have h00 := hl 0 (by omega)
    simp only [wv]
    omega
  · have h00 := hl 0 (by omega)
    have h10 := hl 1 (by omega)
    simp only [wv]
    omega
  · have h00 := hl 0 (by omega)
    have h10 := hl 1 (by omega)
    have h20 := hl 2 (by omega)
    simp only [wv]
    omega
  · have h00 := hl 0 (by omega)
    have h10 := hl 1 (by omega)
    have h20 := hl 2 (by omega)
    have h30 := hl 3 (by omega)
    simp only [wv]
    omega
  · have h00 := hl 0 (by omega)
    have h10 := hl 1 (by omega)
    have h20 := hl 2 (by omega)
    have h30 := hl 3 (by omega)
    have h40 := hl 4 (by omega)
    simp only [wv]
    omega
  · have h00 := hl 0 (by omega)
    have h10 := hl 1 (by omega)
    have h20 := hl 2 (by omega)
    have h30 := hl 3 (by omega)
    have h40 := hl 4 (by omega)
    have h50 := hl 5 (by omega)
    simp only [wv]
    constructor
    · intro h
      refine ⟨trivial, ?_, ?_, ?_, ?_, ?_, ?_⟩ <;> omega
    · rintro ⟨_, e0, e1, e2, e3, e4, e5⟩
      omega
  · have h00 := hl 0 (by omega)
    have h10 := hl 1 (by omega)
    have h20 := hl 2 (by omega)
    have h30 := hl 3 (by omega)
    have h40 := hl 4 (by omega)
    have h50 := hl 5 (by omega)
    have h60 := hl 6 (by omega)
    simp only [wv]
    omega
theorem WX_3 {b : Nat → Nat} {a e : Nat} {k : Int32} (hb : ∀ i, b i < 256) : WX b a e k 3 = true ↔ k = 1 ∧ e - a = 5 ∧ b (a + 0) = 108 ∧ b (a + 1) = 105 ∧ b (a + 2) = 109 ∧ b (a + 3) = 105 ∧ b (a + 4) = 116 := by
  unfold WX
  rw [show txL.getD 3 0 = 5 from rfl]
  simp only [wE, Bool.and_eq_true, decide_eq_true_eq, Nat.zero_add, and_true]
  rw [nI_c (b (a + 0)) 108 (y := (txB.getD 3 []).getD 0 0) rfl (hb _) (by omega), nI_c (b (a + 1)) 105 (y := (txB.getD 3 []).getD 1 0) rfl (hb _) (by omega), nI_c (b (a + 2)) 109 (y := (txB.getD 3 []).getD 2 0) rfl (hb _) (by omega), nI_c (b (a + 3)) 105 (y := (txB.getD 3 []).getD 3 0) rfl (hb _) (by omega), nI_c (b (a + 4)) 116 (y := (txB.getD 3 []).getD 4 0) rfl (hb _) (by omega)]
theorem wv_3 {b : Nat → Nat} {a n : Nat} (h0 : 0 < n) (h8 : n < 8) (hl : ∀ i, i < n → 97 ≤ b (a + i) ∧ b (a + i) ≤ 122) : wv b a n = 465625246068 ↔ n = 5 ∧ b (a + 0) = 108 ∧ b (a + 1) = 105 ∧ b (a + 2) = 109 ∧ b (a + 3) = 105 ∧ b (a + 4) = 116 := by
  have h : n = 1 ∨ n = 2 ∨ n = 3 ∨ n = 4 ∨ n = 5 ∨ n = 6 ∨ n = 7 := by omega
  rcases h with h | h | h | h | h | h | h <;> subst h
  · have h00 := hl 0 (by omega)
    simp only [wv]
    omega
  · have h00 := hl 0 (by omega)
    have h10 := hl 1 (by omega)
    simp only [wv]
    omega
  · have h00 := hl 0 (by omega)
    have h10 := hl 1 (by omega)
    have h20 := hl 2 (by omega)
    simp only [wv]
    omega
  · have h00 := hl 0 (by omega)
    have h10 := hl 1 (by omega)
    have h20 := hl 2 (by omega)
    have h30 := hl 3 (by omega)
    simp only [wv]
    omega
  · have h00 := hl 0 (by omega)
    have h10 := hl 1 (by omega)
    have h20 := hl 2 (by omega)
    have h30 := hl 3 (by omega)
    have h40 := hl 4 (by omega)
    simp only [wv]
    constructor
    · intro h
      refine ⟨trivial, ?_, ?_, ?_, ?_, ?_⟩ <;> omega
    · rintro ⟨_, e0, e1, e2, e3, e4⟩
      omega
  · have h00 := hl 0 (by omega)
    have h10 := hl 1 (by omega)
    have h20 := hl 2 (by omega)
    have h30 := hl 3 (by omega)
    have h40 := hl 4 (by omega)
    have h50 := hl 5 (by omega)
    simp only [wv]
    omega
  · have h00 := hl 0 (by omega)
    have h10 := hl 1 (by omega)
    have h20 := hl 2 (by omega)
    have h30 := hl 3 (by omega)
    have h40 := hl 4 (by omega)
    have h50 := hl 5 (by omega)
    have h60 := hl 6 (by omega)
    simp only [wv]
    omega
theorem WX_4 {b : Nat → Nat} {a e : Nat} {k : Int32} (hb : ∀ i, b i < 256) : WX b a e k 4 = true ↔ k = 1 ∧ e - a = 5 ∧ b (a + 0) = 98 ∧ b (a + 1) = 114 ∧ b (a + 2) = 101 ∧ b (a + 3) = 97 ∧ b (a + 4) = 100 := by
  unfold WX
  rw [show txL.getD 4 0 = 5 from rfl]
  simp only [wE, Bool.and_eq_true, decide_eq_true_eq, Nat.zero_add, and_true]
  rw [nI_c (b (a + 0)) 98 (y := (txB.getD 4 []).getD 0 0) rfl (hb _) (by omega), nI_c (b (a + 1)) 114 (y := (txB.getD 4 []).getD 1 0) rfl (hb _) (by omega), nI_c (b (a + 2)) 101 (y := (txB.getD 4 []).getD 2 0) rfl (hb _) (by omega), nI_c (b (a + 3)) 97 (y := (txB.getD 4 []).getD 3 0) rfl (hb _) (by omega), nI_c (b (a + 4)) 100 (y := (txB.getD 4 []).getD 4 0) rfl (hb _) (by omega)]
theorem wv_4 {b : Nat → Nat} {a n : Nat} (h0 : 0 < n) (h8 : n < 8) (hl : ∀ i, i < n → 97 ≤ b (a + i) ∧ b (a + i) ≤ 122) : wv b a n = 422826041700 ↔ n = 5 ∧ b (a + 0) = 98 ∧ b (a + 1) = 114 ∧ b (a + 2) = 101 ∧ b (a + 3) = 97 ∧ b (a + 4) = 100 := by
  have h : n = 1 ∨ n = 2 ∨ n = 3 ∨ n = 4 ∨ n = 5 ∨ n = 6 ∨ n = 7 := by omega
  rcases h with h | h | h | h | h | h | h <;> subst h
  · have h00 := hl 0 (by omega)
    simp only [wv]
    omega
  · have h00 := hl 0 (by omega)
    have h10 := hl 1 (by omega)
    simp only [wv]
    omega
  · have h00 := hl 0 (by omega)
    have h10 := hl 1 (by omega)
    have h20 := hl 2 (by omega)
    simp only [wv]
    omega
  · have h00 := hl 0 (by omega)
    have h10 := hl 1 (by omega)
    have h20 := hl 2 (by omega)
    have h30 := hl 3 (by omega)
    simp only [wv]
    omega
  · have h00 := hl 0 (by omega)
    have h10 := hl 1 (by omega)
    have h20 := hl 2 (by omega)
    have h30 := hl 3 (by omega)
    have h40 := hl 4 (by omega)
    simp only [wv]
    constructor
    · intro h
      refine ⟨trivial, ?_, ?_, ?_, ?_, ?_⟩ <;> omega
    · rintro ⟨_, e0, e1, e2, e3, e4⟩
      omega
  · have h00 := hl 0 (by omega)
    have h10 := hl 1 (by omega)
    have h20 := hl 2 (by omega)
    have h30 := hl 3 (by omega)
    have h40 := hl 4 (by omega)
    have h50 := hl 5 (by omega)
    simp only [wv]
    omega
  · have h00 := hl 0 (by omega)
    have h10 := hl 1 (by omega)
    have h20 := hl 2 (by omega)
    have h30 := hl 3 (by omega)
    have h40 := hl 4 (by omega)
    have h50 := hl 5 (by omega)
    have h60 := hl 6 (by omega)
    simp only [wv]
    omega
theorem WX_5 {b : Nat → Nat} {a e : Nat} {k : Int32} (hb : ∀ i, b i < 256) : WX b a e k 5 = true ↔ k = 1 ∧ e - a = 5 ∧ b (a + 0) = 102 ∧ b (a + 1) = 105 ∧ b (a + 2) = 114 ∧ b (a + 3) = 115 ∧ b (a + 4) = 116 := by
  unfold WX
  rw [show txL.getD 5 0 = 5 from rfl]
  simp only [wE, Bool.and_eq_true, decide_eq_true_eq, Nat.zero_add, and_true]
  rw [nI_c (b (a + 0)) 102 (y := (txB.getD 5 []).getD 0 0) rfl (hb _) (by omega), nI_c (b (a + 1)) 105 (y := (txB.getD 5 []).getD 1 0) rfl (hb _) (by omega), nI_c (b (a + 2)) 114 (y := (txB.getD 5 []).getD 2 0) rfl (hb _) (by omega), nI_c (b (a + 3)) 115 (y := (txB.getD 5 []).getD 3 0) rfl (hb _) (by omega), nI_c (b (a + 4)) 116 (y := (txB.getD 5 []).getD 4 0) rfl (hb _) (by omega)]
theorem wv_5 {b : Nat → Nat} {a n : Nat} (h0 : 0 < n) (h8 : n < 8) (hl : ∀ i, i < n → 97 ≤ b (a + i) ∧ b (a + i) ≤ 122) : wv b a n = 439855772532 ↔ n = 5 ∧ b (a + 0) = 102 ∧ b (a + 1) = 105 ∧ b (a + 2) = 114 ∧ b (a + 3) = 115 ∧ b (a + 4) = 116 := by
  have h : n = 1 ∨ n = 2 ∨ n = 3 ∨ n = 4 ∨ n = 5 ∨ n = 6 ∨ n = 7 := by omega
  rcases h with h | h | h | h | h | h | h <;> subst h
  · have h00 := hl 0 (by omega)
    simp only [wv]
    omega
  · have h00 := hl 0 (by omega)
    have h10 := hl 1 (by omega)
    simp only [wv]
    omega
  · have h00 := hl 0 (by omega)
    have h10 := hl 1 (by omega)
    have h20 := hl 2 (by omega)
    simp only [wv]
    omega
  · have h00 := hl 0 (by omega)
    have h10 := hl 1 (by omega)
    have h20 := hl 2 (by omega)
    have h30 := hl 3 (by omega)
    simp only [wv]
    omega
  · have h00 := hl 0 (by omega)
    have h10 := hl 1 (by omega)
    have h20 := hl 2 (by omega)
    have h30 := hl 3 (by omega)
    have h40 := hl 4 (by omega)
    simp only [wv]
    constructor
    · intro h
      refine ⟨trivial, ?_, ?_, ?_, ?_, ?_⟩ <;> omega
    · rintro ⟨_, e0, e1, e2, e3, e4⟩
      omega
  · have h00 := hl 0 (by omega)
    have h10 := hl 1 (by omega)
    have h20 := hl 2 (by omega)
    have h30 := hl 3 (by omega)
    have h40 := hl 4 (by omega)
    have h50 := hl 5 (by omega)
    simp only [wv]
    omega
  · have h00 := hl 0 (by omega)
    have h10 := hl 1 (by omega)
    have h20 := hl 2 (by omega)
    have h30 := hl 3 (by omega)
    have h40 := hl 4 (by omega)
    have h50 := hl 5 (by omega)
    have h60 := hl 6 (by omega)
    simp only [wv]
    omega
/-- the word in hand is word c: as both see it -/
theorem word_eq (c K : Nat) {b : Nat → Nat} {L a e : Nat} {s u : St} (hb : ∀ i, b i < 256) (h : TokR b L s u a e) (hK : 0 < K) (hK2 : K < 2 ^ 62) (hw : ∀ n, 0 < n → n < 8 → (∀ i, i < n → 97 ≤ b (a + i) ∧ b (a + i) ≤ 122) → (wv b a n = K ↔ (WX b a (a + n) 1 c = true))) (h8 : txL.getD c 0 < 8) : (lg_cmp (lN (if u 60 0 35 = 2 then (if e - a < 8 then wv b a (e - a) else 0) else 0)) (lN K) = 0) ↔ WX b a e (s 23 0 4) c = true := by
  obtain ⟨hB, hC, h1, h33, hae, heL, h5, h6, h36, h34, h37, hK'⟩ := h
  have hz : ¬ lN 0 = lN K := fun e => absurd ((pk_lEQ (by omega) (by omega)).mp e) (by omega)
  rw [lg_eq0]
  have no : ∀ k : Int32, k ≠ 1 → ¬ WX b a e k c = true := fun k hk q => by
    unfold WX at q
    rw [decide_eq_false hk, Bool.false_and] at q
    exact absurd q (by decide)
  rcases hK' with ⟨k1, k2⟩ | ⟨k1, k2, k3, k4⟩ | ⟨k1, k2, _⟩ | ⟨k1, k2, _⟩ | ⟨k1, k2, _⟩
  · rw [k1, k2, if_neg (by decide)]
    exact ⟨fun q => absurd q hz, fun q => absurd q (no 0 (by decide))⟩
  · rw [k1, k2, if_pos rfl]
    by_cases q : e - a < 8
    · have hlt := wv_lt hb a (e - a)
      have h10 : wv b a (e - a) < 2 ^ 63 := Nat.lt_of_lt_of_le hlt (Nat.le_trans (Nat.pow_le_pow_right (by omega) (show e - a ≤ 7 by omega)) (by decide))
      rw [if_pos q, pk_lEQ h10 (by omega), hw (e - a) (by omega) q (fun i hi => let_b (k4 (a + i) (by omega) (by omega))), show a + (e - a) = e by omega]
    · rw [if_neg q]
      refine ⟨fun q => absurd q hz, fun q2 => ?_⟩
      unfold WX at q2
      rw [decide_eq_false (show ¬ e - a = txL.getD c 0 by omega), Bool.false_and, Bool.and_false] at q2
      exact absurd q2 (by decide)
  · rw [k1, k2, if_neg (by decide)]
    exact ⟨fun q => absurd q hz, fun q => absurd q (no 2 (by decide))⟩
  · rw [k1, k2, if_neg (by decide)]
    exact ⟨fun q => absurd q hz, fun q => absurd q (no 3 (by decide))⟩
  · rw [k1, k2, if_neg (by decide)]
    exact ⟨fun q => absurd q hz, fun q => absurd q (no 4 (by decide))⟩
theorem word_0 {b : Nat → Nat} {L a e : Nat} {s u : St} (hb : ∀ i, b i < 256) (h : TokR b L s u a e) : (lg_cmp (lN (if u 60 0 35 = 2 then (if e - a < 8 then wv b a (e - a) else 0) else 0)) (1718775661 : Int64) = 0) ↔ WX b a e (s 23 0 4) 0 = true :=
  word_eq 0 1718775661 hb h (by omega) (by omega) (fun n h0 h8 hl => by
    rw [wv_0 h0 h8 hl, WX_0 hb, show a + n - a = n by omega]
    exact ⟨fun q => ⟨rfl, q⟩, fun q => q.2⟩) (by decide)
theorem word_1 {b : Nat → Nat} {L a e : Nat} {s u : St} (hb : ∀ i, b i < 256) (h : TokR b L s u a e) : (lg_cmp (lN (if u 60 0 35 = 2 then (if e - a < 8 then wv b a (e - a) else 0) else 0)) (482804589413 : Int64) = 0) ↔ WX b a e (s 23 0 4) 1 = true :=
  word_eq 1 482804589413 hb h (by omega) (by omega) (fun n h0 h8 hl => by
    rw [wv_1 h0 h8 hl, WX_1 hb, show a + n - a = n by omega]
    exact ⟨fun q => ⟨rfl, q⟩, fun q => q.2⟩) (by decide)
theorem word_2 {b : Nat → Nat} {L a e : Nat} {s u : St} (hb : ∀ i, b i < 256) (h : TokR b L s u a e) : (lg_cmp (lN (if u 60 0 35 = 2 then (if e - a < 8 then wv b a (e - a) else 0) else 0)) (125779936109926 : Int64) = 0) ↔ WX b a e (s 23 0 4) 2 = true :=
  word_eq 2 125779936109926 hb h (by omega) (by omega) (fun n h0 h8 hl => by
    rw [wv_2 h0 h8 hl, WX_2 hb, show a + n - a = n by omega]
    exact ⟨fun q => ⟨rfl, q⟩, fun q => q.2⟩) (by decide)
theorem word_3 {b : Nat → Nat} {L a e : Nat} {s u : St} (hb : ∀ i, b i < 256) (h : TokR b L s u a e) : (lg_cmp (lN (if u 60 0 35 = 2 then (if e - a < 8 then wv b a (e - a) else 0) else 0)) (465625246068 : Int64) = 0) ↔ WX b a e (s 23 0 4) 3 = true :=
  word_eq 3 465625246068 hb h (by omega) (by omega) (fun n h0 h8 hl => by
    rw [wv_3 h0 h8 hl, WX_3 hb, show a + n - a = n by omega]
    exact ⟨fun q => ⟨rfl, q⟩, fun q => q.2⟩) (by decide)
theorem word_4 {b : Nat → Nat} {L a e : Nat} {s u : St} (hb : ∀ i, b i < 256) (h : TokR b L s u a e) : (lg_cmp (lN (if u 60 0 35 = 2 then (if e - a < 8 then wv b a (e - a) else 0) else 0)) (422826041700 : Int64) = 0) ↔ WX b a e (s 23 0 4) 4 = true :=
  word_eq 4 422826041700 hb h (by omega) (by omega) (fun n h0 h8 hl => by
    rw [wv_4 h0 h8 hl, WX_4 hb, show a + n - a = n by omega]
    exact ⟨fun q => ⟨rfl, q⟩, fun q => q.2⟩) (by decide)
theorem word_5 {b : Nat → Nat} {L a e : Nat} {s u : St} (hb : ∀ i, b i < 256) (h : TokR b L s u a e) : (lg_cmp (lN (if u 60 0 35 = 2 then (if e - a < 8 then wv b a (e - a) else 0) else 0)) (439855772532 : Int64) = 0) ↔ WX b a e (s 23 0 4) 5 = true :=
  word_eq 5 439855772532 hb h (by omega) (by omega) (fun n h0 h8 hl => by
    rw [wv_5 h0 h8 hl, WX_5 hb, show a + n - a = n by omega]
    exact ⟨fun q => ⟨rfl, q⟩, fun q => q.2⟩) (by decide)
/-- which rule a word begins, for both -/
def rwK (w w' : Int32) : Prop := (w = 0 ∧ w' = 0) ∨ (w = 4 ∧ w' = 1) ∨ (w = 5 ∧ w' = 2) ∨ (w = 6 ∧ w' = 3) ∨ (w = 7 ∧ w' = 4)
theorem rule_word (g : Nat × Nat) {b : Nat → Nat} {L a e : Nat} {s u : St} (hb : ∀ i, b i < 256) (h : TokR b L s u a e) : (F_X8_ruleOfWord g s = some (-1000000, s) ∧ F_X11_ruleOfWord g u = some (-1000000, u)) ∨ (s 23 0 4 = 1 ∧ ∃ w w' : Int32, rwK w w' ∧ F_X8_ruleOfWord g s = some (w, s) ∧ F_X11_ruleOfWord g u = some (w', u)) := by
  have k1 : ∀ c, WX b a e (s 23 0 4) c = true → s 23 0 4 = 1 := fun c q => by
    unfold WX at q
    rw [Bool.and_eq_true, decide_eq_true_eq] at q
    exact q.1
  unfold F_X8_ruleOfWord F_X11_ruleOfWord
  rw [X_isWord g h 1 (by decide), bd_so, bI_if, M_word g hb h, bd_so, ifc (word_1 hb h)]
  by_cases q1 : WX b a e (s 23 0 4) 1 = true
  · rw [if_pos q1, if_pos q1]
    exact Or.inr ⟨k1 1 q1, 0, 0, Or.inl ⟨rfl, rfl⟩, rfl, rfl⟩
  rw [if_neg q1, if_neg q1, X_isWord g h 2 (by decide), bd_so, bI_if, ifc (word_2 hb h)]
  by_cases q2 : WX b a e (s 23 0 4) 2 = true
  · rw [if_pos q2, if_pos q2]
    exact Or.inr ⟨k1 2 q2, 4, 1, Or.inr (Or.inl ⟨rfl, rfl⟩), rfl, rfl⟩
  rw [if_neg q2, if_neg q2, X_isWord g h 3 (by decide), bd_so, bI_if, ifc (word_3 hb h)]
  by_cases q3 : WX b a e (s 23 0 4) 3 = true
  · rw [if_pos q3, if_pos q3]
    exact Or.inr ⟨k1 3 q3, 5, 2, Or.inr (Or.inr (Or.inl ⟨rfl, rfl⟩)), rfl, rfl⟩
  rw [if_neg q3, if_neg q3, X_isWord g h 4 (by decide), bd_so, bI_if, ifc (word_4 hb h)]
  by_cases q4 : WX b a e (s 23 0 4) 4 = true
  · rw [if_pos q4, if_pos q4]
    exact Or.inr ⟨k1 4 q4, 6, 3, Or.inr (Or.inr (Or.inr (Or.inl ⟨rfl, rfl⟩))), rfl, rfl⟩
  rw [if_neg q4, if_neg q4, X_isWord g h 5 (by decide), bd_so, bI_if, ifc (word_5 hb h)]
  by_cases q5 : WX b a e (s 23 0 4) 5 = true
  · rw [if_pos q5, if_pos q5]
    exact Or.inr ⟨k1 5 q5, 7, 4, Or.inr (Or.inr (Or.inr (Or.inr ⟨rfl, rfl⟩))), rfl, rfl⟩
  rw [if_neg q5, if_neg q5]
  exact Or.inl ⟨rfl, rfl⟩
theorem M_numl (g : Nat × Nat) (a1 : Int32) (hk : Int32 → St → Option (Int32 × St)) {b : Nat → Nat} {L e : Nat} (u : St) (hC : BY b L (u 82 0)) (h37 : u 60 0 37 = nI e) (heL : e ≤ L) (hk3 : u 60 0 35 = 3) : ∀ (m a n v : Nat), a + m = e → m < n → (∀ i, a ≤ i → i < e → pFig (b i) = true) → F_X11_numberTo_16 g a1 hk n (nI v) (nI a) u = hk (nI (vN b a m v)) u
  | 0, a, n + 1, v, ha, _, _ => by
    have hL := hC.1
    rw [F_X11_numberTo_16, h37, if_pos (nI_le (by omega) (by omega)), vN]
  | m + 1, a, n + 1, v, ha, hn, hf => by
    have hL := hC.1
    rw [F_X11_numberTo_16, h37, if_neg (nI_ge (by omega) (by omega)), if_pos hk3, gd_of (inb_nI (by omega) (by omega)), nI_clamp (by omega), (hC.2 a (by omega)).1, Int32.mul_comm, fig_n (hf a (by omega) (by omega)), nI_1, M_numl g a1 hk u hC h37 heL hk3 m (a + 1) n _ (by omega) (by omega) (fun i h1 h2 => hf i (by omega) h2), vN]
/-- a number, at most M: both take it, or both find the same fault -/
theorem num_same (g : Nat × Nat) {b : Nat → Nat} {L a e : Nat} {s u : St} (h : TokR b L s u a e) (h0 : u 60 0 38 = 0) (M : Int32) : (∃ v : Nat, v ≤ 9999 ∧ a < e ∧ s 23 0 7 = nI v ∧ nI v ≤ M ∧ F_X8_isNumberTo g M s = some (1, s) ∧ F_X11_numberTo g M u = bd (F_X11_next g u) (fun _ u' => some (nI v, u'))) ∨ (∃ F v : Int32, (F = 1 ∨ F = 2) ∧ F_X8_isNumberTo g M s = some (0, up (up s 23 0 2 F) 23 0 3 (nI a)) ∧ F_X11_numberTo g M u = some (v, up (up u 60 0 38 F) 60 0 39 (nI a))) := by
  obtain ⟨hB, hC, h1, h33, hae, heL, h5, h6, h36, h34, h37, hK⟩ := h
  have hL := hB.1
  unfold F_X8_isNumberTo F_X11_numberTo F_X8_faulty
  rw [h0, if_pos (show (0 : Int32) ≤ 0 by decide), h36]
  by_cases q : s 23 0 4 = 2
  · rcases hK with ⟨k1, k2⟩ | ⟨k1, k2, k3, k4⟩ | ⟨k1, k2, k3, k4, k5, k6⟩ | ⟨k1, k2, _⟩ | ⟨k1, k2, _⟩
    · rw [k1] at q
      exact absurd q (by decide)
    · rw [k1] at q
      exact absurd q (by decide)
    · have hv : vN b a (e - a) 0 ≤ 9999 := by
        have h7 := vN_lt b (e - a) a 0 (fun i h8 h9 => k6 i h8 (by omega))
        have h8 : (0 + 1) * 10 ^ (e - a) ≤ 10 ^ 4 := by
          rw [Nat.zero_add, Nat.one_mul]
          exact Nat.pow_le_pow_right (by omega) (by omega)
        omega
      have h7 := M_numl g M (F_X11_numberTo_53 g M) u hC h37 heL k2 (e - a) a fu 0 (by omega) (lt_fu (by omega)) k6
      rw [nI_0] at h7
      rw [if_pos q, k5, h7, F_X11_numberTo_53, F_X11_numberTo_71, if_pos k2, F_X11_numberTo_85, F_X11_must, if_neg (show ¬ (1 : Int32) = 0 by decide), F_X11_must_9, h0, if_pos rfl]
      generalize vN b a (e - a) 0 = v at hv k5
      by_cases q2 : nI v ≤ M
      · refine Or.inl ⟨v, hv, k3, rfl, q2, ?_, ?_⟩
        · rw [if_pos q2]
        · rw [if_pos k2, if_pos q2]
          cases F_X11_next g u with
          | none => rfl
          | some x => rfl
      · refine Or.inr ⟨2, nI v, Or.inr rfl, ?_, ?_⟩
        · rw [if_neg q2, bd_so, if_pos rfl, h5]
        · have e2 : up (up u 60 0 38 2) 60 0 39 (nI a) 60 0 35 = 3 := k2
          have e3 : up (up u 60 0 38 2) 60 0 39 (nI a) 60 0 38 = 2 := by simp [up]
          rw [if_pos k2, if_neg q2, F_X11_bad, h0, if_pos rfl, h36, bd_so, F_X11_numberTo_71, if_pos e2, F_X11_numberTo_85, F_X11_must, if_neg (show ¬ (1 : Int32) = 0 by decide), F_X11_must_9, e3, if_neg (by decide)]
          rfl
    · rw [k1] at q
      exact absurd q (by decide)
    · rw [k1] at q
      exact absurd q (by decide)
  · have q2 : ¬ u 60 0 35 = 3 := by
      rcases hK with ⟨k1, k2⟩ | ⟨k1, k2, k3, k4⟩ | ⟨k1, k2, k3, k4, k5, k6⟩ | ⟨k1, k2, _⟩ | ⟨k1, k2, _⟩
      · rw [k2]
        decide
      · rw [k2]
        decide
      · exact absurd k1 q
      · rw [k2]
        decide
      · rw [k2]
        decide
    refine Or.inr ⟨1, 0, Or.inl rfl, ?_, ?_⟩
    · rw [if_neg q, bd_so, gd_of (by decide), h5]
    · have e3 : up (up u 60 0 38 1) 60 0 39 (nI a) 60 0 38 = 1 := by simp [up]
      rw [show fu = 999999 + 1 from rfl, F_X11_numberTo_16, if_neg q2, ite_self, F_X11_numberTo_53, if_neg q2, F_X11_numberTo_71, if_neg q2, F_X11_numberTo_85, F_X11_must, if_pos rfl, F_X11_bad, h0, if_pos rfl, h36, bd_so, F_X11_must_9, e3, if_neg (by decide)]
      rfl
