theorem inb_lt {i : Int32} {n : Nat} (h : inb i n = true) : i.toNatClampNeg < n := Nat.not_le.mp fun q => inb_vp h (Or.inr q)
def ltb (i : Int32) (n : Nat) : Bool := decide (i.toNatClampNeg < n)
theorem ltb_lt {i : Int32} {n : Nat} (h : ltb i n = true) : i.toNatClampNeg < n := by simpa [ltb] using h
def cpb (sp n : Int32) (n0 : Nat) (dp : Int32) (n1 : Nat) : Bool := decide (¬ sp < 0) && (decide (¬ dp < 0) && (decide (¬ n < 0) && (decide (sp.toNatClampNeg + n.toNatClampNeg ≤ n0) && decide (dp.toNatClampNeg + n.toNatClampNeg ≤ n1))))
theorem cpb_ok {sp n dp : Int32} {n0 n1 : Nat} (h : cpb sp n n0 dp n1 = true) : ¬ sp < 0 ∧ ¬ dp < 0 ∧ ¬ n < 0 ∧ sp.toNatClampNeg + n.toNatClampNeg ≤ n0 ∧ dp.toNatClampNeg + n.toNatClampNeg ≤ n1 := by
  simp only [cpb, Bool.and_eq_true, decide_eq_true_eq] at h
  exact h
/-- n numbers of (t0, k0) from sp on come to (t1, k1) from dp on -/
def cpy (s : St) (t0 k0 : Nat) (sp : Int32) (t1 k1 : Nat) (dp n : Int32) : St := fun a b c => if a = t1 then (if b = k1 then va_cpy (s t0 k0) (s t1 k1) sp.toNatClampNeg dp.toNatClampNeg n.toNatClampNeg c else s a b c) else s a b c
theorem cpy_ne {s : St} {t0 k0 t1 k1 t' k' : Nat} {sp dp n : Int32} (h : ¬ (t' = t1 ∧ k' = k1)) : cpy s t0 k0 sp t1 k1 dp n t' k' = s t' k' := by
  funext c
  unfold cpy
  by_cases h1 : t' = t1
  · by_cases h2 : k' = k1
    · exact absurd ⟨h1, h2⟩ h
    · rw [if_pos h1, if_neg h2]
  · rw [if_neg h1]
theorem cpy_self {s : St} {t0 k0 t1 k1 : Nat} {sp dp n : Int32} : cpy s t0 k0 sp t1 k1 dp n t1 k1 = va_cpy (s t0 k0) (s t1 k1) sp.toNatClampNeg dp.toNatClampNeg n.toNatClampNeg := by
  funext c
  simp [cpy]
section AWM
variable {Z : ZE} {l : Launch} {M : MI} {Post : Option Value → St → Prop} {Qc : Array Value → State → Outcome → State → Prop} {kc ks pc : Nat} {lv : List (Nat × Value)} {st : List Value} {s : St}
theorem a_aaldA (hZ : OkZ Z) {t k n u c : Nat} {i : Int32} (hx : zx Z t k) (h0 : shO t = none) (h1 : shA t = none) (hR : shR t = some (n, u, c)) (ht : (zT Z)[c]? = some (zc Z c, .array .int)) (hin : vp_in i n) (hex : i.toNatClampNeg < shN (zg Z) u) (hd : decode (mC M) pc = .ok (.aaload, 1)) (kk : AQ Z l M Qc kc ks (pc + 1) lv (.ref (za Z u i.toNatClampNeg) :: st) s) : AQ Z l M Qc kc ks pc lv (.int i :: .ref (za Z t k) :: st) s :=
  fun p e s0 m args below meth cd H locs ls C hW hS hl => by
    have hat := hZ.1 s H t k hx hW
    rw [cel_R h0 h1 hR] at hat
    have hlt : i.toNatClampNeg < n := Nat.not_le.mp fun q => hin (Or.inr q)
    refine W.aald (v := va_rf (if i.toNatClampNeg < shN (zg Z) u then some (za Z u i.toNatClampNeg) else none)) (ty := .array .int) C.1 C.2.1 hat ((C.2.2.2.2.2.2.2.1.2 c _ ht).1 n (fun j => va_rf (if j < shN (zg Z) u then some (za Z u j) else none))) rfl (fun q => by cases q) (by show ¬ (i < 0 ∨ (arrV _ _ _).slots.size ≤ _); rw [arrV_size]; exact hin) (by show (arrV _ _ _).slots[_]? = _; rw [arrV_read _ _ hlt]) rfl rfl hd ?_
    rw [if_pos hex]
    exact kk p e s0 m args below meth cd H locs ls C hW hS hl
theorem a_copy (hZ : OkZ Z) {t0 k0 t1 k1 n0 n1 idx : Nat} {sp dp n : Int32} (hx0 : zx Z t0 k0) (hx1 : zx Z t1 k1) (ho0 : shO t0 = none) (ha0 : shA t0 = some n0) (ho1 : shO t1 = none) (ha1 : shA t1 = some n1) (hb : ¬ sp < 0 ∧ ¬ dp < 0 ∧ ¬ n < 0 ∧ sp.toNatClampNeg + n.toNatClampNeg ≤ n0 ∧ dp.toNatClampNeg + n.toNatClampNeg ≤ n1)
    (w1 : Cond.methodLink (mO M) idx arraycopyName ∈ gtab) (w2 : Cond.native arraycopyName ∈ gtab) (w3 : Cond.static arraycopyName ∈ gtab) (w4 : Cond.initialized "java/lang/System" ∈ gtab) (hf : 1 ≤ mD M ∧ (st.map fun v => v.category).sum + (nativeFrameWords "java/lang/System" "arraycopy" 5 + 11) ≤ 40 * mD M) (hd : decode (mC M) pc = .ok (.invokestatic idx, 3))
    (kk : AQ Z l M Qc kc ks (pc + 3) lv st (cpy s t0 k0 sp t1 k1 dp n)) : AQ Z l M Qc kc ks pc lv (.int n :: .int dp :: .ref (za Z t1 k1) :: .int sp :: .ref (za Z t0 k0) :: st) s :=
  fun p e s0 m args below meth c H locs ls C hW hS hl => by
    obtain ⟨h1, h2, h3, h4, h5⟩ := hb
    have nn : ∀ z : Int32, ¬ z < 0 → z.toInt = (z.toNatClampNeg : Int) := by
      intro z hz
      have hz0 : (0 : Int) ≤ z.toInt := by
        have := Int32.not_lt.mp hz
        simpa using Int32.le_iff_toInt_le.mp this
      show z.toInt = ((z.toInt.toNat : Nat) : Int)
      omega
    intro T hT X
    have hc0 := hZ.1 s H t0 k0 hx0 hW
    have hc1 := hZ.1 s H t1 k1 hx1 hW
    rw [cel_A ho0 ha0] at hc0
    rw [cel_A ho1 ha1] at hc1
    have hc0 : H[za Z t0 k0]? = some (vp_cell (zc Z 0) (n0, .inl (s t0 k0))) := hc0
    have hc1 : H[za Z t1 k1]? = some (vp_cell (zc Z 0) (n1, .inl (s t1 k1))) := hc1
    have hK := (C.2.2.2.2.2.2.2.1.2 0 _ rfl).1
    obtain ⟨-, q0, hk0, cm0, hkk0⟩ := hK n0 (fun j => .int (s t0 k0 j))
    obtain ⟨-, q1, hk1, cm1, hkk1⟩ := hK n1 (fun j => .int (s t1 k1 j))
    obtain ⟨vm', X', step⟩ := X.arraycopy C.1 C.2.2.2.1 (C.2.2.2.2.1 _ w1) (C.2.2.2.2.1 _ w2) (C.2.2.2.2.1 _ w3) (C.2.2.2.2.1 _ w4) (src := za Z t0 k0) (dst := za Z t1 k1) (cs := vp_cell (zc Z 0) (n0, .inl (s t0 k0))) (cd := vp_cell (zc Z 0) (n1, .inl (s t1 k1))) (srcPos := sp) (destPos := dp) (n := n) (by rw [hT]; exact hc0) (by rw [hT]; exact hc1)
      (fun _ h => by cases h) (fun _ h => by cases h) (fun h => by cases h) (fun h => by cases h) hk0 hk1 hkk0 hkk1 (by simp [refKind]) h1 h2 h3
      (by rw [nn sp h1, nn n h3]; show ¬ _ > ((arrV (zc Z 0) n0 (fun j => .int (s t0 k0 j))).slots.size : Int); rw [arrV_size]; omega)
      (by rw [nn dp h2, nn n h3]; show ¬ _ > ((arrV (zc Z 0) n1 (fun j => .int (s t1 k1 j))).slots.size : Int); rw [arrV_size]; omega)
      (fun vm₁ _ i hi => by
        have e : (vp_cell (zc Z 0) (n0, .inl (s t0 k0))).slots.getD (sp.toNatClampNeg + i) .null = .int (s t0 k0 (sp.toNatClampNeg + i)) := by
          show (arrV (zc Z 0) n0 (fun j => .int (s t0 k0 j))).slots.getD _ _ = _
          rw [Array.getD_eq_getD_getElem?, arrV_read _ _ (by omega)]
          rfl
        refine ⟨?_, ?_⟩
        · rw [e]
          rfl
        · rw [e]
          exact trivial)
      (g := F0 m pc ls (.int n :: .int dp :: .ref (za Z t1 k1) :: .int sp :: .ref (za Z t0 k0) :: st)) rfl (by rw [C.2.2.1]; exact hl.1) (rest := st) rfl (by rw [C.2.1]; exact hd) hf.1 (by show 2 * 0 + _ + _ ≤ 40 * mD M; have := hf.2; omega)
    have e1 : copied (vp_cell (zc Z 0) (n0, .inl (s t0 k0))) (vp_cell (zc Z 0) (n1, .inl (s t1 k1))) sp dp n = vp_cell (zc Z 0) (n1, .inl (va_cpy (s t0 k0) (s t1 k1) sp.toNatClampNeg dp.toNatClampNeg n.toNatClampNeg)) := va_copied (fun z => .int z) (zc Z 0) (zc Z 0) (s t0 k0) (s t1 k1) h4
    rw [e1] at X' step
    have hlt : za Z t1 k1 < H.size := (Array.getElem?_eq_some_iff.mp hc1).1
    generalize hv : vp_cell (zc Z 0) (n1, .inl (va_cpy (s t0 k0) (s t1 k1) sp.toNatClampNeg dp.toNatClampNeg n.toNatClampNeg)) = vv at X' step
    have hheap : ((T.setVm vm').setCell (za Z t1 k1) vv).heap = H.setIfInBounds (za Z t1 k1) vv := by rw [← hT]; rfl
    have oq : ∀ q : Nat, q ≠ za Z t1 k1 → (H.setIfInBounds (za Z t1 k1) vv)[q]? = H[q]? := fun q hq => by simp [Array.getElem?_setIfInBounds, Ne.symm hq]
    have hself : (H.setIfInBounds (za Z t1 k1) vv)[za Z t1 k1]? = some vv := by simp [Array.getElem?_setIfInBounds, hlt]
    have hW' : zW Z (cpy s t0 k0 sp t1 k1 dp n) (H.setIfInBounds (za Z t1 k1) vv) := by
      refine hZ.2.1 s _ H _ t1 k1 hx1 hW ?_ (by simp) oq (fun t' k' h => cpy_ne h)
      rw [cel_A ho1 ha1, cpy_self]
      show (H.setIfInBounds (za Z t1 k1) vv)[za Z t1 k1]? = some (vp_cell _ _)
      rw [hself, ← hv]
    obtain ⟨t, a1, b1⟩ := kk p e s0 m args below meth c (H.setIfInBounds (za Z t1 k1) vv) _ ls C hW' ⟨by simp; exact hS.1, fun q g1 g2 => by
        rw [oq q (fun e => g2 (by rw [e]; exact hZ.2.2.1 t1 k1 hx1))]
        exact hS.2.1 q g1 g2, fun q hq => by
        rcases List.mem_append.mp hq with h | h
        · exact hS.2.2 q h
        · obtain ⟨z, -, hz⟩ := List.mem_map.mp h
          rw [← hz]
          exact hZ.2.2.1 t1 k1 hx1⟩ hl _ hheap X'
    exact ⟨t, step t a1, b1⟩
theorem a_ldcw {idx : Nat} {v : Int32} (hc : Cond.constant (mO M) idx v ∈ gtab) (hd : decode (mC M) pc = .ok (.ldc_w idx, 3)) (k : AQ Z l M Qc kc ks (pc + 3) lv (.int v :: st) s) : AQ Z l M Qc kc ks pc lv st s :=
  fun p e s0 m args below meth c H locs ls C hW hS hl => lv_ldcw C.1 C.2.1 C.2.2.2.1 (C.2.2.2.2.1 _ hc) hd (k p e s0 m args below meth c H locs ls C hW hS hl)
end AWM
