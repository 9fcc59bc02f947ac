/-! the JDK's own methods behind String.length and String.charAt, for the six texts -/
set_option maxRecDepth 100000 in
theorem m_J0_coder {Z : ZE} {l : Launch} (hZ : OkX Z) {c : Nat} (hc : c < 6) {s : St} : Sp Z l yJ0_coder_7d493 iJ0_coder_7d493 [.ref (za Z 110 c)] s (some (.int 0), s) := by
  refine Sp.of (by decide) rfl (Nat.le_of_ble_eq_true rfl) ?_
  show AW Z l iJ0_coder_7d493 (Pq (some (.int 0), s)) 0 0 0 [(0, .ref (za Z 110 c))] [] s
  refine a_comp hZ.1 kw_644 dJ0_coder_7d493_0 ?_
  refine a_if_eq 13 dJ0_coder_7d493_3 (by decide) (fun q => absurd q (by decide)) (fun q => ?_)
  refine a_aload_n dJ0_coder_7d493_6 0 rfl rfl ?_
  refine a_txC hZ.1 hc kw_1405 dJ0_coder_7d493_7 ?_
  refine a_goto 14 dJ0_coder_7d493_10 (by decide) ?_
  exact a_nret (ty := .byte) rfl rfl (Nat.zero_le _) (Nat.zero_le _) dJ0_coder_7d493_14 ⟨rfl, rfl⟩
set_option maxRecDepth 100000 in
theorem m_J0_isLatin1 {Z : ZE} {l : Launch} (hZ : OkX Z) {c : Nat} (hc : c < 6) {s : St} : Sp Z l yJ0_isLatin1_aae02 iJ0_isLatin1_aae02 [.ref (za Z 110 c)] s (some (.int 1), s) := by
  refine Sp.of (by decide) rfl (Nat.le_of_ble_eq_true rfl) ?_
  show AW Z l iJ0_isLatin1_aae02 (Pq (some (.int 1), s)) 0 0 0 [(0, .ref (za Z 110 c))] [] s
  refine a_comp hZ.1 kw_644 dJ0_isLatin1_aae02_0 ?_
  refine a_if_eq 17 dJ0_isLatin1_aae02_3 (by decide) (fun q => absurd q (by decide)) (fun q => ?_)
  refine a_aload_n dJ0_isLatin1_aae02_6 0 rfl rfl ?_
  refine a_txC hZ.1 hc kw_1405 dJ0_isLatin1_aae02_7 ?_
  refine a_if_ne 17 dJ0_isLatin1_aae02_10 (by decide) (fun q => absurd rfl q) (fun q => ?_)
  refine a_iconst (v := (1 : Int32)) dJ0_isLatin1_aae02_13 (by decide) ?_
  refine a_goto 18 dJ0_isLatin1_aae02_14 (by decide) ?_
  exact a_zret rfl rfl (Nat.zero_le _) (Nat.zero_le _) dJ0_isLatin1_aae02_18 ⟨rfl, rfl⟩
set_option maxRecDepth 100000 in
theorem m_J0_length {Z : ZE} {l : Launch} (hZ : OkX Z) {c : Nat} (hc : c < 6) {s : St} : Sp Z l yJ0_length_8abf5 iJ0_length_8abf5 [.ref (za Z 110 c)] s (some (.int (Int32.ofNat (txL.getD c 0))), s) := by
  refine Sp.of (by decide) rfl (Nat.le_of_ble_eq_true rfl) ?_
  show AW Z l iJ0_length_8abf5 (Pq (some (.int (Int32.ofNat (txL.getD c 0))), s)) 0 0 0 [(0, .ref (za Z 110 c))] [] s
  refine a_aload_n dJ0_length_8abf5_0 0 rfl rfl ?_
  refine a_txV hZ.1 hc kw_1404 dJ0_length_8abf5_1 ?_
  refine a_txN hZ.1 hc dJ0_length_8abf5_4 ?_
  refine a_aload_n dJ0_length_8abf5_5 0 rfl rfl ?_
  refine a_invT hZ.1 (As := []) (rest := [.int (Int32.ofNat (txL.getD c 0))]) hc lk_J0_335 ⟨⟨by decide, by decide⟩, by decide, by decide⟩ rfl (Nat.le_of_ble_eq_true rfl) dJ0_length_8abf5_6 (m_J0_coder hZ hc) ?_
  show AW Z l iJ0_length_8abf5 (Pq (some (.int (Int32.ofNat (txL.getD c 0))), s)) 0 0 9 [(0, .ref (za Z 110 c))] [.int 0, .int (Int32.ofNat (txL.getD c 0))] s
  refine a_ishr dJ0_length_8abf5_9 ?_
  rw [sb_shr0]
  exact a_iret rfl (Nat.zero_le _) (Nat.zero_le _) dJ0_length_8abf5_10 ⟨rfl, rfl⟩
set_option maxRecDepth 100000 in
theorem m_J3_checkIndex {Z : ZE} {l : Launch} {i n : Int32} {fv : Value} (hv : fv = .null ∨ ∃ t : Nat, fv = .ref t) (h0 : ¬ i < 0) (h1 : i < n) {s : St} : Sp Z l yJ3_checkIndex_8e157 iJ3_checkIndex_8e157 [.int i, .int n, fv] s (some (.int i), s) := by
  have key : ∀ lv, AW Z l iJ3_checkIndex_8e157 (Pq (some (.int i), s)) 0 0 0 ((0, .int i) :: (1, .int n) :: lv) [] s := by
    intro lv
    refine a_iload_n dJ3_checkIndex_8e157_0 0 rfl rfl ?_
    refine a_if_lt 9 dJ3_checkIndex_8e157_1 (by decide) (fun q => absurd q h0) (fun q => ?_)
    refine a_iload_n dJ3_checkIndex_8e157_4 0 rfl rfl ?_
    refine a_iload_n dJ3_checkIndex_8e157_5 1 rfl rfl ?_
    refine a_icmp_lt 16 dJ3_checkIndex_8e157_6 (by decide) (fun q => ?_) (fun q => absurd h1 q)
    refine a_iload_n dJ3_checkIndex_8e157_16 0 rfl rfl ?_
    exact a_iret rfl (Nat.zero_le _) (Nat.zero_le _) dJ3_checkIndex_8e157_17 ⟨rfl, rfl⟩
  rcases hv with rfl | ⟨t, rfl⟩
  · exact Sp.of (by decide) rfl (Nat.le_of_ble_eq_true rfl) (key [(2, .null)])
  · exact Sp.of (by decide) rfl (Nat.le_of_ble_eq_true rfl) (key [(2, .ref t)])
set_option maxRecDepth 100000 in
theorem m_J0_checkIndex {Z : ZE} {l : Launch} (hZ : OkX Z) {i n : Int32} (h0 : ¬ i < 0) (h1 : i < n) {s : St} : Sp Z l yJ0_checkIndex_df160 iJ0_checkIndex_df160 [.int i, .int n] s (none, s) := by
  refine Sp.of (by decide) rfl (Nat.le_of_ble_eq_true rfl) ?_
  show AW Z l iJ0_checkIndex_df160 (Pq (none, s)) 0 0 0 [(0, .int i), (1, .int n)] [] s
  refine a_iload_n dJ0_checkIndex_df160_0 0 rfl rfl ?_
  refine a_iload_n dJ0_checkIndex_df160_1 1 rfl rfl ?_
  refine a_siob hZ.1 kw_660 dJ0_checkIndex_df160_2 (fun v hv => ?_)
  refine a_invS hZ.1 (As := [.int i, .int n, v]) (rest := []) lk_J0_1059 ⟨⟨by decide, by decide⟩, by decide, by decide⟩ rfl (Nat.le_of_ble_eq_true rfl) dJ0_checkIndex_df160_5 (m_J3_checkIndex hv h0 h1) ?_
  show AW Z l iJ0_checkIndex_df160 (Pq (none, s)) 0 0 8 [(0, .int i), (1, .int n)] [.int i] s
  refine a_pop dJ0_checkIndex_df160_8 rfl ?_
  exact a_vret rfl (Nat.zero_le _) (Nat.zero_le _) dJ0_checkIndex_df160_9 ⟨rfl, rfl⟩
theorem tx_len : ∀ c : Nat, c < 6 → (txB.getD c []).length = txL.getD c 0 := by decide
theorem tx_and : ∀ c : Nat, c < 6 → ∀ j : Nat, j < 6 → ((txB.getD c []).getD j 0 &&& 255) = (txB.getD c []).getD j 0 ∧ (((txB.getD c []).getD j 0 &&& 255).toUInt32 % 65536).toInt32 = (txB.getD c []).getD j 0 ∧ narrow .char (.int ((txB.getD c []).getD j 0)) = .int ((txB.getD c []).getD j 0) := by decide
theorem tx_le : ∀ c : Nat, c < 6 → txL.getD c 0 ≤ 6 := by decide
theorem inb_lo {i : Int32} {n : Nat} (h : inb i n = true) : ¬ i < 0 := fun q => inb_vp h (Or.inl q)
theorem inb_hi {i : Int32} {n : Nat} (h : inb i n = true) (hn : n < 2 ^ 31) : i < Int32.ofNat n := by
  obtain ⟨j, hj, rfl⟩ := vp_in_of (inb_vp h) hn
  exact nI_lt hj hn
set_option maxRecDepth 100000 in
theorem m_J1_charAt {Z : ZE} {l : Launch} (hZ : OkX Z) {c : Nat} {i : Int32} (hc : c < 6) (hb : inb i (txL.getD c 0) = true) {s : St} : Sp Z l yJ1_charAt_3b067 iJ1_charAt_3b067 [.ref (za Z 111 c), .int i] s (some (.int ((txB.getD c []).getD i.toNatClampNeg 0)), s) := by
  have hj : i.toNatClampNeg < 6 := Nat.lt_of_lt_of_le (inb_lt hb) (tx_le c hc)
  obtain ⟨-, t2, t3⟩ := tx_and c hc _ hj
  refine Sp.of (by decide) rfl (Nat.le_of_ble_eq_true rfl) ?_
  show AW Z l iJ1_charAt_3b067 (Pq (some (.int ((txB.getD c []).getD i.toNatClampNeg 0)), s)) 0 0 0 [(0, .ref (za Z 111 c)), (1, .int i)] [] s
  refine a_iload_n dJ1_charAt_3b067_0 1 rfl rfl ?_
  refine a_aload_n dJ1_charAt_3b067_1 0 rfl rfl ?_
  refine a_txN hZ.1 hc dJ1_charAt_3b067_2 ?_
  refine a_invS hZ.1 (As := [.int i, .int (Int32.ofNat (txL.getD c 0))]) (rest := []) lk_J1_9 ⟨⟨by decide, by decide⟩, by decide, by decide⟩ rfl (Nat.le_of_ble_eq_true rfl) dJ1_charAt_3b067_3 (m_J0_checkIndex hZ (inb_lo hb) (inb_hi hb (by have := tx_le c hc; omega))) ?_
  show AW Z l iJ1_charAt_3b067 (Pq (some (.int ((txB.getD c []).getD i.toNatClampNeg 0)), s)) 0 0 6 [(0, .ref (za Z 111 c)), (1, .int i)] [] s
  refine a_aload_n dJ1_charAt_3b067_6 0 rfl rfl ?_
  refine a_iload_n dJ1_charAt_3b067_7 1 rfl rfl ?_
  refine a_txB hZ.1 hc (inb_vp hb) dJ1_charAt_3b067_8 ?_
  refine a_sipush (v := (255 : Int32)) dJ1_charAt_3b067_9 (by decide) ?_
  refine a_iand dJ1_charAt_3b067_12 ?_
  refine a_i2c dJ1_charAt_3b067_13 ?_
  rw [t2]
  exact a_nret (ty := .char) rfl t3 (Nat.zero_le _) (Nat.zero_le _) dJ1_charAt_3b067_14 ⟨rfl, rfl⟩
set_option maxRecDepth 100000 in
theorem m_J0_charAt {Z : ZE} {l : Launch} (hZ : OkX Z) {c : Nat} {i : Int32} (hc : c < 6) (hb : inb i (txL.getD c 0) = true) {s : St} : Sp Z l yJ0_charAt_5068e iJ0_charAt_5068e [.ref (za Z 110 c), .int i] s (some (.int ((txB.getD c []).getD i.toNatClampNeg 0)), s) := by
  have hj : i.toNatClampNeg < 6 := Nat.lt_of_lt_of_le (inb_lt hb) (tx_le c hc)
  obtain ⟨-, -, t3⟩ := tx_and c hc _ hj
  refine Sp.of (by decide) rfl (Nat.le_of_ble_eq_true rfl) ?_
  show AW Z l iJ0_charAt_5068e (Pq (some (.int ((txB.getD c []).getD i.toNatClampNeg 0)), s)) 0 0 0 [(0, .ref (za Z 110 c)), (1, .int i)] [] s
  refine a_aload_n dJ0_charAt_5068e_0 0 rfl rfl ?_
  refine a_invT hZ.1 (As := []) (rest := []) hc lk_J0_492 ⟨⟨by decide, by decide⟩, by decide, by decide⟩ rfl (Nat.le_of_ble_eq_true rfl) dJ0_charAt_5068e_1 (m_J0_isLatin1 hZ hc) ?_
  show AW Z l iJ0_charAt_5068e (Pq (some (.int ((txB.getD c []).getD i.toNatClampNeg 0)), s)) 0 0 4 [(0, .ref (za Z 110 c)), (1, .int i)] [.int 1] s
  refine a_if_eq 16 dJ0_charAt_5068e_4 (by decide) (fun q => absurd q (by decide)) (fun q => ?_)
  refine a_aload_n dJ0_charAt_5068e_7 0 rfl rfl ?_
  refine a_txV hZ.1 hc kw_1404 dJ0_charAt_5068e_8 ?_
  refine a_iload_n dJ0_charAt_5068e_11 1 rfl rfl ?_
  refine a_invS hZ.1 (As := [.ref (za Z 111 c), .int i]) (rest := []) lk_J0_495 ⟨⟨by decide, by decide⟩, by decide, by decide⟩ rfl (Nat.le_of_ble_eq_true rfl) dJ0_charAt_5068e_12 (m_J1_charAt hZ hc hb) ?_
  show AW Z l iJ0_charAt_5068e (Pq (some (.int ((txB.getD c []).getD i.toNatClampNeg 0)), s)) 0 0 15 [(0, .ref (za Z 110 c)), (1, .int i)] [.int ((txB.getD c []).getD i.toNatClampNeg 0)] s
  exact a_nret (ty := .char) rfl t3 (Nat.zero_le _) (Nat.zero_le _) dJ0_charAt_5068e_15 ⟨rfl, rfl⟩
section AWT
variable {Z : ZE} {l : Launch} {M : MI} {Qc : Array Value → State → Outcome → State → Prop} {kc ks pc : Nat} {lv : List (Nat × Value)} {st : List Value} {s : St}
theorem a_strlen (hZ : OkX Z) {c idx : Nat} (hc : c < 6) (hl0 : LkT (mO M) idx yJ0_length_8abf5 iJ0_length_8abf5 0) (hf : Fit M iJ0_length_8abf5 kc ks) (hrest : (st.map fun v => v.category).sum ≤ 8) (hd : decode (mC M) pc = .ok (.invokevirtual idx, 3)) (kk : AQ Z l M Qc kc ks (pc + 3) lv (.int (Int32.ofNat (txL.getD c 0)) :: st) s) : AQ Z l M Qc kc ks pc lv (.ref (za Z 110 c) :: st) s :=
  a_invT hZ.1 (As := []) (rest := st) hc hl0 hf rfl hrest hd (m_J0_length hZ hc) kk
theorem a_charAt (hZ : OkX Z) {c idx : Nat} {i : Int32} (hc : c < 6) (hb : inb i (txL.getD c 0) = true) (hl0 : LkT (mO M) idx yJ0_charAt_5068e iJ0_charAt_5068e 1) (hf : Fit M iJ0_charAt_5068e kc ks) (hrest : (st.map fun v => v.category).sum ≤ 8) (hd : decode (mC M) pc = .ok (.invokevirtual idx, 3)) (kk : AQ Z l M Qc kc ks (pc + 3) lv (.int ((txB.getD c []).getD i.toNatClampNeg 0) :: st) s) : AQ Z l M Qc kc ks pc lv (.int i :: .ref (za Z 110 c) :: st) s :=
  a_invT hZ.1 (As := [.int i]) (rest := st) hc hl0 hf rfl hrest hd (m_J0_charAt hZ hc hb) kk
end AWT
