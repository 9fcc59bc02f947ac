/-! a mill more -/
theorem lk_X1_56 : LkI RX1 56 yX4_init iX4_init 4 := ⟨kw_411, kw_412, kw_13, kw_413, rfl, ⟨by decide, by decide, by decide⟩⟩
abbrev iX1_addMill : MI := (cX1_addMill, RX1, 5, some .int, 2, 3, 112)
abbrev iX10_mill : MI := (cX10_mill, RX10, 5, some .int, 3, 3, 112)
theorem lk_X10_152 : LkV RX10 152 yX1_addMill 4 iX1_addMill 4 := ⟨1, 14, TX1, rfl, rfl, kw_406, kw_407, kw_408, kw_2, kw_409, ⟨by decide, by decide, by decide⟩⟩
def ml_new (c : Nat → ClassId) (aC aA : Nat) (fs : List Value) (f : Nat → Option Nat) (n a1 a2 a3 a4 : Int32) (h q1 q2 : Nat) (f2 : Nat → Int32) : va_W :=
  [(q2, .inl (c 0, 100, .inl f2)), (q1, .inl (c 0, 4, .inl (fun _ => 0))), (h, .inr (4, [.int a1, .int a2, .int a3, .int a4, .ref q1, .ref q2, .int 0, .int 0])), (aC, .inr (1, fs.set 12 (.int (n + 1)))), (aA, .inl (c 2, 6, .inr (.inr (.inr (.inr (va_up f n.toNatClampNeg (some h)))))))]
def P_addMill (c : Nat → ClassId) (aC aA : Nat) (fs : List Value) (f : Nat → Option Nat) (n a1 a2 a3 a4 : Int32) (r : Int32) (w : va_W) : Prop :=
  (¬ n < 6 ∧ r = -1000003 ∧ w = [(aC, .inr (1, fs)), (aA, .inl (c 2, 6, .inr (.inr (.inr (.inr f)))))]) ∨
  (n < 6 ∧ r = n + 1 - 1 ∧ ∃ (h q1 q2 : Nat) (f2 : Nat → Int32), (∀ j, j < 100 → f2 j = -1000000) ∧ w = ml_new c aC aA fs f n a1 a2 a3 a4 h q1 q2 f2)
set_option maxHeartbeats 8000000 in
set_option maxRecDepth 100000 in
theorem s_X1_addMill (l : Launch) (D : va_G) (c : Nat → ClassId) (aC aA : Nat) (fs : List Value) (f : Nat → Option Nat) (n a1 a2 a3 a4 : Int32) (hl : fs.length = 14) (h11 : fs[11]? = some (.ref aA)) (h12 : fs[12]? = some (.int n)) (hn : n < 6 → vp_in n 6) : CSi l yX1_addMill iX1_addMill D c [.ref aC, .int a1, .int a2, .int a3, .int a4] [(aC, .inr (1, fs)), (aA, .inl (c 2, 6, .inr (.inr (.inr (.inr f)))))] (P_addMill c aC aA fs f n a1 a2 a3 a4) := by
  refine CSi.of rfl rfl (Nat.le_of_ble_eq_true rfl) (fun A sz hA => ?_)
  refine c_aload_n dX1_addMill_0 0 rfl rfl ?_
  refine c_get (.int n) 0 fl_X1_53 rfl rfl h12 dX1_addMill_1 ?_
  refine c_bipush (v := 6) dX1_addMill_4 (by decide) ?_
  refine c_icmp_lt 12 dX1_addMill_6 (by decide) (fun q => ?_) (fun q => ?_)
  · refine c_aload_n dX1_addMill_12 0 rfl rfl ?_
    refine c_get (.ref aA) 0 fl_X1_42 rfl rfl h11 dX1_addMill_13 ?_
    refine c_aload_n dX1_addMill_16 0 rfl rfl ?_
    refine c_get (.int n) 0 fl_X1_53 rfl rfl h12 dX1_addMill_17 ?_
    refine c_new hA (ci := 4) (fs := [.int 0, .int 0, .int 0, .int 0, .null, .null, .int 0, .int 0]) gx_X4 tyX4_ok kw_36 kw_410 kw_13 rfl (by intro j hj; rcases (show j = 0 ∨ j = 1 ∨ j = 2 ∨ j = 3 ∨ j = 4 ∨ j = 5 ∨ j = 6 ∨ j = 7 by omega) with rfl | rfl | rfl | rfl | rfl | rfl | rfl | rfl <;> rfl) ⟨by decide, by decide⟩ dX1_addMill_20 (fun h => ?_)
    refine c_dup dX1_addMill_23 rfl ?_
    refine c_iload_n dX1_addMill_24 1 rfl rfl ?_
    refine c_iload_n dX1_addMill_25 2 rfl rfl ?_
    refine c_iload_n dX1_addMill_26 3 rfl rfl ?_
    refine c_iload dX1_addMill_27 4 rfl ?_
    refine c_callI hA (As := [.int a1, .int a2, .int a3, .int a4]) (rest := [.ref h, .int n, .ref aA]) rfl lk_X1_56 ⟨⟨by decide, by decide⟩, by decide, by decide⟩ rfl (Nat.le_of_ble_eq_true rfl) dX1_addMill_29 (s_X4_init l D c h a1 a2 a3 a4) rfl (fun w1 hw1 => ?_)
    obtain ⟨q1, q2, f2, hf2, rfl⟩ := hw1
    refine c_aast (ti := 2) 4 2 rfl rfl rfl rfl (hn q) dX1_addMill_32 ?_
    refine c_aload_n dX1_addMill_33 0 rfl rfl ?_
    refine c_dup dX1_addMill_34 rfl ?_
    refine c_get (.int n) 3 fl_X1_53 rfl rfl h12 dX1_addMill_35 ?_
    refine c_iconst (v := 1) dX1_addMill_38 (by decide) ?_
    refine c_iadd dX1_addMill_39 ?_
    refine c_put2 3 fl_X1_53 rfl rfl rfl rfl (by rw [hl]; decide) dX1_addMill_40 ?_
    refine c_aload_n dX1_addMill_43 0 rfl rfl ?_
    refine c_get (.int (n + 1)) 3 fl_X1_53 rfl rfl (by rw [List.getElem?_set_self (by rw [hl]; decide)]) dX1_addMill_44 ?_
    refine c_iconst (v := 1) dX1_addMill_47 (by decide) ?_
    refine c_isub dX1_addMill_48 ?_
    exact c_iret rfl (by decide) (by decide) dX1_addMill_49 (Or.inr ⟨q, rfl, h, q1, q2, f2, hf2, rfl⟩)
  · refine c_ldc (v := (-1000003)) kw_401 dX1_addMill_9 ?_
    exact c_iret rfl (Nat.zero_le _) (Nat.zero_le _) dX1_addMill_11 (Or.inl ⟨q, rfl, rfl⟩)
def ok_mill (a1 a2 a3 a4 : Int32) : Prop := bw a1 1 50 = true ∧ bw a2 1 15 = true ∧ bw a3 0 1000 = true ∧ bw a4 0 5000 = true
def P_mill (D : va_G) (c : Nat → ClassId) (a : Nat → Nat → Nat) (g : Nat × Nat) (s : St) (L : List (Nat × Nat)) (a1 a2 a3 a4 : Int32) (r : Int32) (w : va_W) : Prop :=
  (¬ ok_mill a1 a2 a3 a4 ∧ r = -1000001 ∧ w = cls D c a g s ([(4, 0), (13, 0)] ++ L)) ∨
  (ok_mill a1 a2 a3 a4 ∧ ¬ s 4 0 12 < 6 ∧ r = -1000003 ∧ w = cls D c a g s ([(4, 0), (13, 0)] ++ L)) ∨
  (ok_mill a1 a2 a3 a4 ∧ s 4 0 12 < 6 ∧ r = s 4 0 12 + 1 - 1 ∧ ∃ (h q1 q2 : Nat) (f2 : Nat → Int32), (∀ j, j < 100 → f2 j = -1000000) ∧ w = ml_new c (a 4 0) (a 13 0) ((List.range 14).map (fvl (Zd D c a g (exX g)) s 4 0)) (fun i => if i < shN g 14 then some (a 14 i) else none) (s 4 0 12) a1 a2 a3 a4 h q1 q2 f2 ++ cls D c a g s L)
theorem bI_n {b : Bool} (h : ¬ bI b = 0) : b = true := by
  cases b
  · exact absurd rfl h
  · rfl
theorem bI_z {b : Bool} (h : bI b = 0) : ¬ b = true := by
  cases b
  · decide
  · exact absurd h (by decide)
set_option maxHeartbeats 8000000 in
set_option maxRecDepth 100000 in
theorem s_X10_mill (l : Launch) (D : va_G) (c : Nat → ClassId) (A A0 : Nat → Prop) (ad a : Nat → Nat → Nat) (g : Nat × Nat) (sz : Nat) (s : St) (a1 a2 a3 a4 : Int32) (L : List (Nat × Nat)) (hA : ∀ q, sz ≤ q → A q) (hx : ∀ t k, (t, k) ∈ [(4, 0), (13, 0)] ++ L → exX g t k) (hK : NI ([(4, 0), (13, 0)] ++ L)) (hd : ∀ t k t' k' : Nat, exX g t k → exX g t' k' → a t k = a t' k' → t = t' ∧ k = k') (hAx : ∀ t k : Nat, exX g t k → A (a t k)) (hZ : OkZ (ZJ D c A A0 ad a g (exX g) sz)) (hn : s 4 0 12 < 6 → vp_in (s 4 0 12) 6) :
    SpQ (ZJ D c A A0 ad a g (exX g) sz) l yX10_mill iX10_mill [.ref (a 0 0), .int a1, .int a2, .int a3, .int a4] s (cQi D A (P_mill D c a g s L a1 a2 a3 a4)) := by
  have hX : OkX (ZJ D c A A0 ad a g (exX g) sz) := ⟨hZ, fun t k ht hk => ⟨ht, hk⟩⟩
  have bad : ¬ ok_mill a1 a2 a3 a4 → AQ (ZJ D c A A0 ad a g (exX g) sz) l iX10_mill (cQi D A (P_mill D c a g s L a1 a2 a3 a4)) 0 0 43 (lv_args 0 [.ref (a 0 0), .int a1, .int a2, .int a3, .int a4]) [] s := fun hb => by
    refine a_ldc (v := (-1000001)) kw_324 dX10_mill_43 ?_
    refine a_c (ws := cls D c a g s ([(4, 0), (13, 0)] ++ L)) hA (fun H h => cls_P hx h) (cls_D hK hx hd hAx) (fun nm n hn => ?_)
    exact c_iret rfl (Nat.zero_le _) (Nat.zero_le _) dX10_mill_45 (Or.inl ⟨hb, rfl, rfl⟩)
  refine SpQ.of rfl rfl (Nat.le_of_ble_eq_true rfl) ?_
  refine a_iload_n dX10_mill_0 1 rfl rfl ?_
  refine a_iconst (v := 1) dX10_mill_1 (by decide) ?_
  refine a_bipush (v := 50) dX10_mill_2 (by decide) ?_
  refine a_invS hZ (As := [.int a1, .int 1, .int 50]) (rest := []) lk_X10_75 ⟨⟨by decide, by decide⟩, by decide, by decide⟩ rfl (Nat.le_of_ble_eq_true rfl) dX10_mill_4 (m_X10_within hX (F_within _ _ _ _ _)) ?_
  refine a_if_eq 43 dX10_mill_7 (by decide) (fun q => bad (fun h => absurd h.1 (bI_z q))) (fun q1 => ?_)
  refine a_iload_n dX10_mill_10 2 rfl rfl ?_
  refine a_iconst (v := 1) dX10_mill_11 (by decide) ?_
  refine a_bipush (v := 15) dX10_mill_12 (by decide) ?_
  refine a_invS hZ (As := [.int a2, .int 1, .int 15]) (rest := []) lk_X10_75 ⟨⟨by decide, by decide⟩, by decide, by decide⟩ rfl (Nat.le_of_ble_eq_true rfl) dX10_mill_14 (m_X10_within hX (F_within _ _ _ _ _)) ?_
  refine a_if_eq 43 dX10_mill_17 (by decide) (fun q => bad (fun h => absurd h.2.1 (bI_z q))) (fun q2 => ?_)
  refine a_iload_n dX10_mill_20 3 rfl rfl ?_
  refine a_iconst (v := 0) dX10_mill_21 (by decide) ?_
  refine a_sipush (v := 1000) dX10_mill_22 (by decide) ?_
  refine a_invS hZ (As := [.int a3, .int 0, .int 1000]) (rest := []) lk_X10_75 ⟨⟨by decide, by decide⟩, by decide, by decide⟩ rfl (Nat.le_of_ble_eq_true rfl) dX10_mill_25 (m_X10_within hX (F_within _ _ _ _ _)) ?_
  refine a_if_eq 43 dX10_mill_28 (by decide) (fun q => bad (fun h => absurd h.2.2.1 (bI_z q))) (fun q3 => ?_)
  refine a_iload dX10_mill_31 4 rfl ?_
  refine a_iconst (v := 0) dX10_mill_33 (by decide) ?_
  refine a_sipush (v := 5000) dX10_mill_34 (by decide) ?_
  refine a_invS hZ (As := [.int a4, .int 0, .int 5000]) (rest := []) lk_X10_75 ⟨⟨by decide, by decide⟩, by decide, by decide⟩ rfl (Nat.le_of_ble_eq_true rfl) dX10_mill_37 (m_X10_within hX (F_within _ _ _ _ _)) ?_
  refine a_if_ne 46 dX10_mill_40 (by decide) (fun q4 => ?_) (fun q => bad (fun h => absurd h.2.2.2 (bI_z q)))
  have ok : ok_mill a1 a2 a3 a4 := ⟨bI_n q1, bI_n q2, bI_n q3, bI_n q4⟩
  refine a_aload_n dX10_mill_46 0 rfl rfl ?_
  refine a_getR hZ (t := 0) (k := 0) (u := 4) (hX.2 0 0 (by decide) Nat.one_pos) fl_X10_18 rfl 0 rfl dX10_mill_47 ?_
  refine a_iload_n dX10_mill_50 1 rfl rfl ?_
  refine a_iload_n dX10_mill_51 2 rfl rfl ?_
  refine a_iload_n dX10_mill_52 3 rfl rfl ?_
  refine a_iload dX10_mill_53 4 rfl ?_
  refine a_c (ws := cls D c a g s ([(4, 0), (13, 0)] ++ L)) hA (fun H h => cls_P hx h) (cls_D hK hx hd hAx) (fun nm n hAn => ?_)
  refine c_callV hAn (As := [.int a1, .int a2, .int a3, .int a4]) (rest := []) (wr := cls D c a g s L) 0 lk_X10_152 rfl rfl ⟨⟨by decide, by decide⟩, by decide, by decide⟩ rfl (Nat.le_of_ble_eq_true rfl) dX10_mill_55 (s_X1_addMill l D c (a 4 0) (a 13 0) ((List.range 14).map (fvl (Zd D c a g (exX g)) s 4 0)) (fun i => if i < shN g 14 then some (a 14 i) else none) (s 4 0 12) a1 a2 a3 a4 rfl rfl rfl hn) rfl (fun r w1 hp => ?_)
  refine c_iret rfl (by decide) (by decide) dX10_mill_58 ?_
  rcases hp with ⟨h1, h2, h3⟩ | ⟨h1, h2, h, q1, q2, f2, hf, rfl⟩
  · subst h3
    exact Or.inr (Or.inl ⟨ok, h1, h2, rfl⟩)
  · exact Or.inr (Or.inr ⟨ok, h1, h2, h, q1, q2, f2, hf, rfl⟩)
