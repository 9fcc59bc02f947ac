/-! a home more, by the class itself -/
theorem lk_X10_237 : LkS RX10 237 yX10_homeItemsFit iX10_homeItemsFit 2 := ⟨kw_745, kw_746, kw_1, kw_747, ⟨by decide, by decide, by decide⟩⟩
theorem lk_X10_241 : LkI RX10 241 yX3_init iX3_init 2 := ⟨kw_749, kw_750, kw_19, kw_751, rfl, ⟨by decide, by decide, by decide⟩⟩
abbrev iX10_home : MI := (cX10_home, RX10, 5, some .int, 2, 2, 12)
theorem s_unf (l : Launch) (D : va_G) (c : Nat → ClassId) (wc : va_W) (q0 a0 : Nat) (fs : List Value) (v : Int32) (hl : fs.length = 11) (he : wc[q0]? = some (a0, .inr (10, fs))) : CSi l yX10_unfound iX10_unfound D c [.ref a0, .int v] wc (fun r w => r = v ∧ w = wc.set q0 (a0, .inr (10, fs.set 10 (.int 0)))) := by
  refine CSi.of rfl rfl (Nat.le_of_ble_eq_true rfl) (fun A sz hA => ?_)
  refine c_aload_n dX10_unfound_0 0 rfl rfl ?_
  refine c_iconst (v := 0) dX10_unfound_1 (by decide) ?_
  refine c_put2 q0 fl_X10_313 rfl he rfl rfl (by rw [hl]; decide) dX10_unfound_2 ?_
  refine c_iload_n dX10_unfound_5 1 rfl rfl ?_
  exact c_iret rfl (Nat.zero_le _) (Nat.zero_le _) dX10_unfound_6 ⟨rfl, rfl⟩
def fsO (a : Nat → Nat → Nat) (n m : Int32) : List Value := [.ref (a 1 0), .ref (a 4 0), .ref (a 17 0), .ref (a 23 0), .ref (a 25 0), .ref (a 28 0), .ref (a 35 0), .ref (a 38 0), .ref (a 43 0), .int n, .int m]
def hm_old (c : Nat → ClassId) (a : Nat → Nat → Nat) (g : Nat × Nat) (s : St) (k : Nat) : va_W :=
  [(a 3 k, .inl (c 0, 80, .inl (s 3 k))), (a 0 0, .inr (10, fsO a (s 0 0 9) (s 0 0 10))), (a 25 0, .inl (c 3, 12, .inr (.inr (.inr (.inr (fun i => if i < g.2 then some (a 26 i) else none)))))), (a 2 k, .inr (7, [.ref (a 3 k), .int (s 2 k 1), .int (s 2 k 2), .int (s 2 k 3)]))]
def hm_new (c : Nat → ClassId) (a : Nat → Nat → Nat) (g : Nat × Nat) (s : St) (k : Nat) (i : Int32) (h q1 : Nat) : va_W :=
  [(q1, .inl (c 0, 4, .inl (hgF (s 3 k) i))), (h, .inr (3, [.int (s 3 k i.toNatClampNeg), .int (s 3 k (i + 1).toNatClampNeg), .int (s 3 k (i + 2).toNatClampNeg), .int (s 3 k (i + 4).toNatClampNeg), .ref q1, .int (s 3 k (i + 3).toNatClampNeg), .int 0, .int 0])), (a 3 k, .inl (c 0, 80, .inl (s 3 k))), (a 0 0, .inr (10, fsO a (s 0 0 9 + 1) 0)), (a 25 0, .inl (c 3, 12, .inr (.inr (.inr (.inr (va_up (fun i => if i < g.2 then some (a 26 i) else none) (s 0 0 9).toNatClampNeg (some h)))))))]
theorem hm_old_eq {D : va_G} {c : Nat → ClassId} {a : Nat → Nat → Nat} {g : Nat × Nat} {s : St} {k : Nat} {L : List (Nat × Nat)} : cls D c a g s ([(3, k), (0, 0), (25, 0)] ++ ((2, k) :: L)) = hm_old c a g s k ++ cls D c a g s L := rfl
def P_home (D : va_G) (c : Nat → ClassId) (a : Nat → Nat → Nat) (g : Nat × Nat) (s : St) (k : Nat) (L : List (Nat × Nat)) (a1 a2 : Int32) (r : Int32) (w : va_W) : Prop :=
  (¬ bw a1 0 7 = true ∧ r = -1000001 ∧ w = cls D c a g s ([(3, k), (0, 0), (25, 0)] ++ ((2, k) :: L))) ∨
  (bw a1 0 7 = true ∧ ¬ s 0 0 9 < 12 ∧ r = -1000003 ∧ w = cls D c a g s ([(3, k), (0, 0), (25, 0)] ++ ((2, k) :: L))) ∨
  (bw a1 0 7 = true ∧ s 0 0 9 < 12 ∧ ¬ fndH s k a2 = 0 ∧ r = -1000010 - fndH s k a2 ∧ w = cls D c a g (up s 0 0 10 (fndH s k a2)) ([(3, k), (0, 0), (25, 0)] ++ ((2, k) :: L))) ∨
  (bw a1 0 7 = true ∧ s 0 0 9 < 12 ∧ fndH s k a2 = 0 ∧ ¬ hft (fun q => s 3 k (a2.toNatClampNeg + q)) = true ∧ r = -1000001 ∧ w = cls D c a g s ([(3, k), (0, 0), (25, 0)] ++ ((2, k) :: L))) ∨
  (bw a1 0 7 = true ∧ s 0 0 9 < 12 ∧ fndH s k a2 = 0 ∧ hft (fun q => s 3 k (a2.toNatClampNeg + q)) = true ∧ r = s 0 0 9 + 1 - 1 ∧ ∃ h q1 : Nat, w = hm_new c a g s k a2 h q1 ++ cls D c a g s ((2, k) :: L))
set_option maxHeartbeats 8000000 in
set_option maxRecDepth 100000 in
theorem s_X10_home (l : Launch) (D : va_G) (c : Nat → ClassId) (A A0 : Nat → Prop) (ad a : Nat → Nat → Nat) (g : Nat × Nat) (sz : Nat) (s : St) (k : Nat) (hk : k < 8) (a1 a2 : Int32) (L : List (Nat × Nat)) (hA : ∀ q, sz ≤ q → A q) (hx : ∀ t k', (t, k') ∈ [(3, k), (0, 0), (25, 0)] ++ ((2, k) :: L) → exX g t k') (hK : NI ([(3, k), (0, 0), (25, 0)] ++ ((2, k) :: L))) (hd : ∀ t k t' k' : Nat, exX g t k → exX g t' k' → a t k = a t' k' → t = t' ∧ k = k') (hAx : ∀ t k : Nat, exX g t k → A (a t k)) (hZ : OkZ (ZJ D c A A0 ad a g (exX g) sz)) (hn : s 0 0 9 < 12 → vp_in (s 0 0 9) 12) (ha : bw a1 0 7 = true → a1 = nI k) (hz : fndH s k a2 = 0 → ∃ z : Nat, z + 9 ≤ 80 ∧ a2 = nI z) :
    SpQ (ZJ D c A A0 ad a g (exX g) sz) l yX10_home iX10_home [.ref (a 0 0), .int a1, .int a2] s (cQi D A (P_home D c a g s k L a1 a2)) := by
  have hX : OkX (ZJ D c A A0 ad a g (exX g) sz) := ⟨hZ, fun t k ht hk => ⟨ht, hk⟩⟩
  have hc : (nI k).toNatClampNeg = k := nI_clamp (by omega)
  refine SpQ.of rfl rfl (Nat.le_of_ble_eq_true rfl) ?_
  refine a_iload_n dX10_home_0 1 rfl rfl ?_
  refine a_invS hZ (As := [.int a1]) (rest := []) lk_X10_71 ⟨⟨by decide, by decide⟩, by decide, by decide⟩ rfl (Nat.le_of_ble_eq_true rfl) dX10_home_1 (m_X10_isSheet hX (F_isSheet _ _ _)) ?_
  refine a_if_ne 10 dX10_home_4 (by decide) (fun q1 => ?_) (fun q1 => ?_)
  rotate_left
  · refine a_ldc (v := (-1000001)) kw_324 dX10_home_7 ?_
    refine a_c (ws := cls D c a g s ([(3, k), (0, 0), (25, 0)] ++ ((2, k) :: L))) hA (fun H h => cls_P hx h) (cls_D hK hx hd hAx) (fun nm n hn => ?_)
    exact c_iret rfl (Nat.zero_le _) (Nat.zero_le _) dX10_home_9 (Or.inl ⟨bI_z q1, rfl, rfl⟩)
  have q1' : bw a1 0 7 = true := bI_n q1
  have e1 := ha q1'
  subst e1
  refine a_aload_n dX10_home_10 0 rfl rfl ?_
  refine a_getI hZ (t := 0) (k := 0) (s 0 0 9) (hX.2 0 0 (by decide) Nat.one_pos) fl_X10_233 rfl rfl dX10_home_11 ?_
  refine a_bipush (v := 12) dX10_home_14 (by decide) ?_
  refine a_icmp_lt 22 dX10_home_16 (by decide) (fun q2 => ?_) (fun q2 => ?_)
  rotate_left
  · refine a_ldc (v := (-1000003)) kw_744 dX10_home_19 ?_
    refine a_c (ws := cls D c a g s ([(3, k), (0, 0), (25, 0)] ++ ((2, k) :: L))) hA (fun H h => cls_P hx h) (cls_D hK hx hd hAx) (fun nm n hn => ?_)
    exact c_iret rfl (Nat.zero_le _) (Nat.zero_le _) dX10_home_21 (Or.inr (Or.inl ⟨q1', q2, rfl, rfl⟩))
  refine a_aload_n dX10_home_22 0 rfl rfl ?_
  refine a_getR hZ (t := 0) (k := 0) (u := 1) (hX.2 0 0 (by decide) Nat.one_pos) fl_X10_11 rfl 0 rfl dX10_home_23 ?_
  refine a_iload_n dX10_home_26 1 rfl rfl ?_
  refine a_aald hZ (t := 1) (k := 0) (hX.2 1 0 (by decide) Nat.one_pos) rfl rfl rfl rfl (vp_in_nI hk (by omega)) (by rw [hc]; exact hk) dX10_home_27 ?_
  rw [hc]
  refine a_astore_n [(3, .ref (a 2 k)), (0, .ref (a 0 0)), (1, .int (nI k)), (2, .int a2)] dX10_home_28 rfl (by decide) rfl ?_
  refine a_aload_n dX10_home_29 0 rfl rfl ?_
  refine a_iload_n dX10_home_30 3 rfl rfl ?_
  refine a_bipush (v := 9) dX10_home_31 (by decide) ?_
  refine a_invV hZ (t := 2) (As := [.int a2, .int 9]) (rest := []) (hX.2 2 k (by decide) hk) lk_X10_91 ⟨⟨by decide, by decide⟩, by decide, by decide⟩ rfl (Nat.le_of_ble_eq_true rfl) dX10_home_33 (m_X7_findingAt hX hk (F_findingAt _ _ _ _ _)) ?_
  show AQ (ZJ D c A A0 ad a g (exX g) sz) l iX10_home (cQi D A (P_home D c a g s k L (nI k) a2)) 0 0 36 [(3, .ref (a 2 k)), (0, .ref (a 0 0)), (1, .int (nI k)), (2, .int a2)] [.int (fndH s k a2)] s
  refine a_istore [(4, .int (fndH s k a2)), (3, .ref (a 2 k)), (0, .ref (a 0 0)), (1, .int (nI k)), (2, .int a2)] dX10_home_36 (by decide) rfl ?_
  refine a_iload dX10_home_38 0 rfl ?_
  refine a_if_eq 50 dX10_home_40 (by decide) (fun q3 => ?_) (fun q3 => ?_)
  rotate_left
  · refine a_aload_n dX10_home_43 2 rfl rfl ?_
    refine a_iload dX10_home_44 0 rfl ?_
    refine a_invV hZ (t := 0) (As := [.int (fndH s k a2)]) (rest := []) (hX.2 0 0 (by decide) Nat.one_pos) lk_X10_80 ⟨⟨by decide, by decide⟩, by decide, by decide⟩ rfl (Nat.le_of_ble_eq_true rfl) dX10_home_46 (m_X10_found hX (R := (-1000010 - fndH s k a2, up s 0 0 10 (fndH s k a2))) rfl) ?_
    show AQ (ZJ D c A A0 ad a g (exX g) sz) l iX10_home (cQi D A (P_home D c a g s k L (nI k) a2)) 0 0 49 [(4, .int (fndH s k a2)), (3, .ref (a 2 k)), (0, .ref (a 0 0)), (1, .int (nI k)), (2, .int a2)] [.int (-1000010 - fndH s k a2)] (up s 0 0 10 (fndH s k a2))
    refine a_c (ws := cls D c a g (up s 0 0 10 (fndH s k a2)) ([(3, k), (0, 0), (25, 0)] ++ ((2, k) :: L))) hA (fun H h => cls_P hx h) (cls_D hK hx hd hAx) (fun nm n hn => ?_)
    exact c_iret rfl (Nat.zero_le _) (Nat.zero_le _) dX10_home_49 (Or.inr (Or.inr (Or.inl ⟨q1', q2, q3, rfl, rfl⟩)))
  obtain ⟨z, hz9, e2⟩ := hz q3
  subst e2
  have hcz : (nI z).toNatClampNeg = z := nI_clamp (by omega)
  refine a_aload_n dX10_home_50 1 rfl rfl ?_
  refine a_getR hZ (t := 2) (k := k) (u := 3) (hX.2 2 k (by decide) hk) fl_X10_110 rfl k rfl dX10_home_51 ?_
  refine a_iload_n dX10_home_54 4 rfl rfl ?_
  refine a_invS hZ (As := [.ref (a 3 k), .int (nI z)]) (rest := []) lk_X10_237 ⟨⟨by decide, by decide⟩, by decide, by decide⟩ rfl (Nat.le_of_ble_eq_true rfl) dX10_home_55 (m_X10_homeItemsFit hX (t0 := 3) (k0 := k) (hX.2 3 k (by decide) hk) rfl rfl (F_fit _ k z hz9 s)) ?_
  show AQ (ZJ D c A A0 ad a g (exX g) sz) l iX10_home (cQi D A (P_home D c a g s k L (nI k) (nI z))) 0 0 58 [(4, .int (fndH s k (nI z))), (3, .ref (a 2 k)), (0, .ref (a 0 0)), (1, .int (nI k)), (2, .int (nI z))] [.int (bI (hft (fun q => s 3 k (z + q))))] s
  refine a_if_ne 64 dX10_home_58 (by decide) (fun q4 => ?_) (fun q4 => ?_)
  rotate_left
  · refine a_ldc (v := (-1000001)) kw_324 dX10_home_61 ?_
    refine a_c (ws := cls D c a g s ([(3, k), (0, 0), (25, 0)] ++ ((2, k) :: L))) hA (fun H h => cls_P hx h) (cls_D hK hx hd hAx) (fun nm n hn => ?_)
    exact c_iret rfl (Nat.zero_le _) (Nat.zero_le _) dX10_home_63 (Or.inr (Or.inr (Or.inr (Or.inl ⟨q1', q2, q3, by rw [hcz]; exact bI_z q4, rfl, rfl⟩))))
  refine a_c (ws := hm_old c a g s k ++ cls D c a g s L) hA (fun H h => hm_old_eq ▸ cls_P hx h) (hm_old_eq ▸ cls_D hK hx hd hAx) (fun nm n hAn => ?_)
  refine c_aload_n dX10_home_64 2 rfl rfl ?_
  refine c_get (.ref (a 25 0)) 1 fl_X10_38 rfl rfl rfl dX10_home_65 ?_
  refine c_aload_n dX10_home_68 2 rfl rfl ?_
  refine c_get (.int (s 0 0 9)) 1 fl_X10_233 rfl rfl rfl dX10_home_69 ?_
  refine c_new hAn (ci := 3) (fs := [.int 0, .int 0, .int 0, .int 0, .null, .int 0, .int 0, .int 0]) gx_X3 tyX3_ok kw_154 kw_748 kw_19 rfl (by intro j hj; rcases (show j = 0 ∨ j = 1 ∨ j = 2 ∨ j = 3 ∨ j = 4 ∨ j = 5 ∨ j = 6 ∨ j = 7 by omega) with rfl | rfl | rfl | rfl | rfl | rfl | rfl | rfl <;> rfl) ⟨by decide, by decide⟩ dX10_home_72 (fun h => ?_)
  refine c_dup dX10_home_75 rfl ?_
  refine c_aload_n dX10_home_76 1 rfl rfl ?_
  refine c_get (.ref (a 3 k)) 4 fl_X10_110 rfl rfl rfl dX10_home_77 ?_
  refine c_iload_n dX10_home_80 4 rfl rfl ?_
  refine c_callI hAn (As := [.ref (a 3 k), .int (nI z)]) (rest := [.ref h, .int (s 0 0 9), .ref (a 25 0)]) (wr := [(a 0 0, .inr (10, fsO a (s 0 0 9) (s 0 0 10))), (a 25 0, .inl (c 3, 12, .inr (.inr (.inr (.inr (fun i => if i < g.2 then some (a 26 i) else none)))))), (a 2 k, .inr (7, [.ref (a 3 k), .int (s 2 k 1), .int (s 2 k 2), .int (s 2 k 3)]))] ++ cls D c a g s L) rfl lk_X10_241 ⟨⟨by decide, by decide⟩, by decide, by decide⟩ rfl (Nat.le_of_ble_eq_true rfl) dX10_home_81 (s_X3_init l D c h (a 3 k) (s 3 k) (nI z) ⟨z, hz9, rfl⟩) rfl (fun w1 hw1 => ?_)
  obtain ⟨q5, rfl⟩ := hw1
  refine c_aast (ti := 3) 4 1 rfl rfl rfl rfl (hn q2) dX10_home_84 ?_
  refine c_aload_n dX10_home_85 2 rfl rfl ?_
  refine c_dup dX10_home_86 rfl ?_
  refine c_get (.int (s 0 0 9)) 3 fl_X10_233 rfl rfl rfl dX10_home_87 ?_
  refine c_iconst (v := 1) dX10_home_90 (by decide) ?_
  refine c_iadd dX10_home_91 ?_
  refine c_put2 (fs := fsO a (s 0 0 9) (s 0 0 10)) 3 fl_X10_233 rfl rfl rfl rfl (Nat.le_of_ble_eq_true rfl) dX10_home_92 ?_
  refine c_aload_n dX10_home_95 2 rfl rfl ?_
  refine c_aload_n dX10_home_96 2 rfl rfl ?_
  refine c_get (.int (s 0 0 9 + 1)) 3 fl_X10_233 rfl rfl rfl dX10_home_97 ?_
  refine c_iconst (v := 1) dX10_home_100 (by decide) ?_
  refine c_isub dX10_home_101 ?_
  refine c_ws (ws' := [(q5, .inl (c 0, 4, .inl (hgF (s 3 k) (nI z)))), (h, .inr (3, [.int (s 3 k (nI z).toNatClampNeg), .int (s 3 k (nI z + 1).toNatClampNeg), .int (s 3 k (nI z + 2).toNatClampNeg), .int (s 3 k (nI z + 4).toNatClampNeg), .ref q5, .int (s 3 k (nI z + 3).toNatClampNeg), .int 0, .int 0])), (a 3 k, .inl (c 0, 80, .inl (s 3 k))), (a 0 0, .inr (10, fsO a (s 0 0 9 + 1) (s 0 0 10)))] ++ ([(a 25 0, .inl (c 3, 12, .inr (.inr (.inr (.inr (va_up (fun i => if i < g.2 then some (a 26 i) else none) (s 0 0 9).toNatClampNeg (some h))))))), (a 2 k, .inr (7, [.ref (a 3 k), .int (s 2 k 1), .int (s 2 k 2), .int (s 2 k 3)]))] ++ cls D c a g s L)) rfl ?_
  refine c_callV hAn (As := [.int (s 0 0 9 + 1 - 1)]) (rest := []) 3 lk_X10_88 rfl rfl ⟨⟨by decide, by decide⟩, by decide, by decide⟩ rfl (Nat.le_of_ble_eq_true rfl) dX10_home_102 (s_unf l D c [(q5, .inl (c 0, 4, .inl (hgF (s 3 k) (nI z)))), (h, .inr (3, [.int (s 3 k (nI z).toNatClampNeg), .int (s 3 k (nI z + 1).toNatClampNeg), .int (s 3 k (nI z + 2).toNatClampNeg), .int (s 3 k (nI z + 4).toNatClampNeg), .ref q5, .int (s 3 k (nI z + 3).toNatClampNeg), .int 0, .int 0])), (a 3 k, .inl (c 0, 80, .inl (s 3 k))), (a 0 0, .inr (10, fsO a (s 0 0 9 + 1) (s 0 0 10)))] 3 (a 0 0) (fsO a (s 0 0 9 + 1) (s 0 0 10)) (s 0 0 9 + 1 - 1) rfl rfl) rfl (fun r w1 hp => ?_)
  obtain ⟨hp1, hp2⟩ := hp
  subst hp1
  subst hp2
  exact c_iret rfl (by decide) (by decide) dX10_home_105 (Or.inr (Or.inr (Or.inr (Or.inr ⟨q1', q2, q3, by rw [hcz]; exact bI_n q4, rfl, h, q5, rfl⟩))))
