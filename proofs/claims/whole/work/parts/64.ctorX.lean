/-! the landed class itself: by program -/
abbrev iX10_init : MI := (cX10_init, RX10, 2, none, 2, 62, 1631)
def P_X10_init (c : Nat → ClassId) (h0 : Nat) (w : va_W) : Prop := ∃ q1 : Nat, ∃ q2 : Nat, ∃ q1_3 : Nat, ∃ q2_3 : Nat, ∃ q3_3 : Nat, ∃ q4_3 : Nat, ∃ q5_3 : Nat, ∃ q6_3 : Nat, ∃ q7_3 : Nat, ∃ q8_3 : Nat, ∃ q9_3 : Nat, ∃ q4 : Nat, ∃ q1_5 : Nat, ∃ q2_5 : Nat, ∃ q3_5 : Nat, ∃ q4_5 : Nat, ∃ q5_5 : Nat, ∃ q6 : Nat, ∃ q1_7 : Nat, ∃ q8 : Nat, ∃ q9 : Nat, ∃ q1_10 : Nat, ∃ q2_10 : Nat, ∃ r2_10 : Nat → Nat, ∃ q3_10 : Nat, ∃ q4_10 : Nat, ∃ q5_10 : Nat, ∃ q11 : Nat, ∃ q1_12 : Nat, ∃ q2_12 : Nat, ∃ q13 : Nat, ∃ q1_14 : Nat, ∃ q2_14 : Nat, ∃ q3_14 : Nat, ∃ q4_14 : Nat, ∃ q15 : Nat, ∃ q1_16 : Nat, ∃ q2_16 : Nat, ∃ q3_16 : Nat, ∃ q17 : Nat, ∃ q1_18 : Nat, ∃ q19 : Nat, ∃ q1_20 : Nat, ∃ q21 : Nat, ∃ q1_22 : Nat, ∃ q23 : Nat, ∃ q1_24 : Nat, ∃ q25 : Nat, ∃ q1_26 : Nat, ∃ q27 : Nat, ∃ q1_28 : Nat, ∃ q29 : Nat, ∃ q1_30 : Nat, ∃ q31 : Nat, ∃ q1_32 : Nat, w = [(q1_32, .inl (c 0, 80, .inl (fun _ => 0))), (q31, .inr (7, [.ref q1_32, .int 1, .int 0, .int 0])), (q1_30, .inl (c 0, 80, .inl (fun _ => 0))), (q29, .inr (7, [.ref q1_30, .int 1, .int 0, .int 0])), (q1_28, .inl (c 0, 80, .inl (fun _ => 0))), (q27, .inr (7, [.ref q1_28, .int 1, .int 0, .int 0])), (q1_26, .inl (c 0, 80, .inl (fun _ => 0))), (q25, .inr (7, [.ref q1_26, .int 1, .int 0, .int 0])), (q1_24, .inl (c 0, 80, .inl (fun _ => 0))), (q23, .inr (7, [.ref q1_24, .int 1, .int 0, .int 0])), (q1_22, .inl (c 0, 80, .inl (fun _ => 0))), (q21, .inr (7, [.ref q1_22, .int 1, .int 0, .int 0])), (q1_20, .inl (c 0, 80, .inl (fun _ => 0))), (q19, .inr (7, [.ref q1_20, .int 1, .int 0, .int 0])), (q1_18, .inl (c 0, 80, .inl (fun _ => 0))), (q17, .inr (7, [.ref q1_18, .int 1, .int 0, .int 0])), (q3_16, .inl (c 0, 20, .inl (fun _ => 0))), (q2_16, .inl (c 0, 20, .inl (fun _ => 0))), (q1_16, .inl (c 0, 20, .inl (fun _ => 0))), (q15, .inr (5, [.ref q1_16, .ref q2_16, .ref q3_16, .int 0])), (q4_14, .inl (c 0, 16, .inl (fun _ => 0))), (q3_14, .inl (c 0, 16, .inl (fun _ => 0))), (q2_14, .inl (c 0, 16, .inl (fun _ => 0))), (q1_14, .inl (c 0, 16, .inl (fun _ => 0))), (q13, .inr (0, [.ref q1_14, .ref q2_14, .ref q3_14, .ref q4_14, .int 0, .int 0, .int 0, .int 0])), (q2_12, .inl (c 0, 10, .inl (fun _ => 0))), (q1_12, .inl (c 0, 10, .inl (fun _ => 0))), (q11, .inr (9, [.ref q1_12, .ref q2_12, .int 0, .int 0, .int 0])), (q5_10, .inl (c 0, 8, .inl (fun _ => 0))), (q4_10, .inl (c 0, 8, .inl (fun _ => 0))), (q3_10, .inl (c 0, 8, .inl (fun _ => 0))), ((r2_10 0), .inl (c 0, 8, .inl (fun _ => 0))), ((r2_10 1), .inl (c 0, 8, .inl (fun _ => 0))), ((r2_10 2), .inl (c 0, 8, .inl (fun _ => 0))), ((r2_10 3), .inl (c 0, 8, .inl (fun _ => 0))), ((r2_10 4), .inl (c 0, 8, .inl (fun _ => 0))), ((r2_10 5), .inl (c 0, 8, .inl (fun _ => 0))), ((r2_10 6), .inl (c 0, 8, .inl (fun _ => 0))), ((r2_10 7), .inl (c 0, 8, .inl (fun _ => 0))), (q2_10, .inl (c 4, 8, .inr (.inr (.inr (.inr (fun i => if i < 8 then some (r2_10 i) else none)))))), (q1_10, .inl (c 0, 8, .inl (fun _ => 0))), (q9, .inr (2, [.ref q1_10, .ref q2_10, .ref q3_10, .ref q4_10, .ref q5_10])), (q8, .inl (c 3, 12, .inr (.inr (.inr (.inr (fun _ => none)))))), (q1_7, .inl (c 0, 400, .inl (fun _ => 0))), (q6, .inr (8, [.ref q1_7, .int 0, .int 0, .int 0, .int 0, .int 0, .int 0, .int 0])), (q5_5, .inl (c 0, 4, .inl (fun _ => 0))), (q4_5, .inl (c 0, 4, .inl (fun _ => 0))), (q3_5, .inl (c 0, 30, .inl (fun _ => 0))), (q2_5, .inl (c 0, 30, .inl (fun _ => 0))), (q1_5, .inl (c 0, 30, .inl (fun _ => 0))), (q4, .inr (6, [.ref q1_5, .ref q2_5, .ref q3_5, .ref q4_5, .ref q5_5, .int 0, .int 0])), (q9_3, .inl (c 2, 6, .inr (.inr (.inr (.inr (fun _ => none)))))), (q8_3, .inl (c 0, 30, .inl (fun _ => 0))), (q7_3, .inl (c 0, 30, .inl (fun _ => 0))), (q6_3, .inl (c 0, 30, .inl (fun _ => 0))), (q5_3, .inl (c 0, 30, .inl (fun _ => 0))), (q4_3, .inl (c 0, 4, .inl (fun _ => 0))), (q3_3, .inl (c 0, 4, .inl (fun _ => 0))), (q2_3, .inl (c 0, 4, .inl (upd (upd (upd (upd (fun _ => 0) (0 : Int32).toNatClampNeg (0)) (1 : Int32).toNatClampNeg (10)) (2 : Int32).toNatClampNeg (20)) (3 : Int32).toNatClampNeg (30)))), (q1_3, .inl (c 0, 4, .inl (upd (upd (upd (upd (fun _ => 0) (0 : Int32).toNatClampNeg (100)) (1 : Int32).toNatClampNeg (100)) (2 : Int32).toNatClampNeg (100)) (3 : Int32).toNatClampNeg (100)))), (q2, .inr (1, [.ref q1_3, .ref q2_3, .ref q3_3, .ref q4_3, .int 500, .int 0, .ref q5_3, .ref q6_3, .ref q7_3, .ref q8_3, .int 0, .ref q9_3, .int 0, .int 0])), (q1, .inl (c 1, 8, .inr (.inr (.inr (.inr (va_up (va_up (va_up (va_up (va_up (va_up (va_up (va_up (fun _ => none) (0 : Int32).toNatClampNeg (some q17)) (1 : Int32).toNatClampNeg (some q19)) (2 : Int32).toNatClampNeg (some q21)) (3 : Int32).toNatClampNeg (some q23)) (4 : Int32).toNatClampNeg (some q25)) (5 : Int32).toNatClampNeg (some q27)) (6 : Int32).toNatClampNeg (some q29)) (7 : Int32).toNatClampNeg (some q31))))))), (h0, .inr (10, [.ref q1, .ref q2, .ref q4, .ref q6, .ref q8, .ref q9, .ref q11, .ref q13, .ref q15, .int 0, .int 0]))]
set_option maxRecDepth 100000 in
theorem s_X10_init (l : Launch) (D : va_G) (c : Nat → ClassId) (h0 : Nat) : CSp l yX10_init iX10_init D c [.ref h0] [(h0, .inr (10, [.null, .null, .null, .null, .null, .null, .null, .null, .null, .int 0, .int 0]))] (P_X10_init c h0) := by
  refine CSp.of rfl rfl (Nat.le_of_ble_eq_true rfl) (fun A sz hA => ?_)
  refine c_aload_n dX10_init_0 0 rfl rfl ?_
  refine c_obj kw_25 kw_26 kw_27 dX10_init_1 ⟨by decide, by decide⟩ ?_
  refine c_aload_n dX10_init_4 0 rfl rfl ?_
  refine c_bipush (v := 8) dX10_init_5 (by decide) ?_
  refine c_newR hA (N := 8) (ti := 1) rfl (fun U h => h.2.1) kw_28 (by decide) (by decide) (by decide) ⟨by decide, by decide⟩ dX10_init_7 (fun q1 => ?_)
  refine c_put 1 fl_X10_11 rfl rfl (fun T hT => by cases hT; rfl) ⟨_, rfl⟩ rfl rfl rfl (Nat.le_of_ble_eq_true rfl) dX10_init_10 ?_
  refine c_aload_n dX10_init_13 0 rfl rfl ?_
  refine c_new hA (ci := 1) (fs := [.null, .null, .null, .null, .int 0, .int 0, .null, .null, .null, .null, .int 0, .null, .int 0, .int 0]) gx_X1 tyX1_ok kw_30 kw_31 kw_2 rfl (by intro j hj; rcases (show j = 0 ∨ j = 1 ∨ j = 2 ∨ j = 3 ∨ j = 4 ∨ j = 5 ∨ j = 6 ∨ j = 7 ∨ j = 8 ∨ j = 9 ∨ j = 10 ∨ j = 11 ∨ j = 12 ∨ j = 13 by omega) with rfl | rfl | rfl | rfl | rfl | rfl | rfl | rfl | rfl | rfl | rfl | rfl | rfl | rfl <;> rfl) ⟨by decide, by decide⟩ dX10_init_14 (fun q2 => ?_)
  refine c_dup dX10_init_17 rfl ?_
  refine c_callIN hA (y := yX1_init) (N := iX1_init) (As := []) (wc := [(q2, .inr (1, [.null, .null, .null, .null, .int 0, .int 0, .null, .null, .null, .null, .int 0, .null, .int 0, .int 0]))]) rfl ⟨"CottonWeeks", kn_32, kw_33, kw_2, kw_34, rfl, ⟨by decide, by decide, by decide⟩⟩ ⟨⟨by decide, by decide⟩, by decide, by decide⟩ rfl (Nat.le_of_ble_eq_true rfl) dX10_init_18 (s_X1_init l D c q2) rfl (fun w1 hw1 => ?_)
  obtain ⟨q1_3, q2_3, q3_3, q4_3, q5_3, q6_3, q7_3, q8_3, q9_3, rfl⟩ := hw1
  refine c_put 11 fl_X10_18 rfl rfl (fun T hT => by cases hT; rfl) ⟨_, rfl⟩ rfl rfl rfl (Nat.le_of_ble_eq_true rfl) dX10_init_21 ?_
  refine c_aload_n dX10_init_24 0 rfl rfl ?_
  refine c_new hA (ci := 6) (fs := [.null, .null, .null, .null, .null, .int 0, .int 0]) gx_X6 tyX6_ok kw_90 kw_91 kw_3 rfl (by intro j hj; rcases (show j = 0 ∨ j = 1 ∨ j = 2 ∨ j = 3 ∨ j = 4 ∨ j = 5 ∨ j = 6 by omega) with rfl | rfl | rfl | rfl | rfl | rfl | rfl <;> rfl) ⟨by decide, by decide⟩ dX10_init_25 (fun q4 => ?_)
  refine c_dup dX10_init_28 rfl ?_
  refine c_callIN hA (y := yX6_init) (N := iX6_init) (As := []) (wc := [(q4, .inr (6, [.null, .null, .null, .null, .null, .int 0, .int 0]))]) rfl ⟨"CottonWeeks", kn_92, kw_93, kw_3, kw_94, rfl, ⟨by decide, by decide, by decide⟩⟩ ⟨⟨by decide, by decide⟩, by decide, by decide⟩ rfl (Nat.le_of_ble_eq_true rfl) dX10_init_29 (s_X6_init l D c q4) rfl (fun w1 hw1 => ?_)
  obtain ⟨q1_5, q2_5, q3_5, q4_5, q5_5, rfl⟩ := hw1
  refine c_put 17 fl_X10_25 rfl rfl (fun T hT => by cases hT; rfl) ⟨_, rfl⟩ rfl rfl rfl (Nat.le_of_ble_eq_true rfl) dX10_init_32 ?_
  refine c_aload_n dX10_init_35 0 rfl rfl ?_
  refine c_new hA (ci := 8) (fs := [.null, .int 0, .int 0, .int 0, .int 0, .int 0, .int 0, .int 0]) gx_X8 tyX8_ok kw_120 kw_121 kw_4 rfl (by intro j hj; rcases (show j = 0 ∨ j = 1 ∨ j = 2 ∨ j = 3 ∨ j = 4 ∨ j = 5 ∨ j = 6 ∨ j = 7 by omega) with rfl | rfl | rfl | rfl | rfl | rfl | rfl | rfl <;> rfl) ⟨by decide, by decide⟩ dX10_init_36 (fun q6 => ?_)
  refine c_dup dX10_init_39 rfl ?_
  refine c_callIN hA (y := yX8_init) (N := iX8_init) (As := []) (wc := [(q6, .inr (8, [.null, .int 0, .int 0, .int 0, .int 0, .int 0, .int 0, .int 0]))]) rfl ⟨"CottonWeeks", kn_122, kw_123, kw_4, kw_124, rfl, ⟨by decide, by decide, by decide⟩⟩ ⟨⟨by decide, by decide⟩, by decide, by decide⟩ rfl (Nat.le_of_ble_eq_true rfl) dX10_init_40 (s_X8_init l D c q6) rfl (fun w1 hw1 => ?_)
  obtain ⟨q1_7, rfl⟩ := hw1
  refine c_put 19 fl_X10_32 rfl rfl (fun T hT => by cases hT; rfl) ⟨_, rfl⟩ rfl rfl rfl (Nat.le_of_ble_eq_true rfl) dX10_init_43 ?_
  refine c_aload_n dX10_init_46 0 rfl rfl ?_
  refine c_bipush (v := 12) dX10_init_47 (by decide) ?_
  refine c_newR hA (N := 12) (ti := 3) rfl (fun U h => h.2.2.2.1) kw_154 (by decide) (by decide) (by decide) ⟨by decide, by decide⟩ dX10_init_49 (fun q8 => ?_)
  refine c_put 20 fl_X10_38 rfl rfl (fun T hT => by cases hT; rfl) ⟨_, rfl⟩ rfl rfl rfl (Nat.le_of_ble_eq_true rfl) dX10_init_52 ?_
  refine c_aload_n dX10_init_55 0 rfl rfl ?_
  refine c_new hA (ci := 2) (fs := [.null, .null, .null, .null, .null]) gx_X2 tyX2_ok kw_156 kw_157 kw_5 rfl (by intro j hj; rcases (show j = 0 ∨ j = 1 ∨ j = 2 ∨ j = 3 ∨ j = 4 by omega) with rfl | rfl | rfl | rfl | rfl <;> rfl) ⟨by decide, by decide⟩ dX10_init_56 (fun q9 => ?_)
  refine c_dup dX10_init_59 rfl ?_
  refine c_callIN hA (y := yX2_init) (N := iX2_init) (As := []) (wc := [(q9, .inr (2, [.null, .null, .null, .null, .null]))]) rfl ⟨"CottonWeeks", kn_158, kw_159, kw_5, kw_160, rfl, ⟨by decide, by decide, by decide⟩⟩ ⟨⟨by decide, by decide⟩, by decide, by decide⟩ rfl (Nat.le_of_ble_eq_true rfl) dX10_init_60 (s_X2_init l D c q9) rfl (fun w1 hw1 => ?_)
  obtain ⟨q1_10, q2_10, r2_10, q3_10, q4_10, q5_10, rfl⟩ := hw1
  refine c_put 34 fl_X10_45 rfl rfl (fun T hT => by cases hT; rfl) ⟨_, rfl⟩ rfl rfl rfl (Nat.le_of_ble_eq_true rfl) dX10_init_63 ?_
  refine c_aload_n dX10_init_66 0 rfl rfl ?_
  refine c_new hA (ci := 9) (fs := [.null, .null, .int 0, .int 0, .int 0]) gx_X9 tyX9_ok kw_181 kw_182 kw_6 rfl (by intro j hj; rcases (show j = 0 ∨ j = 1 ∨ j = 2 ∨ j = 3 ∨ j = 4 by omega) with rfl | rfl | rfl | rfl | rfl <;> rfl) ⟨by decide, by decide⟩ dX10_init_67 (fun q11 => ?_)
  refine c_dup dX10_init_70 rfl ?_
  refine c_callIN hA (y := yX9_init) (N := iX9_init) (As := []) (wc := [(q11, .inr (9, [.null, .null, .int 0, .int 0, .int 0]))]) rfl ⟨"CottonWeeks", kn_183, kw_184, kw_6, kw_185, rfl, ⟨by decide, by decide, by decide⟩⟩ ⟨⟨by decide, by decide⟩, by decide, by decide⟩ rfl (Nat.le_of_ble_eq_true rfl) dX10_init_71 (s_X9_init l D c q11) rfl (fun w1 hw1 => ?_)
  obtain ⟨q1_12, q2_12, rfl⟩ := hw1
  refine c_put 37 fl_X10_52 rfl rfl (fun T hT => by cases hT; rfl) ⟨_, rfl⟩ rfl rfl rfl (Nat.le_of_ble_eq_true rfl) dX10_init_74 ?_
  refine c_aload_n dX10_init_77 0 rfl rfl ?_
  refine c_new hA (ci := 0) (fs := [.null, .null, .null, .null, .int 0, .int 0, .int 0, .int 0]) gx_X0 tyX0_ok kw_203 kw_204 kw_7 rfl (by intro j hj; rcases (show j = 0 ∨ j = 1 ∨ j = 2 ∨ j = 3 ∨ j = 4 ∨ j = 5 ∨ j = 6 ∨ j = 7 by omega) with rfl | rfl | rfl | rfl | rfl | rfl | rfl | rfl <;> rfl) ⟨by decide, by decide⟩ dX10_init_78 (fun q13 => ?_)
  refine c_dup dX10_init_81 rfl ?_
  refine c_callIN hA (y := yX0_init) (N := iX0_init) (As := []) (wc := [(q13, .inr (0, [.null, .null, .null, .null, .int 0, .int 0, .int 0, .int 0]))]) rfl ⟨"CottonWeeks", kn_205, kw_206, kw_7, kw_207, rfl, ⟨by decide, by decide, by decide⟩⟩ ⟨⟨by decide, by decide⟩, by decide, by decide⟩ rfl (Nat.le_of_ble_eq_true rfl) dX10_init_82 (s_X0_init l D c q13) rfl (fun w1 hw1 => ?_)
  obtain ⟨q1_14, q2_14, q3_14, q4_14, rfl⟩ := hw1
  refine c_put 42 fl_X10_59 rfl rfl (fun T hT => by cases hT; rfl) ⟨_, rfl⟩ rfl rfl rfl (Nat.le_of_ble_eq_true rfl) dX10_init_85 ?_
  refine c_aload_n dX10_init_88 0 rfl rfl ?_
  refine c_new hA (ci := 5) (fs := [.null, .null, .null, .int 0]) gx_X5 tyX5_ok kw_239 kw_240 kw_8 rfl (by intro j hj; rcases (show j = 0 ∨ j = 1 ∨ j = 2 ∨ j = 3 by omega) with rfl | rfl | rfl | rfl <;> rfl) ⟨by decide, by decide⟩ dX10_init_89 (fun q15 => ?_)
  refine c_dup dX10_init_92 rfl ?_
  refine c_callIN hA (y := yX5_init) (N := iX5_init) (As := []) (wc := [(q15, .inr (5, [.null, .null, .null, .int 0]))]) rfl ⟨"CottonWeeks", kn_241, kw_242, kw_8, kw_243, rfl, ⟨by decide, by decide, by decide⟩⟩ ⟨⟨by decide, by decide⟩, by decide, by decide⟩ rfl (Nat.le_of_ble_eq_true rfl) dX10_init_93 (s_X5_init l D c q15) rfl (fun w1 hw1 => ?_)
  obtain ⟨q1_16, q2_16, q3_16, rfl⟩ := hw1
  refine c_put 46 fl_X10_66 rfl rfl (fun T hT => by cases hT; rfl) ⟨_, rfl⟩ rfl rfl rfl (Nat.le_of_ble_eq_true rfl) dX10_init_96 ?_
  refine c_iconst (v := 0) dX10_init_99 (by decide) ?_
  refine c_istore_n [(1, .int 0), (0, .ref h0)] dX10_init_100 rfl (by decide) rfl ?_
  refine c_iload_n dX10_init_101 0 rfl rfl ?_
  refine c_bipush (v := 8) dX10_init_102 (by decide) ?_
  refine c_icmp_ge 126 dX10_init_104 (by decide) (fun h => absurd h (by decide)) (fun _ => ?_)
  refine c_aload_n dX10_init_107 1 rfl rfl ?_
  refine c_get (.ref q1) 46 fl_X10_11 rfl rfl rfl dX10_init_108 ?_
  refine c_iload_n dX10_init_111 0 rfl rfl ?_
  refine c_new hA (ci := 7) (fs := [.null, .int 0, .int 0, .int 0]) gx_X7 tyX7_ok kw_28 kw_258 kw_9 rfl (by intro j hj; rcases (show j = 0 ∨ j = 1 ∨ j = 2 ∨ j = 3 by omega) with rfl | rfl | rfl | rfl <;> rfl) ⟨by decide, by decide⟩ dX10_init_112 (fun q17 => ?_)
  refine c_dup dX10_init_115 rfl ?_
  refine c_callIN hA (y := yX7_init) (N := iX7_init) (As := []) (wc := [(q17, .inr (7, [.null, .int 0, .int 0, .int 0]))]) rfl ⟨"CottonWeeks", kn_259, kw_260, kw_9, kw_261, rfl, ⟨by decide, by decide, by decide⟩⟩ ⟨⟨by decide, by decide⟩, by decide, by decide⟩ rfl (Nat.le_of_ble_eq_true rfl) dX10_init_116 (s_X7_init l D c q17) rfl (fun w1 hw1 => ?_)
  obtain ⟨q1_18, rfl⟩ := hw1
  refine c_aast (ti := 1) 47 1 rfl rfl rfl rfl (inb_vp rfl) dX10_init_119 ?_
  refine c_iinc [(1, .int 1), (0, .ref h0)] dX10_init_120 0 rfl (by decide) (by decide) rfl ?_
  refine c_goto 101 dX10_init_123 (by decide) ?_
  refine c_iload_n dX10_init_101 0 rfl rfl ?_
  refine c_bipush (v := 8) dX10_init_102 (by decide) ?_
  refine c_icmp_ge 126 dX10_init_104 (by decide) (fun h => absurd h (by decide)) (fun _ => ?_)
  refine c_aload_n dX10_init_107 1 rfl rfl ?_
  refine c_get (.ref q1) 48 fl_X10_11 rfl rfl rfl dX10_init_108 ?_
  refine c_iload_n dX10_init_111 0 rfl rfl ?_
  refine c_new hA (ci := 7) (fs := [.null, .int 0, .int 0, .int 0]) gx_X7 tyX7_ok kw_28 kw_258 kw_9 rfl (by intro j hj; rcases (show j = 0 ∨ j = 1 ∨ j = 2 ∨ j = 3 by omega) with rfl | rfl | rfl | rfl <;> rfl) ⟨by decide, by decide⟩ dX10_init_112 (fun q19 => ?_)
  refine c_dup dX10_init_115 rfl ?_
  refine c_callIN hA (y := yX7_init) (N := iX7_init) (As := []) (wc := [(q19, .inr (7, [.null, .int 0, .int 0, .int 0]))]) rfl ⟨"CottonWeeks", kn_259, kw_260, kw_9, kw_261, rfl, ⟨by decide, by decide, by decide⟩⟩ ⟨⟨by decide, by decide⟩, by decide, by decide⟩ rfl (Nat.le_of_ble_eq_true rfl) dX10_init_116 (s_X7_init l D c q19) rfl (fun w1 hw1 => ?_)
  obtain ⟨q1_20, rfl⟩ := hw1
  refine c_aast (ti := 1) 49 1 rfl rfl rfl rfl (inb_vp rfl) dX10_init_119 ?_
  refine c_iinc [(1, .int 2), (0, .ref h0)] dX10_init_120 0 rfl (by decide) (by decide) rfl ?_
  refine c_goto 101 dX10_init_123 (by decide) ?_
  refine c_iload_n dX10_init_101 0 rfl rfl ?_
  refine c_bipush (v := 8) dX10_init_102 (by decide) ?_
  refine c_icmp_ge 126 dX10_init_104 (by decide) (fun h => absurd h (by decide)) (fun _ => ?_)
  refine c_aload_n dX10_init_107 1 rfl rfl ?_
  refine c_get (.ref q1) 50 fl_X10_11 rfl rfl rfl dX10_init_108 ?_
  refine c_iload_n dX10_init_111 0 rfl rfl ?_
  refine c_new hA (ci := 7) (fs := [.null, .int 0, .int 0, .int 0]) gx_X7 tyX7_ok kw_28 kw_258 kw_9 rfl (by intro j hj; rcases (show j = 0 ∨ j = 1 ∨ j = 2 ∨ j = 3 by omega) with rfl | rfl | rfl | rfl <;> rfl) ⟨by decide, by decide⟩ dX10_init_112 (fun q21 => ?_)
  refine c_dup dX10_init_115 rfl ?_
  refine c_callIN hA (y := yX7_init) (N := iX7_init) (As := []) (wc := [(q21, .inr (7, [.null, .int 0, .int 0, .int 0]))]) rfl ⟨"CottonWeeks", kn_259, kw_260, kw_9, kw_261, rfl, ⟨by decide, by decide, by decide⟩⟩ ⟨⟨by decide, by decide⟩, by decide, by decide⟩ rfl (Nat.le_of_ble_eq_true rfl) dX10_init_116 (s_X7_init l D c q21) rfl (fun w1 hw1 => ?_)
  obtain ⟨q1_22, rfl⟩ := hw1
  refine c_aast (ti := 1) 51 1 rfl rfl rfl rfl (inb_vp rfl) dX10_init_119 ?_
  refine c_iinc [(1, .int 3), (0, .ref h0)] dX10_init_120 0 rfl (by decide) (by decide) rfl ?_
  refine c_goto 101 dX10_init_123 (by decide) ?_
  refine c_iload_n dX10_init_101 0 rfl rfl ?_
  refine c_bipush (v := 8) dX10_init_102 (by decide) ?_
  refine c_icmp_ge 126 dX10_init_104 (by decide) (fun h => absurd h (by decide)) (fun _ => ?_)
  refine c_aload_n dX10_init_107 1 rfl rfl ?_
  refine c_get (.ref q1) 52 fl_X10_11 rfl rfl rfl dX10_init_108 ?_
  refine c_iload_n dX10_init_111 0 rfl rfl ?_
  refine c_new hA (ci := 7) (fs := [.null, .int 0, .int 0, .int 0]) gx_X7 tyX7_ok kw_28 kw_258 kw_9 rfl (by intro j hj; rcases (show j = 0 ∨ j = 1 ∨ j = 2 ∨ j = 3 by omega) with rfl | rfl | rfl | rfl <;> rfl) ⟨by decide, by decide⟩ dX10_init_112 (fun q23 => ?_)
  refine c_dup dX10_init_115 rfl ?_
  refine c_callIN hA (y := yX7_init) (N := iX7_init) (As := []) (wc := [(q23, .inr (7, [.null, .int 0, .int 0, .int 0]))]) rfl ⟨"CottonWeeks", kn_259, kw_260, kw_9, kw_261, rfl, ⟨by decide, by decide, by decide⟩⟩ ⟨⟨by decide, by decide⟩, by decide, by decide⟩ rfl (Nat.le_of_ble_eq_true rfl) dX10_init_116 (s_X7_init l D c q23) rfl (fun w1 hw1 => ?_)
  obtain ⟨q1_24, rfl⟩ := hw1
  refine c_aast (ti := 1) 53 1 rfl rfl rfl rfl (inb_vp rfl) dX10_init_119 ?_
  refine c_iinc [(1, .int 4), (0, .ref h0)] dX10_init_120 0 rfl (by decide) (by decide) rfl ?_
  refine c_goto 101 dX10_init_123 (by decide) ?_
  refine c_iload_n dX10_init_101 0 rfl rfl ?_
  refine c_bipush (v := 8) dX10_init_102 (by decide) ?_
  refine c_icmp_ge 126 dX10_init_104 (by decide) (fun h => absurd h (by decide)) (fun _ => ?_)
  refine c_aload_n dX10_init_107 1 rfl rfl ?_
  refine c_get (.ref q1) 54 fl_X10_11 rfl rfl rfl dX10_init_108 ?_
  refine c_iload_n dX10_init_111 0 rfl rfl ?_
  refine c_new hA (ci := 7) (fs := [.null, .int 0, .int 0, .int 0]) gx_X7 tyX7_ok kw_28 kw_258 kw_9 rfl (by intro j hj; rcases (show j = 0 ∨ j = 1 ∨ j = 2 ∨ j = 3 by omega) with rfl | rfl | rfl | rfl <;> rfl) ⟨by decide, by decide⟩ dX10_init_112 (fun q25 => ?_)
  refine c_dup dX10_init_115 rfl ?_
  refine c_callIN hA (y := yX7_init) (N := iX7_init) (As := []) (wc := [(q25, .inr (7, [.null, .int 0, .int 0, .int 0]))]) rfl ⟨"CottonWeeks", kn_259, kw_260, kw_9, kw_261, rfl, ⟨by decide, by decide, by decide⟩⟩ ⟨⟨by decide, by decide⟩, by decide, by decide⟩ rfl (Nat.le_of_ble_eq_true rfl) dX10_init_116 (s_X7_init l D c q25) rfl (fun w1 hw1 => ?_)
  obtain ⟨q1_26, rfl⟩ := hw1
  refine c_aast (ti := 1) 55 1 rfl rfl rfl rfl (inb_vp rfl) dX10_init_119 ?_
  refine c_iinc [(1, .int 5), (0, .ref h0)] dX10_init_120 0 rfl (by decide) (by decide) rfl ?_
  refine c_goto 101 dX10_init_123 (by decide) ?_
  refine c_iload_n dX10_init_101 0 rfl rfl ?_
  refine c_bipush (v := 8) dX10_init_102 (by decide) ?_
  refine c_icmp_ge 126 dX10_init_104 (by decide) (fun h => absurd h (by decide)) (fun _ => ?_)
  refine c_aload_n dX10_init_107 1 rfl rfl ?_
  refine c_get (.ref q1) 56 fl_X10_11 rfl rfl rfl dX10_init_108 ?_
  refine c_iload_n dX10_init_111 0 rfl rfl ?_
  refine c_new hA (ci := 7) (fs := [.null, .int 0, .int 0, .int 0]) gx_X7 tyX7_ok kw_28 kw_258 kw_9 rfl (by intro j hj; rcases (show j = 0 ∨ j = 1 ∨ j = 2 ∨ j = 3 by omega) with rfl | rfl | rfl | rfl <;> rfl) ⟨by decide, by decide⟩ dX10_init_112 (fun q27 => ?_)
  refine c_dup dX10_init_115 rfl ?_
  refine c_callIN hA (y := yX7_init) (N := iX7_init) (As := []) (wc := [(q27, .inr (7, [.null, .int 0, .int 0, .int 0]))]) rfl ⟨"CottonWeeks", kn_259, kw_260, kw_9, kw_261, rfl, ⟨by decide, by decide, by decide⟩⟩ ⟨⟨by decide, by decide⟩, by decide, by decide⟩ rfl (Nat.le_of_ble_eq_true rfl) dX10_init_116 (s_X7_init l D c q27) rfl (fun w1 hw1 => ?_)
  obtain ⟨q1_28, rfl⟩ := hw1
  refine c_aast (ti := 1) 57 1 rfl rfl rfl rfl (inb_vp rfl) dX10_init_119 ?_
  refine c_iinc [(1, .int 6), (0, .ref h0)] dX10_init_120 0 rfl (by decide) (by decide) rfl ?_
  refine c_goto 101 dX10_init_123 (by decide) ?_
  refine c_iload_n dX10_init_101 0 rfl rfl ?_
  refine c_bipush (v := 8) dX10_init_102 (by decide) ?_
  refine c_icmp_ge 126 dX10_init_104 (by decide) (fun h => absurd h (by decide)) (fun _ => ?_)
  refine c_aload_n dX10_init_107 1 rfl rfl ?_
  refine c_get (.ref q1) 58 fl_X10_11 rfl rfl rfl dX10_init_108 ?_
  refine c_iload_n dX10_init_111 0 rfl rfl ?_
  refine c_new hA (ci := 7) (fs := [.null, .int 0, .int 0, .int 0]) gx_X7 tyX7_ok kw_28 kw_258 kw_9 rfl (by intro j hj; rcases (show j = 0 ∨ j = 1 ∨ j = 2 ∨ j = 3 by omega) with rfl | rfl | rfl | rfl <;> rfl) ⟨by decide, by decide⟩ dX10_init_112 (fun q29 => ?_)
  refine c_dup dX10_init_115 rfl ?_
  refine c_callIN hA (y := yX7_init) (N := iX7_init) (As := []) (wc := [(q29, .inr (7, [.null, .int 0, .int 0, .int 0]))]) rfl ⟨"CottonWeeks", kn_259, kw_260, kw_9, kw_261, rfl, ⟨by decide, by decide, by decide⟩⟩ ⟨⟨by decide, by decide⟩, by decide, by decide⟩ rfl (Nat.le_of_ble_eq_true rfl) dX10_init_116 (s_X7_init l D c q29) rfl (fun w1 hw1 => ?_)
  obtain ⟨q1_30, rfl⟩ := hw1
  refine c_aast (ti := 1) 59 1 rfl rfl rfl rfl (inb_vp rfl) dX10_init_119 ?_
  refine c_iinc [(1, .int 7), (0, .ref h0)] dX10_init_120 0 rfl (by decide) (by decide) rfl ?_
  refine c_goto 101 dX10_init_123 (by decide) ?_
  refine c_iload_n dX10_init_101 0 rfl rfl ?_
  refine c_bipush (v := 8) dX10_init_102 (by decide) ?_
  refine c_icmp_ge 126 dX10_init_104 (by decide) (fun h => absurd h (by decide)) (fun _ => ?_)
  refine c_aload_n dX10_init_107 1 rfl rfl ?_
  refine c_get (.ref q1) 60 fl_X10_11 rfl rfl rfl dX10_init_108 ?_
  refine c_iload_n dX10_init_111 0 rfl rfl ?_
  refine c_new hA (ci := 7) (fs := [.null, .int 0, .int 0, .int 0]) gx_X7 tyX7_ok kw_28 kw_258 kw_9 rfl (by intro j hj; rcases (show j = 0 ∨ j = 1 ∨ j = 2 ∨ j = 3 by omega) with rfl | rfl | rfl | rfl <;> rfl) ⟨by decide, by decide⟩ dX10_init_112 (fun q31 => ?_)
  refine c_dup dX10_init_115 rfl ?_
  refine c_callIN hA (y := yX7_init) (N := iX7_init) (As := []) (wc := [(q31, .inr (7, [.null, .int 0, .int 0, .int 0]))]) rfl ⟨"CottonWeeks", kn_259, kw_260, kw_9, kw_261, rfl, ⟨by decide, by decide, by decide⟩⟩ ⟨⟨by decide, by decide⟩, by decide, by decide⟩ rfl (Nat.le_of_ble_eq_true rfl) dX10_init_116 (s_X7_init l D c q31) rfl (fun w1 hw1 => ?_)
  obtain ⟨q1_32, rfl⟩ := hw1
  refine c_aast (ti := 1) 61 1 rfl rfl rfl rfl (inb_vp rfl) dX10_init_119 ?_
  refine c_iinc [(1, .int 8), (0, .ref h0)] dX10_init_120 0 rfl (by decide) (by decide) rfl ?_
  refine c_goto 101 dX10_init_123 (by decide) ?_
  refine c_iload_n dX10_init_101 0 rfl rfl ?_
  refine c_bipush (v := 8) dX10_init_102 (by decide) ?_
  refine c_icmp_ge 126 dX10_init_104 (by decide) (fun _ => ?_) (fun h => absurd (by decide) h)
  exact c_ret rfl (by decide) (by decide) dX10_init_126 ⟨q1, q2, q1_3, q2_3, q3_3, q4_3, q5_3, q6_3, q7_3, q8_3, q9_3, q4, q1_5, q2_5, q3_5, q4_5, q5_5, q6, q1_7, q8, q9, q1_10, q2_10, r2_10, q3_10, q4_10, q5_10, q11, q1_12, q2_12, q13, q1_14, q2_14, q3_14, q4_14, q15, q1_16, q2_16, q3_16, q17, q1_18, q19, q1_20, q21, q1_22, q23, q1_24, q25, q1_26, q27, q1_28, q29, q1_30, q31, q1_32, rfl⟩

