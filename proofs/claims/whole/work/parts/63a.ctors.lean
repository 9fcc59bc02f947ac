/-! County and Debts: by program -/
theorem fl_X1_15 : FL RX1 15 4 1 (.array .int) true := ⟨1, 14, RX1, TX1, tyX1, rfl, by decide, rfl, gx_X1, kw_40, tyX1_ok, nmX1, rfl, rfl⟩
abbrev iX1_init : MI := (cX1_init, RX1, 1, none, 1, 9, 142)
def P_X1_init (c : Nat → ClassId) (h0 : Nat) (w : va_W) : Prop := ∃ q1 : Nat, ∃ q2 : Nat, ∃ q3 : Nat, ∃ q4 : Nat, ∃ q5 : Nat, ∃ q6 : Nat, ∃ q7 : Nat, ∃ q8 : Nat, ∃ q9 : Nat, w = [(q9, .inl (c 2, 6, .inr (.inr (.inr (.inr (fun _ => none)))))), (q8, .inl (c 0, 30, .inl (fun _ => 0))), (q7, .inl (c 0, 30, .inl (fun _ => 0))), (q6, .inl (c 0, 30, .inl (fun _ => 0))), (q5, .inl (c 0, 30, .inl (fun _ => 0))), (q4, .inl (c 0, 4, .inl (fun _ => 0))), (q3, .inl (c 0, 4, .inl (fun _ => 0))), (q2, .inl (c 0, 4, .inl (upd (upd (upd (upd (fun _ => 0) (0 : Int32).toNatClampNeg (0)) (1 : Int32).toNatClampNeg (10)) (2 : Int32).toNatClampNeg (20)) (3 : Int32).toNatClampNeg (30)))), (q1, .inl (c 0, 4, .inl (upd (upd (upd (upd (fun _ => 0) (0 : Int32).toNatClampNeg (100)) (1 : Int32).toNatClampNeg (100)) (2 : Int32).toNatClampNeg (100)) (3 : Int32).toNatClampNeg (100)))), (h0, .inr (1, [.ref q1, .ref q2, .ref q3, .ref q4, .int 500, .int 0, .ref q5, .ref q6, .ref q7, .ref q8, .int 0, .ref q9, .int 0, .int 0]))]
set_option maxHeartbeats 8000000 in
set_option maxRecDepth 100000 in
theorem s_X1_init (l : Launch) (D : va_G) (c : Nat → ClassId) (h0 : Nat) : CSp l yX1_init iX1_init D c [.ref h0] [(h0, .inr (1, [.null, .null, .null, .null, .int 0, .int 0, .null, .null, .null, .null, .int 0, .null, .int 0, .int 0]))] (P_X1_init c h0) := by
  refine CSp.of rfl rfl (Nat.le_of_ble_eq_true rfl) (fun A sz hA => ?_)
  refine c_aload_n dX1_init_0 0 rfl rfl ?_
  refine c_obj kw_35 kw_26 kw_27 dX1_init_1 ⟨by decide, by decide⟩ ?_
  refine c_aload_n dX1_init_4 0 rfl rfl ?_
  refine c_iconst (v := 4) dX1_init_5 (by decide) ?_
  refine c_newI hA (N := 4) kw_89 (by decide) (by decide) (by decide) ⟨by decide, by decide⟩ dX1_init_6 (fun q1 => ?_)
  refine c_dup dX1_init_8 rfl ?_
  refine c_iconst (v := 0) dX1_init_9 (by decide) ?_
  refine c_bipush (v := 100) dX1_init_10 (by decide) ?_
  refine c_iast 0 rfl (inb_vp rfl) dX1_init_12 ?_
  refine c_dup dX1_init_13 rfl ?_
  refine c_iconst (v := 1) dX1_init_14 (by decide) ?_
  refine c_bipush (v := 100) dX1_init_15 (by decide) ?_
  refine c_iast 0 rfl (inb_vp rfl) dX1_init_17 ?_
  refine c_dup dX1_init_18 rfl ?_
  refine c_iconst (v := 2) dX1_init_19 (by decide) ?_
  refine c_bipush (v := 100) dX1_init_20 (by decide) ?_
  refine c_iast 0 rfl (inb_vp rfl) dX1_init_22 ?_
  refine c_dup dX1_init_23 rfl ?_
  refine c_iconst (v := 3) dX1_init_24 (by decide) ?_
  refine c_bipush (v := 100) dX1_init_25 (by decide) ?_
  refine c_iast 0 rfl (inb_vp rfl) dX1_init_27 ?_
  refine c_put 1 fl_X1_9 rfl rfl (fun T hT => by cases hT; rfl) ⟨_, rfl⟩ rfl rfl rfl (Nat.le_of_ble_eq_true rfl) dX1_init_28 ?_
  refine c_aload_n dX1_init_31 0 rfl rfl ?_
  refine c_iconst (v := 4) dX1_init_32 (by decide) ?_
  refine c_newI hA (N := 4) kw_89 (by decide) (by decide) (by decide) ⟨by decide, by decide⟩ dX1_init_33 (fun q2 => ?_)
  refine c_dup dX1_init_35 rfl ?_
  refine c_iconst (v := 0) dX1_init_36 (by decide) ?_
  refine c_iconst (v := 0) dX1_init_37 (by decide) ?_
  refine c_iast 0 rfl (inb_vp rfl) dX1_init_38 ?_
  refine c_dup dX1_init_39 rfl ?_
  refine c_iconst (v := 1) dX1_init_40 (by decide) ?_
  refine c_bipush (v := 10) dX1_init_41 (by decide) ?_
  refine c_iast 0 rfl (inb_vp rfl) dX1_init_43 ?_
  refine c_dup dX1_init_44 rfl ?_
  refine c_iconst (v := 2) dX1_init_45 (by decide) ?_
  refine c_bipush (v := 20) dX1_init_46 (by decide) ?_
  refine c_iast 0 rfl (inb_vp rfl) dX1_init_48 ?_
  refine c_dup dX1_init_49 rfl ?_
  refine c_iconst (v := 3) dX1_init_50 (by decide) ?_
  refine c_bipush (v := 30) dX1_init_51 (by decide) ?_
  refine c_iast 0 rfl (inb_vp rfl) dX1_init_53 ?_
  refine c_put 2 fl_X1_15 rfl rfl (fun T hT => by cases hT; rfl) ⟨_, rfl⟩ rfl rfl rfl (Nat.le_of_ble_eq_true rfl) dX1_init_54 ?_
  refine c_aload_n dX1_init_57 0 rfl rfl ?_
  refine c_iconst (v := 4) dX1_init_58 (by decide) ?_
  refine c_newI hA (N := 4) kw_89 (by decide) (by decide) (by decide) ⟨by decide, by decide⟩ dX1_init_59 (fun q3 => ?_)
  refine c_put 3 fl_X1_18 rfl rfl (fun T hT => by cases hT; rfl) ⟨_, rfl⟩ rfl rfl rfl (Nat.le_of_ble_eq_true rfl) dX1_init_61 ?_
  refine c_aload_n dX1_init_64 0 rfl rfl ?_
  refine c_iconst (v := 4) dX1_init_65 (by decide) ?_
  refine c_newI hA (N := 4) kw_89 (by decide) (by decide) (by decide) ⟨by decide, by decide⟩ dX1_init_66 (fun q4 => ?_)
  refine c_put 4 fl_X1_21 rfl rfl (fun T hT => by cases hT; rfl) ⟨_, rfl⟩ rfl rfl rfl (Nat.le_of_ble_eq_true rfl) dX1_init_68 ?_
  refine c_aload_n dX1_init_71 0 rfl rfl ?_
  refine c_sipush (v := 500) dX1_init_72 (by decide) ?_
  refine c_put 4 fl_X1_24 rfl rfl (fun T hT => by cases hT; rfl) ⟨_, rfl⟩ rfl rfl rfl (Nat.le_of_ble_eq_true rfl) dX1_init_75 ?_
  refine c_aload_n dX1_init_78 0 rfl rfl ?_
  refine c_bipush (v := 30) dX1_init_79 (by decide) ?_
  refine c_newI hA (N := 30) kw_89 (by decide) (by decide) (by decide) ⟨by decide, by decide⟩ dX1_init_81 (fun q5 => ?_)
  refine c_put 5 fl_X1_28 rfl rfl (fun T hT => by cases hT; rfl) ⟨_, rfl⟩ rfl rfl rfl (Nat.le_of_ble_eq_true rfl) dX1_init_83 ?_
  refine c_aload_n dX1_init_86 0 rfl rfl ?_
  refine c_bipush (v := 30) dX1_init_87 (by decide) ?_
  refine c_newI hA (N := 30) kw_89 (by decide) (by decide) (by decide) ⟨by decide, by decide⟩ dX1_init_89 (fun q6 => ?_)
  refine c_put 6 fl_X1_31 rfl rfl (fun T hT => by cases hT; rfl) ⟨_, rfl⟩ rfl rfl rfl (Nat.le_of_ble_eq_true rfl) dX1_init_91 ?_
  refine c_aload_n dX1_init_94 0 rfl rfl ?_
  refine c_bipush (v := 30) dX1_init_95 (by decide) ?_
  refine c_newI hA (N := 30) kw_89 (by decide) (by decide) (by decide) ⟨by decide, by decide⟩ dX1_init_97 (fun q7 => ?_)
  refine c_put 7 fl_X1_34 rfl rfl (fun T hT => by cases hT; rfl) ⟨_, rfl⟩ rfl rfl rfl (Nat.le_of_ble_eq_true rfl) dX1_init_99 ?_
  refine c_aload_n dX1_init_102 0 rfl rfl ?_
  refine c_bipush (v := 30) dX1_init_103 (by decide) ?_
  refine c_newI hA (N := 30) kw_89 (by decide) (by decide) (by decide) ⟨by decide, by decide⟩ dX1_init_105 (fun q8 => ?_)
  refine c_put 8 fl_X1_37 rfl rfl (fun T hT => by cases hT; rfl) ⟨_, rfl⟩ rfl rfl rfl (Nat.le_of_ble_eq_true rfl) dX1_init_107 ?_
  refine c_aload_n dX1_init_110 0 rfl rfl ?_
  refine c_bipush (v := 6) dX1_init_111 (by decide) ?_
  refine c_newR hA (N := 6) (ti := 2) rfl (fun U h => h.2.2.1) kw_36 (by decide) (by decide) (by decide) ⟨by decide, by decide⟩ dX1_init_113 (fun q9 => ?_)
  refine c_put 9 fl_X1_42 rfl rfl (fun T hT => by cases hT; rfl) ⟨_, rfl⟩ rfl rfl rfl (Nat.le_of_ble_eq_true rfl) dX1_init_116 ?_
  exact c_ret rfl (by decide) (by decide) dX1_init_119 ⟨q1, q2, q3, q4, q5, q6, q7, q8, q9, rfl⟩

abbrev iX2_init : MI := (cX2_init, RX2, 1, none, 1, 13, 104)
def P_X2_init (c : Nat → ClassId) (h0 : Nat) (w : va_W) : Prop := ∃ q1 : Nat, ∃ q2 : Nat, ∃ r2 : Nat → Nat, ∃ q3 : Nat, ∃ q4 : Nat, ∃ q5 : Nat, w = [(q5, .inl (c 0, 8, .inl (fun _ => 0))), (q4, .inl (c 0, 8, .inl (fun _ => 0))), (q3, .inl (c 0, 8, .inl (fun _ => 0))), ((r2 0), .inl (c 0, 8, .inl (fun _ => 0))), ((r2 1), .inl (c 0, 8, .inl (fun _ => 0))), ((r2 2), .inl (c 0, 8, .inl (fun _ => 0))), ((r2 3), .inl (c 0, 8, .inl (fun _ => 0))), ((r2 4), .inl (c 0, 8, .inl (fun _ => 0))), ((r2 5), .inl (c 0, 8, .inl (fun _ => 0))), ((r2 6), .inl (c 0, 8, .inl (fun _ => 0))), ((r2 7), .inl (c 0, 8, .inl (fun _ => 0))), (q2, .inl (c 4, 8, .inr (.inr (.inr (.inr (fun i => if i < 8 then some (r2 i) else none)))))), (q1, .inl (c 0, 8, .inl (fun _ => 0))), (h0, .inr (2, [.ref q1, .ref q2, .ref q3, .ref q4, .ref q5]))]
set_option maxHeartbeats 8000000 in
set_option maxRecDepth 100000 in
theorem s_X2_init (l : Launch) (D : va_G) (c : Nat → ClassId) (h0 : Nat) : CSp l yX2_init iX2_init D c [.ref h0] [(h0, .inr (2, [.null, .null, .null, .null, .null]))] (P_X2_init c h0) := by
  refine CSp.of rfl rfl (Nat.le_of_ble_eq_true rfl) (fun A sz hA => ?_)
  refine c_aload_n dX2_init_0 0 rfl rfl ?_
  refine c_obj kw_161 kw_26 kw_27 dX2_init_1 ⟨by decide, by decide⟩ ?_
  refine c_aload_n dX2_init_4 0 rfl rfl ?_
  refine c_bipush (v := 8) dX2_init_5 (by decide) ?_
  refine c_newI hA (N := 8) kw_89 (by decide) (by decide) (by decide) ⟨by decide, by decide⟩ dX2_init_7 (fun q1 => ?_)
  refine c_put 1 fl_X2_9 rfl rfl (fun T hT => by cases hT; rfl) ⟨_, rfl⟩ rfl rfl rfl (Nat.le_of_ble_eq_true rfl) dX2_init_9 ?_
  refine c_aload_n dX2_init_12 0 rfl rfl ?_
  refine c_bipush (v := 8) dX2_init_13 (by decide) ?_
  refine c_bipush (v := 8) dX2_init_15 (by decide) ?_
  refine c_mna hA kw_162 kw_89 ⟨by decide, by decide⟩ dX2_init_17 (fun q2 r2 => ?_)
  refine c_put 10 fl_X2_17 rfl rfl (fun T hT => by cases hT; rfl) ⟨_, rfl⟩ rfl rfl rfl (Nat.le_of_ble_eq_true rfl) dX2_init_21 ?_
  refine c_aload_n dX2_init_24 0 rfl rfl ?_
  refine c_bipush (v := 8) dX2_init_25 (by decide) ?_
  refine c_newI hA (N := 8) kw_89 (by decide) (by decide) (by decide) ⟨by decide, by decide⟩ dX2_init_27 (fun q3 => ?_)
  refine c_put 11 fl_X2_20 rfl rfl (fun T hT => by cases hT; rfl) ⟨_, rfl⟩ rfl rfl rfl (Nat.le_of_ble_eq_true rfl) dX2_init_29 ?_
  refine c_aload_n dX2_init_32 0 rfl rfl ?_
  refine c_bipush (v := 8) dX2_init_33 (by decide) ?_
  refine c_newI hA (N := 8) kw_89 (by decide) (by decide) (by decide) ⟨by decide, by decide⟩ dX2_init_35 (fun q4 => ?_)
  refine c_put 12 fl_X2_23 rfl rfl (fun T hT => by cases hT; rfl) ⟨_, rfl⟩ rfl rfl rfl (Nat.le_of_ble_eq_true rfl) dX2_init_37 ?_
  refine c_aload_n dX2_init_40 0 rfl rfl ?_
  refine c_bipush (v := 8) dX2_init_41 (by decide) ?_
  refine c_newI hA (N := 8) kw_89 (by decide) (by decide) (by decide) ⟨by decide, by decide⟩ dX2_init_43 (fun q5 => ?_)
  refine c_put 13 fl_X2_26 rfl rfl (fun T hT => by cases hT; rfl) ⟨_, rfl⟩ rfl rfl rfl (Nat.le_of_ble_eq_true rfl) dX2_init_45 ?_
  exact c_ret rfl (by decide) (by decide) dX2_init_48 ⟨q1, q2, r2, q3, q4, q5, rfl⟩

