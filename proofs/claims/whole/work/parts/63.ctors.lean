/-! constructors of the landed class: by program -/
abbrev iX5_init : MI := (cX5_init, RX5, 1, none, 1, 3, 60)
def P_X5_init (c : Nat → ClassId) (h0 : Nat) (w : va_W) : Prop := ∃ q1 : Nat, ∃ q2 : Nat, ∃ q3 : Nat, w = [(q3, .inl (c 0, 20, .inl (fun _ => 0))), (q2, .inl (c 0, 20, .inl (fun _ => 0))), (q1, .inl (c 0, 20, .inl (fun _ => 0))), (h0, .inr (5, [.ref q1, .ref q2, .ref q3, .int 0]))]
set_option maxHeartbeats 8000000 in
set_option maxRecDepth 100000 in
theorem s_X5_init (l : Launch) (D : va_G) (c : Nat → ClassId) (h0 : Nat) : CSp l yX5_init iX5_init D c [.ref h0] [(h0, .inr (5, [.null, .null, .null, .int 0]))] (P_X5_init c h0) := by
  refine CSp.of rfl rfl (Nat.le_of_ble_eq_true rfl) (fun A sz hA => ?_)
  refine c_aload_n dX5_init_0 0 rfl rfl ?_
  refine c_obj kw_244 kw_26 kw_27 dX5_init_1 ⟨by decide, by decide⟩ ?_
  refine c_aload_n dX5_init_4 0 rfl rfl ?_
  refine c_bipush (v := 20) dX5_init_5 (by decide) ?_
  refine c_newI hA (N := 20) kw_89 (by decide) (by decide) (by decide) ⟨by decide, by decide⟩ dX5_init_7 (fun q1 => ?_)
  refine c_put 1 fl_X5_9 rfl rfl (fun T hT => by cases hT; rfl) ⟨_, rfl⟩ rfl rfl rfl (Nat.le_of_ble_eq_true rfl) dX5_init_9 ?_
  refine c_aload_n dX5_init_12 0 rfl rfl ?_
  refine c_bipush (v := 20) dX5_init_13 (by decide) ?_
  refine c_newI hA (N := 20) kw_89 (by decide) (by decide) (by decide) ⟨by decide, by decide⟩ dX5_init_15 (fun q2 => ?_)
  refine c_put 2 fl_X5_15 rfl rfl (fun T hT => by cases hT; rfl) ⟨_, rfl⟩ rfl rfl rfl (Nat.le_of_ble_eq_true rfl) dX5_init_17 ?_
  refine c_aload_n dX5_init_20 0 rfl rfl ?_
  refine c_bipush (v := 20) dX5_init_21 (by decide) ?_
  refine c_newI hA (N := 20) kw_89 (by decide) (by decide) (by decide) ⟨by decide, by decide⟩ dX5_init_23 (fun q3 => ?_)
  refine c_put 3 fl_X5_18 rfl rfl (fun T hT => by cases hT; rfl) ⟨_, rfl⟩ rfl rfl rfl (Nat.le_of_ble_eq_true rfl) dX5_init_25 ?_
  exact c_ret rfl (by decide) (by decide) dX5_init_28 ⟨q1, q2, q3, rfl⟩

abbrev iX9_init : MI := (cX9_init, RX9, 1, none, 1, 2, 20)
def P_X9_init (c : Nat → ClassId) (h0 : Nat) (w : va_W) : Prop := ∃ q1 : Nat, ∃ q2 : Nat, w = [(q2, .inl (c 0, 10, .inl (fun _ => 0))), (q1, .inl (c 0, 10, .inl (fun _ => 0))), (h0, .inr (9, [.ref q1, .ref q2, .int 0, .int 0, .int 0]))]
set_option maxHeartbeats 8000000 in
set_option maxRecDepth 100000 in
theorem s_X9_init (l : Launch) (D : va_G) (c : Nat → ClassId) (h0 : Nat) : CSp l yX9_init iX9_init D c [.ref h0] [(h0, .inr (9, [.null, .null, .int 0, .int 0, .int 0]))] (P_X9_init c h0) := by
  refine CSp.of rfl rfl (Nat.le_of_ble_eq_true rfl) (fun A sz hA => ?_)
  refine c_aload_n dX9_init_0 0 rfl rfl ?_
  refine c_obj kw_186 kw_26 kw_27 dX9_init_1 ⟨by decide, by decide⟩ ?_
  refine c_aload_n dX9_init_4 0 rfl rfl ?_
  refine c_bipush (v := 10) dX9_init_5 (by decide) ?_
  refine c_newI hA (N := 10) kw_89 (by decide) (by decide) (by decide) ⟨by decide, by decide⟩ dX9_init_7 (fun q1 => ?_)
  refine c_put 1 fl_X9_9 rfl rfl (fun T hT => by cases hT; rfl) ⟨_, rfl⟩ rfl rfl rfl (Nat.le_of_ble_eq_true rfl) dX9_init_9 ?_
  refine c_aload_n dX9_init_12 0 rfl rfl ?_
  refine c_bipush (v := 10) dX9_init_13 (by decide) ?_
  refine c_newI hA (N := 10) kw_89 (by decide) (by decide) (by decide) ⟨by decide, by decide⟩ dX9_init_15 (fun q2 => ?_)
  refine c_put 2 fl_X9_15 rfl rfl (fun T hT => by cases hT; rfl) ⟨_, rfl⟩ rfl rfl rfl (Nat.le_of_ble_eq_true rfl) dX9_init_17 ?_
  exact c_ret rfl (by decide) (by decide) dX9_init_20 ⟨q1, q2, rfl⟩

abbrev iX7_init : MI := (cX7_init, RX7, 1, none, 1, 1, 80)
def P_X7_init (c : Nat → ClassId) (h0 : Nat) (w : va_W) : Prop := ∃ q1 : Nat, w = [(q1, .inl (c 0, 80, .inl (fun _ => 0))), (h0, .inr (7, [.ref q1, .int 1, .int 0, .int 0]))]
set_option maxHeartbeats 8000000 in
set_option maxRecDepth 100000 in
theorem s_X7_init (l : Launch) (D : va_G) (c : Nat → ClassId) (h0 : Nat) : CSp l yX7_init iX7_init D c [.ref h0] [(h0, .inr (7, [.null, .int 0, .int 0, .int 0]))] (P_X7_init c h0) := by
  refine CSp.of rfl rfl (Nat.le_of_ble_eq_true rfl) (fun A sz hA => ?_)
  refine c_aload_n dX7_init_0 0 rfl rfl ?_
  refine c_obj kw_262 kw_26 kw_27 dX7_init_1 ⟨by decide, by decide⟩ ?_
  refine c_aload_n dX7_init_4 0 rfl rfl ?_
  refine c_bipush (v := 80) dX7_init_5 (by decide) ?_
  refine c_newI hA (N := 80) kw_89 (by decide) (by decide) (by decide) ⟨by decide, by decide⟩ dX7_init_7 (fun q1 => ?_)
  refine c_put 1 fl_X7_9 rfl rfl (fun T hT => by cases hT; rfl) ⟨_, rfl⟩ rfl rfl rfl (Nat.le_of_ble_eq_true rfl) dX7_init_9 ?_
  refine c_aload_n dX7_init_12 0 rfl rfl ?_
  refine c_iconst (v := 1) dX7_init_13 (by decide) ?_
  refine c_put 1 fl_X7_15 rfl rfl (fun T hT => by cases hT; rfl) ⟨_, rfl⟩ rfl rfl rfl (Nat.le_of_ble_eq_true rfl) dX7_init_14 ?_
  exact c_ret rfl (by decide) (by decide) dX7_init_17 ⟨q1, rfl⟩

abbrev iX6_init : MI := (cX6_init, RX6, 1, none, 1, 5, 98)
def P_X6_init (c : Nat → ClassId) (h0 : Nat) (w : va_W) : Prop := ∃ q1 : Nat, ∃ q2 : Nat, ∃ q3 : Nat, ∃ q4 : Nat, ∃ q5 : Nat, w = [(q5, .inl (c 0, 4, .inl (fun _ => 0))), (q4, .inl (c 0, 4, .inl (fun _ => 0))), (q3, .inl (c 0, 30, .inl (fun _ => 0))), (q2, .inl (c 0, 30, .inl (fun _ => 0))), (q1, .inl (c 0, 30, .inl (fun _ => 0))), (h0, .inr (6, [.ref q1, .ref q2, .ref q3, .ref q4, .ref q5, .int 0, .int 0]))]
set_option maxHeartbeats 8000000 in
set_option maxRecDepth 100000 in
theorem s_X6_init (l : Launch) (D : va_G) (c : Nat → ClassId) (h0 : Nat) : CSp l yX6_init iX6_init D c [.ref h0] [(h0, .inr (6, [.null, .null, .null, .null, .null, .int 0, .int 0]))] (P_X6_init c h0) := by
  refine CSp.of rfl rfl (Nat.le_of_ble_eq_true rfl) (fun A sz hA => ?_)
  refine c_aload_n dX6_init_0 0 rfl rfl ?_
  refine c_obj kw_95 kw_26 kw_27 dX6_init_1 ⟨by decide, by decide⟩ ?_
  refine c_aload_n dX6_init_4 0 rfl rfl ?_
  refine c_bipush (v := 30) dX6_init_5 (by decide) ?_
  refine c_newI hA (N := 30) kw_89 (by decide) (by decide) (by decide) ⟨by decide, by decide⟩ dX6_init_7 (fun q1 => ?_)
  refine c_put 1 fl_X6_11 rfl rfl (fun T hT => by cases hT; rfl) ⟨_, rfl⟩ rfl rfl rfl (Nat.le_of_ble_eq_true rfl) dX6_init_9 ?_
  refine c_aload_n dX6_init_12 0 rfl rfl ?_
  refine c_bipush (v := 30) dX6_init_13 (by decide) ?_
  refine c_newI hA (N := 30) kw_89 (by decide) (by decide) (by decide) ⟨by decide, by decide⟩ dX6_init_15 (fun q2 => ?_)
  refine c_put 2 fl_X6_15 rfl rfl (fun T hT => by cases hT; rfl) ⟨_, rfl⟩ rfl rfl rfl (Nat.le_of_ble_eq_true rfl) dX6_init_17 ?_
  refine c_aload_n dX6_init_20 0 rfl rfl ?_
  refine c_bipush (v := 30) dX6_init_21 (by decide) ?_
  refine c_newI hA (N := 30) kw_89 (by decide) (by decide) (by decide) ⟨by decide, by decide⟩ dX6_init_23 (fun q3 => ?_)
  refine c_put 3 fl_X6_18 rfl rfl (fun T hT => by cases hT; rfl) ⟨_, rfl⟩ rfl rfl rfl (Nat.le_of_ble_eq_true rfl) dX6_init_25 ?_
  refine c_aload_n dX6_init_28 0 rfl rfl ?_
  refine c_iconst (v := 4) dX6_init_29 (by decide) ?_
  refine c_newI hA (N := 4) kw_89 (by decide) (by decide) (by decide) ⟨by decide, by decide⟩ dX6_init_30 (fun q4 => ?_)
  refine c_put 4 fl_X6_21 rfl rfl (fun T hT => by cases hT; rfl) ⟨_, rfl⟩ rfl rfl rfl (Nat.le_of_ble_eq_true rfl) dX6_init_32 ?_
  refine c_aload_n dX6_init_35 0 rfl rfl ?_
  refine c_iconst (v := 4) dX6_init_36 (by decide) ?_
  refine c_newI hA (N := 4) kw_89 (by decide) (by decide) (by decide) ⟨by decide, by decide⟩ dX6_init_37 (fun q5 => ?_)
  refine c_put 5 fl_X6_24 rfl rfl (fun T hT => by cases hT; rfl) ⟨_, rfl⟩ rfl rfl rfl (Nat.le_of_ble_eq_true rfl) dX6_init_39 ?_
  exact c_ret rfl (by decide) (by decide) dX6_init_42 ⟨q1, q2, q3, q4, q5, rfl⟩

abbrev iX8_init : MI := (cX8_init, RX8, 1, none, 1, 1, 400)
def P_X8_init (c : Nat → ClassId) (h0 : Nat) (w : va_W) : Prop := ∃ q1 : Nat, w = [(q1, .inl (c 0, 400, .inl (fun _ => 0))), (h0, .inr (8, [.ref q1, .int 0, .int 0, .int 0, .int 0, .int 0, .int 0, .int 0]))]
set_option maxHeartbeats 8000000 in
set_option maxRecDepth 100000 in
theorem s_X8_init (l : Launch) (D : va_G) (c : Nat → ClassId) (h0 : Nat) : CSp l yX8_init iX8_init D c [.ref h0] [(h0, .inr (8, [.null, .int 0, .int 0, .int 0, .int 0, .int 0, .int 0, .int 0]))] (P_X8_init c h0) := by
  refine CSp.of rfl rfl (Nat.le_of_ble_eq_true rfl) (fun A sz hA => ?_)
  refine c_aload_n dX8_init_0 0 rfl rfl ?_
  refine c_obj kw_125 kw_26 kw_27 dX8_init_1 ⟨by decide, by decide⟩ ?_
  refine c_aload_n dX8_init_4 0 rfl rfl ?_
  refine c_sipush (v := 400) dX8_init_5 (by decide) ?_
  refine c_newI hA (N := 400) kw_89 (by decide) (by decide) (by decide) ⟨by decide, by decide⟩ dX8_init_8 (fun q1 => ?_)
  refine c_put 1 fl_X8_11 rfl rfl (fun T hT => by cases hT; rfl) ⟨_, rfl⟩ rfl rfl rfl (Nat.le_of_ble_eq_true rfl) dX8_init_10 ?_
  exact c_ret rfl (by decide) (by decide) dX8_init_13 ⟨q1, rfl⟩

abbrev iX0_init : MI := (cX0_init, RX0, 1, none, 1, 4, 64)
def P_X0_init (c : Nat → ClassId) (h0 : Nat) (w : va_W) : Prop := ∃ q1 : Nat, ∃ q2 : Nat, ∃ q3 : Nat, ∃ q4 : Nat, w = [(q4, .inl (c 0, 16, .inl (fun _ => 0))), (q3, .inl (c 0, 16, .inl (fun _ => 0))), (q2, .inl (c 0, 16, .inl (fun _ => 0))), (q1, .inl (c 0, 16, .inl (fun _ => 0))), (h0, .inr (0, [.ref q1, .ref q2, .ref q3, .ref q4, .int 0, .int 0, .int 0, .int 0]))]
set_option maxHeartbeats 8000000 in
set_option maxRecDepth 100000 in
theorem s_X0_init (l : Launch) (D : va_G) (c : Nat → ClassId) (h0 : Nat) : CSp l yX0_init iX0_init D c [.ref h0] [(h0, .inr (0, [.null, .null, .null, .null, .int 0, .int 0, .int 0, .int 0]))] (P_X0_init c h0) := by
  refine CSp.of rfl rfl (Nat.le_of_ble_eq_true rfl) (fun A sz hA => ?_)
  refine c_aload_n dX0_init_0 0 rfl rfl ?_
  refine c_obj kw_208 kw_26 kw_27 dX0_init_1 ⟨by decide, by decide⟩ ?_
  refine c_aload_n dX0_init_4 0 rfl rfl ?_
  refine c_bipush (v := 16) dX0_init_5 (by decide) ?_
  refine c_newI hA (N := 16) kw_89 (by decide) (by decide) (by decide) ⟨by decide, by decide⟩ dX0_init_7 (fun q1 => ?_)
  refine c_put 1 fl_X0_9 rfl rfl (fun T hT => by cases hT; rfl) ⟨_, rfl⟩ rfl rfl rfl (Nat.le_of_ble_eq_true rfl) dX0_init_9 ?_
  refine c_aload_n dX0_init_12 0 rfl rfl ?_
  refine c_bipush (v := 16) dX0_init_13 (by decide) ?_
  refine c_newI hA (N := 16) kw_89 (by decide) (by decide) (by decide) ⟨by decide, by decide⟩ dX0_init_15 (fun q2 => ?_)
  refine c_put 2 fl_X0_15 rfl rfl (fun T hT => by cases hT; rfl) ⟨_, rfl⟩ rfl rfl rfl (Nat.le_of_ble_eq_true rfl) dX0_init_17 ?_
  refine c_aload_n dX0_init_20 0 rfl rfl ?_
  refine c_bipush (v := 16) dX0_init_21 (by decide) ?_
  refine c_newI hA (N := 16) kw_89 (by decide) (by decide) (by decide) ⟨by decide, by decide⟩ dX0_init_23 (fun q3 => ?_)
  refine c_put 3 fl_X0_18 rfl rfl (fun T hT => by cases hT; rfl) ⟨_, rfl⟩ rfl rfl rfl (Nat.le_of_ble_eq_true rfl) dX0_init_25 ?_
  refine c_aload_n dX0_init_28 0 rfl rfl ?_
  refine c_bipush (v := 16) dX0_init_29 (by decide) ?_
  refine c_newI hA (N := 16) kw_89 (by decide) (by decide) (by decide) ⟨by decide, by decide⟩ dX0_init_31 (fun q4 => ?_)
  refine c_put 4 fl_X0_21 rfl rfl (fun T hT => by cases hT; rfl) ⟨_, rfl⟩ rfl rfl rfl (Nat.le_of_ble_eq_true rfl) dX0_init_33 ?_
  exact c_ret rfl (by decide) (by decide) dX0_init_36 ⟨q1, q2, q3, q4, rfl⟩

