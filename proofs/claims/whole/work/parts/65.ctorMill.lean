/-! Mill: by program -/
theorem fl_X4_15 : FL RX4 15 14 5 (.array .int) true := ⟨4, 8, RX4, TX4, tyX4, rfl, by decide, rfl, gx_X4, kw_427, tyX4_ok, nmX4, rfl, rfl⟩
theorem lk_X4_32 : LkS RX4 32 yJ7_fill_53178 iJ7_fill_53178 2 := ⟨kw_416, kw_335, kw_11, kw_336, ⟨by decide, by decide, by decide⟩⟩
abbrev iX4_init : MI := (cX4_init, RX4, 5, none, 1, 2, 104)
def P_X4_init (c : Nat → ClassId) (h0 : Nat) (n t m h : Int32) (w : va_W) : Prop := ∃ q1 : Nat, ∃ q2 : Nat, ∃ f2 : Nat → Int32, (∀ j, j < 100 → f2 j = -1000000) ∧ w = [(q2, .inl (c 0, 100, .inl f2)), (q1, .inl (c 0, 4, .inl (fun _ => 0))), (h0, .inr (4, [.int n, .int t, .int m, .int h, .ref q1, .ref q2, .int 0, .int 0]))]
set_option maxHeartbeats 8000000 in
set_option maxRecDepth 100000 in
theorem s_X4_init (l : Launch) (D : va_G) (c : Nat → ClassId) (h0 : Nat) (n t m h : Int32) : CSp l yX4_init iX4_init D c [.ref h0, .int n, .int t, .int m, .int h] [(h0, .inr (4, [.int 0, .int 0, .int 0, .int 0, .null, .null, .int 0, .int 0]))] (P_X4_init c h0 n t m h) := by
  refine CSp.of rfl rfl (Nat.le_of_ble_eq_true rfl) (fun A sz hA => ?_)
  refine c_aload_n dX4_init_0 0 rfl rfl ?_
  refine c_obj kw_414 kw_26 kw_27 dX4_init_1 ⟨by decide, by decide⟩ ?_
  refine c_aload_n dX4_init_4 0 rfl rfl ?_
  refine c_iconst (v := 4) dX4_init_5 (by decide) ?_
  refine c_newI hA (N := 4) kw_89 (by decide) (by decide) (by decide) ⟨by decide, by decide⟩ dX4_init_6 (fun q1 => ?_)
  refine c_put 1 fl_X4_9 rfl rfl (fun T hT => by cases hT; rfl) ⟨_, rfl⟩ rfl rfl rfl (Nat.le_of_ble_eq_true rfl) dX4_init_8 ?_
  refine c_aload_n dX4_init_11 0 rfl rfl ?_
  refine c_bipush (v := 100) dX4_init_12 (by decide) ?_
  refine c_newI hA (N := 100) kw_89 (by decide) (by decide) (by decide) ⟨by decide, by decide⟩ dX4_init_14 (fun q2 => ?_)
  refine c_put 2 fl_X4_15 rfl rfl (fun T hT => by cases hT; rfl) ⟨_, rfl⟩ rfl rfl rfl (Nat.le_of_ble_eq_true rfl) dX4_init_16 ?_
  refine c_aload_n dX4_init_19 0 rfl rfl ?_
  refine c_iload_n dX4_init_20 1 rfl rfl ?_
  refine c_put 2 fl_X4_18 rfl rfl (fun T hT => by cases hT; rfl) ⟨_, rfl⟩ rfl rfl rfl (Nat.le_of_ble_eq_true rfl) dX4_init_21 ?_
  refine c_aload_n dX4_init_24 0 rfl rfl ?_
  refine c_iload_n dX4_init_25 2 rfl rfl ?_
  refine c_put 2 fl_X4_22 rfl rfl (fun T hT => by cases hT; rfl) ⟨_, rfl⟩ rfl rfl rfl (Nat.le_of_ble_eq_true rfl) dX4_init_26 ?_
  refine c_aload_n dX4_init_29 0 rfl rfl ?_
  refine c_iload_n dX4_init_30 3 rfl rfl ?_
  refine c_put 2 fl_X4_25 rfl rfl (fun T hT => by cases hT; rfl) ⟨_, rfl⟩ rfl rfl rfl (Nat.le_of_ble_eq_true rfl) dX4_init_31 ?_
  refine c_aload_n dX4_init_34 0 rfl rfl ?_
  refine c_iload dX4_init_35 4 rfl ?_
  refine c_put 2 fl_X4_28 rfl rfl (fun T hT => by cases hT; rfl) ⟨_, rfl⟩ rfl rfl rfl (Nat.le_of_ble_eq_true rfl) dX4_init_37 ?_
  refine c_aload_n dX4_init_40 0 rfl rfl ?_
  refine c_get (.ref q2) 2 fl_X4_15 rfl rfl rfl dX4_init_41 ?_
  refine c_ldc kw_415 dX4_init_44 ?_
  refine c_callS hA (wc := [(q2, .inl (c 0, 100, .inl (fun _ => 0)))]) rfl lk_X4_32 ⟨⟨by decide, by decide⟩, by decide, by decide⟩ rfl (Nat.le_of_ble_eq_true rfl) dX4_init_46 (s_fill l D c q2 100 (-1000000) (fun _ => 0) (by decide)) rfl (fun w1 hw1 => ?_)
  obtain ⟨f2, hf2, rfl⟩ := hw1
  exact c_ret rfl (by decide) (by decide) dX4_init_49 ⟨q1, q2, f2, hf2, rfl⟩

