/-! Home: by program -/
abbrev iX3_init : MI := (cX3_init, RX3, 3, none, 1, 1, 4)
def P_X3_init (c : Nat → ClassId) (h0 : Nat) (qi : Nat) (f : Nat → Int32) (i : Int32) (w : va_W) : Prop := ∃ q1 : Nat, w = [(q1, .inl (c 0, 4, .inl (va_cpy f (fun _ => 0) (i + 5).toNatClampNeg (0 : Int32).toNatClampNeg (4 : Int32).toNatClampNeg))), (h0, .inr (3, [.int (f (i).toNatClampNeg), .int (f ((i + 1)).toNatClampNeg), .int (f ((i + 2)).toNatClampNeg), .int (f ((i + 4)).toNatClampNeg), .ref q1, .int (f ((i + 3)).toNatClampNeg), .int 0, .int 0])), (qi, .inl (c 0, 80, .inl f))]
set_option maxHeartbeats 8000000 in
set_option maxRecDepth 100000 in
theorem s_X3_init (l : Launch) (D : va_G) (c : Nat → ClassId) (h0 : Nat) (qi : Nat) (f : Nat → Int32) (i : Int32) (hi : ∃ z : Nat, z + 9 ≤ 80 ∧ i = nI z) : CSp l yX3_init iX3_init D c [.ref h0, .ref qi, .int i] [(h0, .inr (3, [.int 0, .int 0, .int 0, .int 0, .null, .int 0, .int 0, .int 0])), (qi, .inl (c 0, 80, .inl f))] (P_X3_init c h0 qi f i) := by
  refine CSp.of rfl rfl (Nat.le_of_ble_eq_true rfl) (fun A sz hA => ?_)
  have hix0 : vp_in i 80 := by
    obtain ⟨z, hz, rfl⟩ := hi
    exact vp_in_nI (by omega) (by omega)
  have hix : ∀ (k : Nat) {y : Int32}, y = i + nI k → k < 9 → vp_in y 80 := fun k y hy hk => by
    obtain ⟨z, hz, rfl⟩ := hi
    rw [hy, nI_add]
    exact vp_in_nI (by omega) (by omega)
  have hcp : ¬ (i + 5) < 0 ∧ ¬ (0 : Int32) < 0 ∧ ¬ (4 : Int32) < 0 ∧ (i + 5).toNatClampNeg + (4 : Int32).toNatClampNeg ≤ 80 ∧ (0 : Int32).toNatClampNeg + (4 : Int32).toNatClampNeg ≤ 4 := by
    obtain ⟨z, hz, rfl⟩ := hi
    rw [show nI z + 5 = nI (z + 5) from nI_add z 5, nI_clamp (by omega)]
    exact ⟨nI_pos (by omega), by decide, by decide, by show z + 5 + 4 ≤ 80; omega, by decide⟩
  refine c_aload_n dX3_init_0 0 rfl rfl ?_
  refine c_obj kw_752 kw_26 kw_27 dX3_init_1 ⟨by decide, by decide⟩ ?_
  refine c_aload_n dX3_init_4 0 rfl rfl ?_
  refine c_iconst (v := 4) dX3_init_5 (by decide) ?_
  refine c_newI hA (N := 4) kw_89 (by decide) (by decide) (by decide) ⟨by decide, by decide⟩ dX3_init_6 (fun q1 => ?_)
  refine c_put 1 fl_X3_9 rfl rfl (fun T hT => by cases hT; rfl) ⟨_, rfl⟩ rfl rfl rfl (Nat.le_of_ble_eq_true rfl) dX3_init_8 ?_
  refine c_aload_n dX3_init_11 0 rfl rfl ?_
  refine c_aload_n dX3_init_12 1 rfl rfl ?_
  refine c_iload_n dX3_init_13 2 rfl rfl ?_
  refine c_iald 2 rfl hix0 dX3_init_14 ?_
  refine c_put 1 fl_X3_15 rfl rfl (fun T hT => by cases hT; rfl) ⟨_, rfl⟩ rfl rfl rfl (Nat.le_of_ble_eq_true rfl) dX3_init_15 ?_
  refine c_aload_n dX3_init_18 0 rfl rfl ?_
  refine c_aload_n dX3_init_19 1 rfl rfl ?_
  refine c_iload_n dX3_init_20 2 rfl rfl ?_
  refine c_iconst (v := 1) dX3_init_21 (by decide) ?_
  refine c_iadd dX3_init_22 ?_
  refine c_iald 2 rfl (hix 1 rfl (by decide)) dX3_init_23 ?_
  refine c_put 1 fl_X3_19 rfl rfl (fun T hT => by cases hT; rfl) ⟨_, rfl⟩ rfl rfl rfl (Nat.le_of_ble_eq_true rfl) dX3_init_24 ?_
  refine c_aload_n dX3_init_27 0 rfl rfl ?_
  refine c_aload_n dX3_init_28 1 rfl rfl ?_
  refine c_iload_n dX3_init_29 2 rfl rfl ?_
  refine c_iconst (v := 2) dX3_init_30 (by decide) ?_
  refine c_iadd dX3_init_31 ?_
  refine c_iald 2 rfl (hix 2 rfl (by decide)) dX3_init_32 ?_
  refine c_put 1 fl_X3_22 rfl rfl (fun T hT => by cases hT; rfl) ⟨_, rfl⟩ rfl rfl rfl (Nat.le_of_ble_eq_true rfl) dX3_init_33 ?_
  refine c_aload_n dX3_init_36 0 rfl rfl ?_
  refine c_aload_n dX3_init_37 1 rfl rfl ?_
  refine c_iload_n dX3_init_38 2 rfl rfl ?_
  refine c_iconst (v := 3) dX3_init_39 (by decide) ?_
  refine c_iadd dX3_init_40 ?_
  refine c_iald 2 rfl (hix 3 rfl (by decide)) dX3_init_41 ?_
  refine c_put 1 fl_X3_25 rfl rfl (fun T hT => by cases hT; rfl) ⟨_, rfl⟩ rfl rfl rfl (Nat.le_of_ble_eq_true rfl) dX3_init_42 ?_
  refine c_aload_n dX3_init_45 0 rfl rfl ?_
  refine c_aload_n dX3_init_46 1 rfl rfl ?_
  refine c_iload_n dX3_init_47 2 rfl rfl ?_
  refine c_iconst (v := 4) dX3_init_48 (by decide) ?_
  refine c_iadd dX3_init_49 ?_
  refine c_iald 2 rfl (hix 4 rfl (by decide)) dX3_init_50 ?_
  refine c_put 1 fl_X3_28 rfl rfl (fun T hT => by cases hT; rfl) ⟨_, rfl⟩ rfl rfl rfl (Nat.le_of_ble_eq_true rfl) dX3_init_51 ?_
  refine c_aload_n dX3_init_54 1 rfl rfl ?_
  refine c_iload_n dX3_init_55 2 rfl rfl ?_
  refine c_iconst (v := 5) dX3_init_56 (by decide) ?_
  refine c_iadd dX3_init_57 ?_
  refine c_aload_n dX3_init_58 0 rfl rfl ?_
  refine c_get (.ref q1) 1 fl_X3_9 rfl rfl rfl dX3_init_59 ?_
  refine c_iconst (v := 0) dX3_init_62 (by decide) ?_
  refine c_iconst (v := 4) dX3_init_63 (by decide) ?_
  refine c_copy 2 0 rfl rfl hcp kw_753 kw_364 kw_363 kw_12 ⟨by decide, Nat.le_of_ble_eq_true rfl⟩ dX3_init_64 ?_
  exact c_ret rfl (by decide) (by decide) dX3_init_67 ⟨q1, rfl⟩

