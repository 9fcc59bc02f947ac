-- X0_addThing
set_option maxRecDepth 100000 in
set_option maxHeartbeats 4000000 in
theorem w_X0_addThing {Z : ZE} {l : Launch} (hZ : OkX Z) {a1 : Int32} {a2 : Int32} {a3 : Int32}  {R : Int32 × St}    (s : St) (hF : F_X0_addThing (zg Z) a1 a2 a3  s = some R) : AW Z l iX0_addThing (Pq (rI R)) 0 0 0 [(0, .ref (za Z 38 0)), (1, .int a1), (2, .int a2), (3, .int a3)] [] s := by
  unfold F_X0_addThing at hF
  refine a_aload_n dX0_addThing_0 0 rfl rfl ?_
  refine a_getI hZ.1 (s 38 0 4) (hZ.2 38 0 (by decide) Nat.one_pos) fl_X0_24 rfl rfl dX0_addThing_1 ?_
  refine a_bipush (v := (16 : Int32)) dX0_addThing_4 (by decide) ?_
  refine a_icmp_lt 12 dX0_addThing_6 (by decide) (fun q1 => ?_) (fun q1 => ?_)
  · replace hF := (if_pos q1).symm.trans hF
    refine a_aload_n dX0_addThing_12 0 rfl rfl ?_
    refine a_getR hZ.1 (hZ.2 38 0 (by decide) Nat.one_pos) fl_X0_9 rfl 0 rfl dX0_addThing_13 ?_
    refine a_aload_n dX0_addThing_16 0 rfl rfl ?_
    refine a_getI hZ.1 (s 38 0 4) (hZ.2 38 0 (by decide) Nat.one_pos) fl_X0_24 rfl rfl dX0_addThing_17 ?_
    refine a_iload_n dX0_addThing_20 1 rfl rfl ?_
    obtain ⟨p2, hF⟩ := gd_some hF
    refine a_iast hZ.1 (hZ.2 39 0 (by decide) Nat.one_pos) rfl rfl (inb_vp p2) dX0_addThing_21 ?_
    refine a_aload_n dX0_addThing_22 0 rfl rfl ?_
    refine a_getR hZ.1 (hZ.2 38 0 (by decide) Nat.one_pos) fl_X0_15 rfl 0 rfl dX0_addThing_23 ?_
    refine a_aload_n dX0_addThing_26 0 rfl rfl ?_
    refine a_getI hZ.1 (s 38 0 4) (hZ.2 38 0 (by decide) Nat.one_pos) fl_X0_24 rfl rfl dX0_addThing_27 ?_
    refine a_iload_n dX0_addThing_30 2 rfl rfl ?_
    obtain ⟨p3, hF⟩ := gd_some hF
    refine a_iast hZ.1 (hZ.2 40 0 (by decide) Nat.one_pos) rfl rfl (inb_vp p3) dX0_addThing_31 ?_
    refine a_aload_n dX0_addThing_32 0 rfl rfl ?_
    refine a_getR hZ.1 (hZ.2 38 0 (by decide) Nat.one_pos) fl_X0_18 rfl 0 rfl dX0_addThing_33 ?_
    refine a_aload_n dX0_addThing_36 0 rfl rfl ?_
    refine a_getI hZ.1 (s 38 0 4) (hZ.2 38 0 (by decide) Nat.one_pos) fl_X0_24 rfl rfl dX0_addThing_37 ?_
    refine a_iload_n dX0_addThing_40 3 rfl rfl ?_
    obtain ⟨p4, hF⟩ := gd_some hF
    refine a_iast hZ.1 (hZ.2 41 0 (by decide) Nat.one_pos) rfl rfl (inb_vp p4) dX0_addThing_41 ?_
    refine a_aload_n dX0_addThing_42 0 rfl rfl ?_
    refine a_dup dX0_addThing_43 rfl ?_
    refine a_getI hZ.1 (s 38 0 4) (hZ.2 38 0 (by decide) Nat.one_pos) fl_X0_24 rfl rfl dX0_addThing_44 ?_
    refine a_iconst (v := (1 : Int32)) dX0_addThing_47 (by decide) ?_
    refine a_iadd dX0_addThing_48 ?_
    refine a_put hZ.1 (hZ.2 38 0 (by decide) Nat.one_pos) fl_X0_24 rfl rfl rfl dX0_addThing_49 ?_
    refine a_aload_n dX0_addThing_52 0 rfl rfl ?_
    refine a_getI hZ.1 ((s 38 0 4) + (1 : Int32)) (hZ.2 38 0 (by decide) Nat.one_pos) fl_X0_24 rfl (by simp [up]) dX0_addThing_53 ?_
    refine a_iconst (v := (1 : Int32)) dX0_addThing_56 (by decide) ?_
    refine a_isub dX0_addThing_57 ?_
    replace hF := Option.some.inj hF
    subst hF
    exact a_iret rfl (Nat.zero_le _) (Nat.zero_le _) dX0_addThing_58 ⟨rfl, rfl⟩
  · replace hF := (if_neg q1).symm.trans hF
    refine a_ldc (v := (-1000003)) kw_840 dX0_addThing_9 ?_
    replace hF := Option.some.inj hF
    subst hF
    exact a_iret rfl (Nat.zero_le _) (Nat.zero_le _) dX0_addThing_11 ⟨rfl, rfl⟩
theorem m_X0_addThing {Z : ZE} {l : Launch} (hZ : OkX Z) {a1 : Int32} {a2 : Int32} {a3 : Int32}  {s : St} {R : Int32 × St} (hF : F_X0_addThing (zg Z) a1 a2 a3 s = some R) : Sp Z l yX0_addThing iX0_addThing [.ref (za Z 38 0), .int a1, .int a2, .int a3] s (rI R) :=
  Sp.of (by decide) rfl (Nat.le_of_ble_eq_true rfl) (w_X0_addThing hZ  s hF)
-- X0_bodyFor
set_option maxRecDepth 100000 in
set_option maxHeartbeats 4000000 in
theorem w_X0_bodyFor {Z : ZE} {l : Launch} (hZ : OkX Z) {a1 : Int32} {a2 : Int32}  {R : Int32 × St}    (s : St) (hF : F_X0_bodyFor (zg Z) a1 a2  s = some R) : AW Z l iX0_bodyFor (Pq (rI R)) 0 0 0 [(0, .ref (za Z 38 0)), (1, .int a1), (2, .int a2)] [] s := by
  unfold F_X0_bodyFor at hF
  refine a_iload_n dX0_bodyFor_0 2 rfl rfl ?_
  refine a_if_ne 17 dX0_bodyFor_1 (by decide) (fun q1 => ?_) (fun q1 => ?_)
  · replace hF := (if_neg q1).symm.trans hF
    refine a_gets hZ.1 (c := 3) (by decide) kw_906 dX0_bodyFor_17 ?_
    refine a_aload_n dX0_bodyFor_20 0 rfl rfl ?_
    refine a_getR hZ.1 (hZ.2 38 0 (by decide) Nat.one_pos) fl_X0_9 rfl 0 rfl dX0_bodyFor_21 ?_
    refine a_iload_n dX0_bodyFor_24 1 rfl rfl ?_
    obtain ⟨p2, hF⟩ := gd_some hF
    refine a_iald hZ.1 (s 39 0 a1.toNatClampNeg) (hZ.2 39 0 (by decide) Nat.one_pos) rfl rfl (inb_vp p2) rfl dX0_bodyFor_25 ?_
    obtain ⟨p3, hF⟩ := gd_some hF
    refine a_ti hZ.1 (c := 3) (by decide) (inb_vp p3) dX0_bodyFor_26 ?_
    replace hF := Option.some.inj hF
    subst hF
    exact a_iret rfl (Nat.zero_le _) (Nat.zero_le _) dX0_bodyFor_27 ⟨rfl, rfl⟩
  · replace hF := (if_pos q1).symm.trans hF
    refine a_gets hZ.1 (c := 2) (by decide) kw_904 dX0_bodyFor_4 ?_
    refine a_aload_n dX0_bodyFor_7 0 rfl rfl ?_
    refine a_getR hZ.1 (hZ.2 38 0 (by decide) Nat.one_pos) fl_X0_9 rfl 0 rfl dX0_bodyFor_8 ?_
    refine a_iload_n dX0_bodyFor_11 1 rfl rfl ?_
    obtain ⟨p4, hF⟩ := gd_some hF
    refine a_iald hZ.1 (s 39 0 a1.toNatClampNeg) (hZ.2 39 0 (by decide) Nat.one_pos) rfl rfl (inb_vp p4) rfl dX0_bodyFor_12 ?_
    obtain ⟨p5, hF⟩ := gd_some hF
    refine a_ti hZ.1 (c := 2) (by decide) (inb_vp p5) dX0_bodyFor_13 ?_
    refine a_goto 27 dX0_bodyFor_14 (by decide) ?_
    replace hF := Option.some.inj hF
    subst hF
    exact a_iret rfl (Nat.zero_le _) (Nat.zero_le _) dX0_bodyFor_27 ⟨rfl, rfl⟩
theorem m_X0_bodyFor {Z : ZE} {l : Launch} (hZ : OkX Z) {a1 : Int32} {a2 : Int32}  {s : St} {R : Int32 × St} (hF : F_X0_bodyFor (zg Z) a1 a2 s = some R) : Sp Z l yX0_bodyFor iX0_bodyFor [.ref (za Z 38 0), .int a1, .int a2] s (rI R) :=
  Sp.of (by decide) rfl (Nat.le_of_ble_eq_true rfl) (w_X0_bodyFor hZ  s hF)
-- X0_leaveTrace
set_option maxRecDepth 100000 in
set_option maxHeartbeats 4000000 in
theorem w_X0_leaveTrace {Z : ZE} {l : Launch} (hZ : OkX Z) {a1 : Int32}  {R : Unit × St}    (s : St) (hF : F_X0_leaveTrace (zg Z) a1  s = some R) : AW Z l iX0_leaveTrace (Pq (rU R)) 0 0 0 [(0, .ref (za Z 38 0)), (1, .int a1)] [] s := by
  unfold F_X0_leaveTrace at hF
  refine a_aload_n dX0_leaveTrace_0 0 rfl rfl ?_
  refine a_getI hZ.1 (s 38 0 5) (hZ.2 38 0 (by decide) Nat.one_pos) fl_X0_48 rfl rfl dX0_leaveTrace_1 ?_
  refine a_bipush (v := (16 : Int32)) dX0_leaveTrace_4 (by decide) ?_
  refine a_icmp_ge 29 dX0_leaveTrace_6 (by decide) (fun q1 => ?_) (fun q1 => ?_)
  · replace hF := (if_pos q1).symm.trans hF
    replace hF := Option.some.inj hF
    subst hF
    exact a_vret rfl (Nat.zero_le _) (Nat.zero_le _) dX0_leaveTrace_29 ⟨rfl, rfl⟩
  · replace hF := (if_neg q1).symm.trans hF
    refine a_aload_n dX0_leaveTrace_9 0 rfl rfl ?_
    refine a_getR hZ.1 (hZ.2 38 0 (by decide) Nat.one_pos) fl_X0_21 rfl 0 rfl dX0_leaveTrace_10 ?_
    refine a_aload_n dX0_leaveTrace_13 0 rfl rfl ?_
    refine a_getI hZ.1 (s 38 0 5) (hZ.2 38 0 (by decide) Nat.one_pos) fl_X0_48 rfl rfl dX0_leaveTrace_14 ?_
    refine a_iload_n dX0_leaveTrace_17 1 rfl rfl ?_
    obtain ⟨p2, hF⟩ := gd_some hF
    refine a_iast hZ.1 (hZ.2 42 0 (by decide) Nat.one_pos) rfl rfl (inb_vp p2) dX0_leaveTrace_18 ?_
    refine a_aload_n dX0_leaveTrace_19 0 rfl rfl ?_
    refine a_dup dX0_leaveTrace_20 rfl ?_
    refine a_getI hZ.1 (s 38 0 5) (hZ.2 38 0 (by decide) Nat.one_pos) fl_X0_48 rfl rfl dX0_leaveTrace_21 ?_
    refine a_iconst (v := (1 : Int32)) dX0_leaveTrace_24 (by decide) ?_
    refine a_iadd dX0_leaveTrace_25 ?_
    refine a_put hZ.1 (hZ.2 38 0 (by decide) Nat.one_pos) fl_X0_48 rfl rfl rfl dX0_leaveTrace_26 ?_
    replace hF := Option.some.inj hF
    subst hF
    exact a_vret rfl (Nat.zero_le _) (Nat.zero_le _) dX0_leaveTrace_29 ⟨rfl, rfl⟩
theorem m_X0_leaveTrace {Z : ZE} {l : Launch} (hZ : OkX Z) {a1 : Int32}  {s : St} {R : Unit × St} (hF : F_X0_leaveTrace (zg Z) a1 s = some R) : Sp Z l yX0_leaveTrace iX0_leaveTrace [.ref (za Z 38 0), .int a1] s (rU R) :=
  Sp.of (by decide) rfl (Nat.le_of_ble_eq_true rfl) (w_X0_leaveTrace hZ  s hF)
-- X10_within
set_option maxRecDepth 100000 in
set_option maxHeartbeats 4000000 in
theorem w_X10_within {Z : ZE} {l : Launch} (hZ : OkX Z) {a0 : Int32} {a1 : Int32} {a2 : Int32}  {R : Int32 × St}    (s : St) (hF : F_X10_within (zg Z) a0 a1 a2  s = some R) : AW Z l iX10_within (Pq (rI R)) 0 0 0 [(0, .int a0), (1, .int a1), (2, .int a2)] [] s := by
  unfold F_X10_within at hF
  refine a_iload_n dX10_within_0 0 rfl rfl ?_
  refine a_iload_n dX10_within_1 1 rfl rfl ?_
  refine a_icmp_lt 14 dX10_within_2 (by decide) (fun q1 => ?_) (fun q1 => ?_)
  · replace hF := (if_pos q1).symm.trans hF
    refine a_iconst (v := (0 : Int32)) dX10_within_14 (by decide) ?_
    replace hF := Option.some.inj hF
    subst hF
    exact a_zret rfl rfl (Nat.zero_le _) (Nat.zero_le _) dX10_within_15 ⟨rfl, rfl⟩
  · replace hF := (if_neg q1).symm.trans hF
    refine a_iload_n dX10_within_5 0 rfl rfl ?_
    refine a_iload_n dX10_within_6 2 rfl rfl ?_
    refine a_icmp_gt 14 dX10_within_7 (by decide) (fun q2 => ?_) (fun q2 => ?_)
    · replace hF := (if_pos q2).symm.trans hF
      refine a_iconst (v := (0 : Int32)) dX10_within_14 (by decide) ?_
      replace hF := Option.some.inj hF
      subst hF
      exact a_zret rfl rfl (Nat.zero_le _) (Nat.zero_le _) dX10_within_15 ⟨rfl, rfl⟩
    · replace hF := (if_neg q2).symm.trans hF
      refine a_iconst (v := (1 : Int32)) dX10_within_10 (by decide) ?_
      refine a_goto 15 dX10_within_11 (by decide) ?_
      replace hF := Option.some.inj hF
      subst hF
      exact a_zret rfl rfl (Nat.zero_le _) (Nat.zero_le _) dX10_within_15 ⟨rfl, rfl⟩
theorem m_X10_within {Z : ZE} {l : Launch} (hZ : OkX Z) {a0 : Int32} {a1 : Int32} {a2 : Int32}  {s : St} {R : Int32 × St} (hF : F_X10_within (zg Z) a0 a1 a2 s = some R) : Sp Z l yX10_within iX10_within [.int a0, .int a1, .int a2] s (rI R) :=
  Sp.of (by decide) rfl (Nat.le_of_ble_eq_true rfl) (w_X10_within hZ  s hF)
-- X0_hasThing
set_option maxRecDepth 100000 in
set_option maxHeartbeats 4000000 in
theorem w_X0_hasThing {Z : ZE} {l : Launch} (hZ : OkX Z) {a1 : Int32}  {R : Int32 × St}    (s : St) (hF : F_X0_hasThing (zg Z) a1  s = some R) : AW Z l iX0_hasThing (Pq (rI R)) 0 0 0 [(0, .ref (za Z 38 0)), (1, .int a1)] [] s := by
  unfold F_X0_hasThing at hF
  refine a_iload_n dX0_hasThing_0 1 rfl rfl ?_
  refine a_iconst (v := (0 : Int32)) dX0_hasThing_1 (by decide) ?_
  refine a_aload_n dX0_hasThing_2 0 rfl rfl ?_
  refine a_getI hZ.1 (s 38 0 4) (hZ.2 38 0 (by decide) Nat.one_pos) fl_X0_24 rfl rfl dX0_hasThing_3 ?_
  refine a_iconst (v := (1 : Int32)) dX0_hasThing_6 (by decide) ?_
  refine a_isub dX0_hasThing_7 ?_
  obtain ⟨r8, s8, e8, hF⟩ := bd_some hF
  refine a_invN hZ.1 (As := [.int a1, .int (0 : Int32), .int ((s 38 0 4) - (1 : Int32))]) (rest := []) lk_X0_28 ⟨⟨by decide, by decide⟩, by decide, by decide⟩ rfl (Nat.le_of_ble_eq_true rfl) dX0_hasThing_8 (m_X10_within hZ  e8) ?_
  show AW Z l iX0_hasThing (Pq (rI R)) 0 0 11 [(0, .ref (za Z 38 0)), (1, .int a1)] [.int r8] s8
  obtain ⟨p1, hF⟩ := gd_some hF
  replace hF := Option.some.inj hF
  subst hF
  exact a_zret rfl (isb_n p1) (Nat.zero_le _) (Nat.zero_le _) dX0_hasThing_11 ⟨rfl, rfl⟩
theorem m_X0_hasThing {Z : ZE} {l : Launch} (hZ : OkX Z) {a1 : Int32}  {s : St} {R : Int32 × St} (hF : F_X0_hasThing (zg Z) a1 s = some R) : Sp Z l yX0_hasThing iX0_hasThing [.ref (za Z 38 0), .int a1] s (rI R) :=
  Sp.of (by decide) rfl (Nat.le_of_ble_eq_true rfl) (w_X0_hasThing hZ  s hF)
-- X0_numberOf
set_option maxRecDepth 100000 in
set_option maxHeartbeats 4000000 in
theorem w_X0_numberOf {Z : ZE} {l : Launch} (hZ : OkX Z) {a1 : Int32}  {R : Int32 × St}    (s : St) (hF : F_X0_numberOf (zg Z) a1  s = some R) : AW Z l iX0_numberOf (Pq (rI R)) 0 0 0 [(0, .ref (za Z 38 0)), (1, .int a1)] [] s := by
  unfold F_X0_numberOf at hF
  refine a_aload_n dX0_numberOf_0 0 rfl rfl ?_
  refine a_iload_n dX0_numberOf_1 1 rfl rfl ?_
  obtain ⟨r2, s2, e2, hF⟩ := bd_some hF
  refine a_invV hZ.1 (As := [.int a1]) (rest := []) (hZ.2 38 0 (by decide) Nat.one_pos) lk_X0_36 ⟨⟨by decide, by decide⟩, by decide, by decide⟩ rfl (Nat.le_of_ble_eq_true rfl) dX0_numberOf_2 (m_X0_hasThing hZ  e2) ?_
  show AW Z l iX0_numberOf (Pq (rI R)) 0 0 5 [(0, .ref (za Z 38 0)), (1, .int a1)] [.int r2] s2
  refine a_if_eq 17 dX0_numberOf_5 (by decide) (fun q1 => ?_) (fun q1 => ?_)
  · replace hF := (if_pos q1).symm.trans hF
    refine a_iconst (v := (0 : Int32)) dX0_numberOf_17 (by decide) ?_
    replace hF := Option.some.inj hF
    subst hF
    exact a_iret rfl (Nat.zero_le _) (Nat.zero_le _) dX0_numberOf_18 ⟨rfl, rfl⟩
  · replace hF := (if_neg q1).symm.trans hF
    refine a_aload_n dX0_numberOf_8 0 rfl rfl ?_
    refine a_getR hZ.1 (hZ.2 38 0 (by decide) Nat.one_pos) fl_X0_15 rfl 0 rfl dX0_numberOf_9 ?_
    refine a_iload_n dX0_numberOf_12 1 rfl rfl ?_
    obtain ⟨p2, hF⟩ := gd_some hF
    refine a_iald hZ.1 (s2 40 0 a1.toNatClampNeg) (hZ.2 40 0 (by decide) Nat.one_pos) rfl rfl (inb_vp p2) rfl dX0_numberOf_13 ?_
    refine a_goto 18 dX0_numberOf_14 (by decide) ?_
    replace hF := Option.some.inj hF
    subst hF
    exact a_iret rfl (Nat.zero_le _) (Nat.zero_le _) dX0_numberOf_18 ⟨rfl, rfl⟩
theorem m_X0_numberOf {Z : ZE} {l : Launch} (hZ : OkX Z) {a1 : Int32}  {s : St} {R : Int32 × St} (hF : F_X0_numberOf (zg Z) a1 s = some R) : Sp Z l yX0_numberOf iX0_numberOf [.ref (za Z 38 0), .int a1] s (rI R) :=
  Sp.of (by decide) rfl (Nat.le_of_ble_eq_true rfl) (w_X0_numberOf hZ  s hF)
-- X0_begin
set_option maxRecDepth 100000 in
set_option maxHeartbeats 4000000 in
theorem m_X0_begin {Z : ZE} {l : Launch} (hZ : OkX Z) : ∀ (d_ : Nat) {a1 : Int32} {a2 : Int32} {a3 : Int32} {s : St} {R : Int32 × St}, F_X0_begin (zg Z) d_ a1 a2 a3 s = some R → Sp Z l yX0_begin (iX0_begin d_) [.ref (za Z 38 0), .int a1, .int a2, .int a3] s (rI R) := by
  intro d_
  induction d_ with
  | zero =>
    intro a1 a2 a3 s R hF
    exact absurd hF (by rw [F_X0_begin]; exact fun q => by cases q)
  | succ d_ ih_ =>
    intro a1 a2 a3 s R hF
    refine Sp.of (by decide) rfl (Nat.le_of_ble_eq_true rfl) ?_
    show AW Z l (iX0_begin (d_ + 1)) (Pq (rI R)) 0 0 0 [(0, .ref (za Z 38 0)), (1, .int a1), (2, .int a2), (3, .int a3)] [] s
    rw [F_X0_begin] at hF
    refine a_iload_n dX0_begin_0 3 rfl rfl ?_
    refine a_bipush (v := (20 : Int32)) dX0_begin_1 (by decide) ?_
    refine a_icmp_le 8 dX0_begin_3 (by decide) (fun q1 => ?_) (fun q1 => ?_)
    · replace hF := (if_pos q1).symm.trans hF
      refine a_aload_n dX0_begin_8 0 rfl rfl ?_
      refine a_iload_n dX0_begin_9 1 rfl rfl ?_
      obtain ⟨r10, s10, e10, hF⟩ := bd_some hF
      refine a_invV hZ.1 (As := [.int a1]) (rest := []) (hZ.2 38 0 (by decide) Nat.one_pos) lk_X0_71 ⟨⟨by show 0 + 1 ≤ 3 + (d_ + 1); omega, by show 8 + (2 + 11) + 40 * 0 ≤ 40 * (3 + (d_ + 1)); omega⟩, Nat.le_refl 0, Nat.le_refl 0⟩ rfl (Nat.le_of_ble_eq_true rfl) dX0_begin_10 (m_X0_leaveTrace hZ  e10) ?_
      show AW Z l (iX0_begin (d_ + 1)) (Pq (rI R)) 0 0 13 [(0, .ref (za Z 38 0)), (1, .int a1), (2, .int a2), (3, .int a3)] [] s10
      refine a_iload_n dX0_begin_13 3 rfl rfl ?_
      refine a_iconst (v := (1 : Int32)) dX0_begin_14 (by decide) ?_
      refine a_iadd dX0_begin_15 ?_
      refine a_istore [(4, .int (a3 + (1 : Int32))), (0, .ref (za Z 38 0)), (1, .int a1), (2, .int a2), (3, .int a3)] dX0_begin_16 (Nat.le_of_ble_eq_true rfl) rfl ?_
      refine a_iload_n dX0_begin_18 2 rfl rfl ?_
      by_cases q2 : a1 = 10
      · replace hF := (if_pos q2).symm.trans hF
        refine a_tableIn 88 dX0_begin_19 (by rw [q2]; decide) (by rw [q2]; decide) (by rw [q2]; rfl) (by decide) ?_
        refine a_aload_n dX0_begin_88 1 rfl rfl ?_
        refine a_getR hZ.1 (hZ.2 38 0 (by decide) Nat.one_pos) fl_X0_15 rfl 0 rfl dX0_begin_89 ?_
        refine a_iload_n dX0_begin_92 3 rfl rfl ?_
        obtain ⟨p3, hF⟩ := gd_some hF
        refine a_iald hZ.1 (s10 40 0 a2.toNatClampNeg) (hZ.2 40 0 (by decide) Nat.one_pos) rfl rfl (inb_vp p3) rfl dX0_begin_93 ?_
        replace hF := Option.some.inj hF
        subst hF
        exact a_iret rfl (Nat.zero_le _) (Nat.zero_le _) dX0_begin_94 ⟨rfl, rfl⟩
      replace hF := (if_neg q2).symm.trans hF
      by_cases q4 : a1 = 11
      · replace hF := (if_pos q4).symm.trans hF
        refine a_tableIn 95 dX0_begin_19 (by rw [q4]; decide) (by rw [q4]; decide) (by rw [q4]; rfl) (by decide) ?_
        refine a_aload_n dX0_begin_95 1 rfl rfl ?_
        refine a_bipush (v := (10 : Int32)) dX0_begin_96 (by decide) ?_
        refine a_iload_n dX0_begin_98 3 rfl rfl ?_
        refine a_iload dX0_begin_99 0 rfl ?_
        obtain ⟨r101, s101, e101, hF⟩ := bd_some hF
        refine a_invV hZ.1 (As := [.int (10 : Int32), .int a2, .int (a3 + (1 : Int32))]) (rest := []) (hZ.2 38 0 (by decide) Nat.one_pos) (lk_X0_61 d_) ⟨⟨by show 3 + d_ + 1 ≤ 3 + (d_ + 1); omega, by show 8 + (5 + 11) + 40 * (3 + d_) ≤ 40 * (3 + (d_ + 1)); omega⟩, Nat.le_refl 0, Nat.le_refl 0⟩ rfl (Nat.le_of_ble_eq_true rfl) dX0_begin_101 (ih_ e101) ?_
        show AW Z l (iX0_begin (d_ + 1)) (Pq (rI R)) 0 0 104 [(4, .int (a3 + (1 : Int32))), (0, .ref (za Z 38 0)), (1, .int a1), (2, .int a2), (3, .int a3)] [.int r101] s101
        refine a_aload_n dX0_begin_104 1 rfl rfl ?_
        refine a_aload_n dX0_begin_105 1 rfl rfl ?_
        refine a_iload_n dX0_begin_106 3 rfl rfl ?_
        refine a_iconst (v := (1 : Int32)) dX0_begin_107 (by decide) ?_
        obtain ⟨r108, s108, e108, hF⟩ := bd_some hF
        refine a_invV hZ.1 (As := [.int a2, .int (1 : Int32)]) (rest := [.ref (za Z 38 0), .int r101]) (hZ.2 38 0 (by decide) Nat.one_pos) lk_X0_57 ⟨⟨by show 0 + 1 ≤ 3 + (d_ + 1); omega, by show 8 + (3 + 11) + 40 * 0 ≤ 40 * (3 + (d_ + 1)); omega⟩, Nat.le_refl 0, Nat.le_refl 0⟩ rfl (Nat.le_of_ble_eq_true rfl) dX0_begin_108 (m_X0_bodyFor hZ  e108) ?_
        show AW Z l (iX0_begin (d_ + 1)) (Pq (rI R)) 0 0 111 [(4, .int (a3 + (1 : Int32))), (0, .ref (za Z 38 0)), (1, .int a1), (2, .int a2), (3, .int a3)] [.int r108, .ref (za Z 38 0), .int r101] s108
        refine a_iload_n dX0_begin_111 3 rfl rfl ?_
        refine a_iload dX0_begin_112 0 rfl ?_
        obtain ⟨r114, s114, e114, hF⟩ := bd_some hF
        refine a_invV hZ.1 (As := [.int r108, .int a2, .int (a3 + (1 : Int32))]) (rest := [.int r101]) (hZ.2 38 0 (by decide) Nat.one_pos) (lk_X0_61 d_) ⟨⟨by show 3 + d_ + 1 ≤ 3 + (d_ + 1); omega, by show 8 + (5 + 11) + 40 * (3 + d_) ≤ 40 * (3 + (d_ + 1)); omega⟩, Nat.le_refl 0, Nat.le_refl 0⟩ rfl (Nat.le_of_ble_eq_true rfl) dX0_begin_114 (ih_ e114) ?_
        show AW Z l (iX0_begin (d_ + 1)) (Pq (rI R)) 0 0 117 [(4, .int (a3 + (1 : Int32))), (0, .ref (za Z 38 0)), (1, .int a1), (2, .int a2), (3, .int a3)] [.int r114, .int r101] s114
        refine a_iadd dX0_begin_117 ?_
        replace hF := Option.some.inj hF
        subst hF
        exact a_iret rfl (Nat.zero_le _) (Nat.zero_le _) dX0_begin_118 ⟨rfl, rfl⟩
      replace hF := (if_neg q4).symm.trans hF
      by_cases q5 : a1 = 12
      · replace hF := (if_pos q5).symm.trans hF
        refine a_tableIn 119 dX0_begin_19 (by rw [q5]; decide) (by rw [q5]; decide) (by rw [q5]; rfl) (by decide) ?_
        refine a_aload_n dX0_begin_119 1 rfl rfl ?_
        refine a_bipush (v := (11 : Int32)) dX0_begin_120 (by decide) ?_
        refine a_iload_n dX0_begin_122 3 rfl rfl ?_
        refine a_iload dX0_begin_123 0 rfl ?_
        obtain ⟨r125, s125, e125, hF⟩ := bd_some hF
        refine a_invV hZ.1 (As := [.int (11 : Int32), .int a2, .int (a3 + (1 : Int32))]) (rest := []) (hZ.2 38 0 (by decide) Nat.one_pos) (lk_X0_61 d_) ⟨⟨by show 3 + d_ + 1 ≤ 3 + (d_ + 1); omega, by show 8 + (5 + 11) + 40 * (3 + d_) ≤ 40 * (3 + (d_ + 1)); omega⟩, Nat.le_refl 0, Nat.le_refl 0⟩ rfl (Nat.le_of_ble_eq_true rfl) dX0_begin_125 (ih_ e125) ?_
        show AW Z l (iX0_begin (d_ + 1)) (Pq (rI R)) 0 0 128 [(4, .int (a3 + (1 : Int32))), (0, .ref (za Z 38 0)), (1, .int a1), (2, .int a2), (3, .int a3)] [.int r125] s125
        refine a_aload_n dX0_begin_128 1 rfl rfl ?_
        refine a_aload_n dX0_begin_129 1 rfl rfl ?_
        refine a_getR hZ.1 (hZ.2 38 0 (by decide) Nat.one_pos) fl_X0_18 rfl 0 rfl dX0_begin_130 ?_
        refine a_iload_n dX0_begin_133 3 rfl rfl ?_
        obtain ⟨p6, hF⟩ := gd_some hF
        refine a_iald hZ.1 (s125 41 0 a2.toNatClampNeg) (hZ.2 41 0 (by decide) Nat.one_pos) rfl rfl (inb_vp p6) rfl dX0_begin_134 ?_
        obtain ⟨r135, s135, e135, hF⟩ := bd_some hF
        refine a_invV hZ.1 (As := [.int (s125 41 0 a2.toNatClampNeg)]) (rest := [.int r125]) (hZ.2 38 0 (by decide) Nat.one_pos) lk_X0_75 ⟨⟨by show 2 + 1 ≤ 3 + (d_ + 1); omega, by show 8 + (2 + 11) + 40 * 2 ≤ 40 * (3 + (d_ + 1)); omega⟩, Nat.le_refl 0, Nat.le_refl 0⟩ rfl (Nat.le_of_ble_eq_true rfl) dX0_begin_135 (m_X0_numberOf hZ  e135) ?_
        show AW Z l (iX0_begin (d_ + 1)) (Pq (rI R)) 0 0 138 [(4, .int (a3 + (1 : Int32))), (0, .ref (za Z 38 0)), (1, .int a1), (2, .int a2), (3, .int a3)] [.int r135, .int r125] s135
        refine a_iadd dX0_begin_138 ?_
        replace hF := Option.some.inj hF
        subst hF
        exact a_iret rfl (Nat.zero_le _) (Nat.zero_le _) dX0_begin_139 ⟨rfl, rfl⟩
      replace hF := (if_neg q5).symm.trans hF
      by_cases q7 : a1 = 13
      · replace hF := (if_pos q7).symm.trans hF
        refine a_tableIn 140 dX0_begin_19 (by rw [q7]; decide) (by rw [q7]; decide) (by rw [q7]; rfl) (by decide) ?_
        refine a_iconst (v := (2 : Int32)) dX0_begin_140 (by decide) ?_
        refine a_aload_n dX0_begin_141 1 rfl rfl ?_
        refine a_bipush (v := (12 : Int32)) dX0_begin_142 (by decide) ?_
        refine a_iload_n dX0_begin_144 3 rfl rfl ?_
        refine a_iload dX0_begin_145 0 rfl ?_
        obtain ⟨r147, s147, e147, hF⟩ := bd_some hF
        refine a_invV hZ.1 (As := [.int (12 : Int32), .int a2, .int (a3 + (1 : Int32))]) (rest := [.int (2 : Int32)]) (hZ.2 38 0 (by decide) Nat.one_pos) (lk_X0_61 d_) ⟨⟨by show 3 + d_ + 1 ≤ 3 + (d_ + 1); omega, by show 8 + (5 + 11) + 40 * (3 + d_) ≤ 40 * (3 + (d_ + 1)); omega⟩, Nat.le_refl 0, Nat.le_refl 0⟩ rfl (Nat.le_of_ble_eq_true rfl) dX0_begin_147 (ih_ e147) ?_
        show AW Z l (iX0_begin (d_ + 1)) (Pq (rI R)) 0 0 150 [(4, .int (a3 + (1 : Int32))), (0, .ref (za Z 38 0)), (1, .int a1), (2, .int a2), (3, .int a3)] [.int r147, .int (2 : Int32)] s147
        refine a_imul dX0_begin_150 ?_
        replace hF := Option.some.inj hF
        subst hF
        exact a_iret rfl (Nat.zero_le _) (Nat.zero_le _) dX0_begin_151 ⟨rfl, rfl⟩
      replace hF := (if_neg q7).symm.trans hF
      by_cases q8 : a1 = 14
      · replace hF := (if_pos q8).symm.trans hF
        refine a_tableIn 152 dX0_begin_19 (by rw [q8]; decide) (by rw [q8]; decide) (by rw [q8]; rfl) (by decide) ?_
        refine a_aload_n dX0_begin_152 1 rfl rfl ?_
        refine a_bipush (v := (10 : Int32)) dX0_begin_153 (by decide) ?_
        refine a_iload_n dX0_begin_155 3 rfl rfl ?_
        refine a_iload dX0_begin_156 0 rfl ?_
        obtain ⟨r158, s158, e158, hF⟩ := bd_some hF
        refine a_invV hZ.1 (As := [.int (10 : Int32), .int a2, .int (a3 + (1 : Int32))]) (rest := []) (hZ.2 38 0 (by decide) Nat.one_pos) (lk_X0_61 d_) ⟨⟨by show 3 + d_ + 1 ≤ 3 + (d_ + 1); omega, by show 8 + (5 + 11) + 40 * (3 + d_) ≤ 40 * (3 + (d_ + 1)); omega⟩, Nat.le_refl 0, Nat.le_refl 0⟩ rfl (Nat.le_of_ble_eq_true rfl) dX0_begin_158 (ih_ e158) ?_
        show AW Z l (iX0_begin (d_ + 1)) (Pq (rI R)) 0 0 161 [(4, .int (a3 + (1 : Int32))), (0, .ref (za Z 38 0)), (1, .int a1), (2, .int a2), (3, .int a3)] [.int r158] s158
        refine a_iconst (v := (2 : Int32)) dX0_begin_161 (by decide) ?_
        refine a_idiv dX0_begin_162 (by decide) ?_
        replace hF := Option.some.inj hF
        subst hF
        exact a_iret rfl (Nat.zero_le _) (Nat.zero_le _) dX0_begin_163 ⟨rfl, rfl⟩
      replace hF := (if_neg q8).symm.trans hF
      by_cases q9 : a1 = 20
      · replace hF := (if_pos q9).symm.trans hF
        refine a_tableIn 164 dX0_begin_19 (by rw [q9]; decide) (by rw [q9]; decide) (by rw [q9]; rfl) (by decide) ?_
        refine a_aload_n dX0_begin_164 1 rfl rfl ?_
        refine a_getI hZ.1 (s10 38 0 6) (hZ.2 38 0 (by decide) Nat.one_pos) fl_X0_51 rfl rfl dX0_begin_165 ?_
        replace hF := Option.some.inj hF
        subst hF
        exact a_iret rfl (Nat.zero_le _) (Nat.zero_le _) dX0_begin_168 ⟨rfl, rfl⟩
      replace hF := (if_neg q9).symm.trans hF
      by_cases q10 : a1 = 21
      · replace hF := (if_pos q10).symm.trans hF
        refine a_tableIn 169 dX0_begin_19 (by rw [q10]; decide) (by rw [q10]; decide) (by rw [q10]; rfl) (by decide) ?_
        refine a_aload_n dX0_begin_169 1 rfl rfl ?_
        refine a_bipush (v := (20 : Int32)) dX0_begin_170 (by decide) ?_
        refine a_iload_n dX0_begin_172 3 rfl rfl ?_
        refine a_iload dX0_begin_173 0 rfl ?_
        obtain ⟨r175, s175, e175, hF⟩ := bd_some hF
        refine a_invV hZ.1 (As := [.int (20 : Int32), .int a2, .int (a3 + (1 : Int32))]) (rest := []) (hZ.2 38 0 (by decide) Nat.one_pos) (lk_X0_61 d_) ⟨⟨by show 3 + d_ + 1 ≤ 3 + (d_ + 1); omega, by show 8 + (5 + 11) + 40 * (3 + d_) ≤ 40 * (3 + (d_ + 1)); omega⟩, Nat.le_refl 0, Nat.le_refl 0⟩ rfl (Nat.le_of_ble_eq_true rfl) dX0_begin_175 (ih_ e175) ?_
        show AW Z l (iX0_begin (d_ + 1)) (Pq (rI R)) 0 0 178 [(4, .int (a3 + (1 : Int32))), (0, .ref (za Z 38 0)), (1, .int a1), (2, .int a2), (3, .int a3)] [.int r175] s175
        refine a_bipush (v := (100 : Int32)) dX0_begin_178 (by decide) ?_
        refine a_iadd dX0_begin_180 ?_
        replace hF := Option.some.inj hF
        subst hF
        exact a_iret rfl (Nat.zero_le _) (Nat.zero_le _) dX0_begin_181 ⟨rfl, rfl⟩
      replace hF := (if_neg q10).symm.trans hF
      by_cases q11 : a1 = 22
      · replace hF := (if_pos q11).symm.trans hF
        refine a_tableIn 182 dX0_begin_19 (by rw [q11]; decide) (by rw [q11]; decide) (by rw [q11]; rfl) (by decide) ?_
        refine a_aload_n dX0_begin_182 1 rfl rfl ?_
        refine a_bipush (v := (20 : Int32)) dX0_begin_183 (by decide) ?_
        refine a_iload_n dX0_begin_185 3 rfl rfl ?_
        refine a_iload dX0_begin_186 0 rfl ?_
        obtain ⟨r188, s188, e188, hF⟩ := bd_some hF
        refine a_invV hZ.1 (As := [.int (20 : Int32), .int a2, .int (a3 + (1 : Int32))]) (rest := []) (hZ.2 38 0 (by decide) Nat.one_pos) (lk_X0_61 d_) ⟨⟨by show 3 + d_ + 1 ≤ 3 + (d_ + 1); omega, by show 8 + (5 + 11) + 40 * (3 + d_) ≤ 40 * (3 + (d_ + 1)); omega⟩, Nat.le_refl 0, Nat.le_refl 0⟩ rfl (Nat.le_of_ble_eq_true rfl) dX0_begin_188 (ih_ e188) ?_
        show AW Z l (iX0_begin (d_ + 1)) (Pq (rI R)) 0 0 191 [(4, .int (a3 + (1 : Int32))), (0, .ref (za Z 38 0)), (1, .int a1), (2, .int a2), (3, .int a3)] [.int r188] s188
        refine a_aload_n dX0_begin_191 1 rfl rfl ?_
        refine a_getI hZ.1 (s188 38 0 7) (hZ.2 38 0 (by decide) Nat.one_pos) fl_X0_54 rfl rfl dX0_begin_192 ?_
        refine a_iadd dX0_begin_195 ?_
        replace hF := Option.some.inj hF
        subst hF
        exact a_iret rfl (Nat.zero_le _) (Nat.zero_le _) dX0_begin_196 ⟨rfl, rfl⟩
      replace hF := (if_neg q11).symm.trans hF
      by_cases q12 : a1 = 23
      · replace hF := (if_pos q12).symm.trans hF
        refine a_tableIn 197 dX0_begin_19 (by rw [q12]; decide) (by rw [q12]; decide) (by rw [q12]; rfl) (by decide) ?_
        refine a_aload_n dX0_begin_197 1 rfl rfl ?_
        refine a_bipush (v := (22 : Int32)) dX0_begin_198 (by decide) ?_
        refine a_iload_n dX0_begin_200 3 rfl rfl ?_
        refine a_iload dX0_begin_201 0 rfl ?_
        obtain ⟨r203, s203, e203, hF⟩ := bd_some hF
        refine a_invV hZ.1 (As := [.int (22 : Int32), .int a2, .int (a3 + (1 : Int32))]) (rest := []) (hZ.2 38 0 (by decide) Nat.one_pos) (lk_X0_61 d_) ⟨⟨by show 3 + d_ + 1 ≤ 3 + (d_ + 1); omega, by show 8 + (5 + 11) + 40 * (3 + d_) ≤ 40 * (3 + (d_ + 1)); omega⟩, Nat.le_refl 0, Nat.le_refl 0⟩ rfl (Nat.le_of_ble_eq_true rfl) dX0_begin_203 (ih_ e203) ?_
        show AW Z l (iX0_begin (d_ + 1)) (Pq (rI R)) 0 0 206 [(4, .int (a3 + (1 : Int32))), (0, .ref (za Z 38 0)), (1, .int a1), (2, .int a2), (3, .int a3)] [.int r203] s203
        refine a_aload_n dX0_begin_206 1 rfl rfl ?_
        refine a_aload_n dX0_begin_207 1 rfl rfl ?_
        refine a_iload_n dX0_begin_208 3 rfl rfl ?_
        refine a_iconst (v := (0 : Int32)) dX0_begin_209 (by decide) ?_
        obtain ⟨r210, s210, e210, hF⟩ := bd_some hF
        refine a_invV hZ.1 (As := [.int a2, .int (0 : Int32)]) (rest := [.ref (za Z 38 0), .int r203]) (hZ.2 38 0 (by decide) Nat.one_pos) lk_X0_57 ⟨⟨by show 0 + 1 ≤ 3 + (d_ + 1); omega, by show 8 + (3 + 11) + 40 * 0 ≤ 40 * (3 + (d_ + 1)); omega⟩, Nat.le_refl 0, Nat.le_refl 0⟩ rfl (Nat.le_of_ble_eq_true rfl) dX0_begin_210 (m_X0_bodyFor hZ  e210) ?_
        show AW Z l (iX0_begin (d_ + 1)) (Pq (rI R)) 0 0 213 [(4, .int (a3 + (1 : Int32))), (0, .ref (za Z 38 0)), (1, .int a1), (2, .int a2), (3, .int a3)] [.int r210, .ref (za Z 38 0), .int r203] s210
        refine a_iload_n dX0_begin_213 3 rfl rfl ?_
        refine a_iload dX0_begin_214 0 rfl ?_
        obtain ⟨r216, s216, e216, hF⟩ := bd_some hF
        refine a_invV hZ.1 (As := [.int r210, .int a2, .int (a3 + (1 : Int32))]) (rest := [.int r203]) (hZ.2 38 0 (by decide) Nat.one_pos) (lk_X0_61 d_) ⟨⟨by show 3 + d_ + 1 ≤ 3 + (d_ + 1); omega, by show 8 + (5 + 11) + 40 * (3 + d_) ≤ 40 * (3 + (d_ + 1)); omega⟩, Nat.le_refl 0, Nat.le_refl 0⟩ rfl (Nat.le_of_ble_eq_true rfl) dX0_begin_216 (ih_ e216) ?_
        show AW Z l (iX0_begin (d_ + 1)) (Pq (rI R)) 0 0 219 [(4, .int (a3 + (1 : Int32))), (0, .ref (za Z 38 0)), (1, .int a1), (2, .int a2), (3, .int a3)] [.int r216, .int r203] s216
        refine a_iadd dX0_begin_219 ?_
        replace hF := Option.some.inj hF
        subst hF
        exact a_iret rfl (Nat.zero_le _) (Nat.zero_le _) dX0_begin_220 ⟨rfl, rfl⟩
      replace hF := (if_neg q12).symm.trans hF
      by_cases q13 : a1 = 15
      · refine a_tableIn 221 dX0_begin_19 (by rw [q13]; decide) (by rw [q13]; decide) (by rw [q13]; rfl) (by decide) ?_
        refine a_iconst (v := (0 : Int32)) dX0_begin_221 (by decide) ?_
        replace hF := Option.some.inj hF
        subst hF
        exact a_iret rfl (Nat.zero_le _) (Nat.zero_le _) dX0_begin_222 ⟨rfl, rfl⟩
      by_cases q14 : a1 = 16
      · refine a_tableIn 221 dX0_begin_19 (by rw [q14]; decide) (by rw [q14]; decide) (by rw [q14]; rfl) (by decide) ?_
        refine a_iconst (v := (0 : Int32)) dX0_begin_221 (by decide) ?_
        replace hF := Option.some.inj hF
        subst hF
        exact a_iret rfl (Nat.zero_le _) (Nat.zero_le _) dX0_begin_222 ⟨rfl, rfl⟩
      by_cases q15 : a1 = 17
      · refine a_tableIn 221 dX0_begin_19 (by rw [q15]; decide) (by rw [q15]; decide) (by rw [q15]; rfl) (by decide) ?_
        refine a_iconst (v := (0 : Int32)) dX0_begin_221 (by decide) ?_
        replace hF := Option.some.inj hF
        subst hF
        exact a_iret rfl (Nat.zero_le _) (Nat.zero_le _) dX0_begin_222 ⟨rfl, rfl⟩
      by_cases q16 : a1 = 18
      · refine a_tableIn 221 dX0_begin_19 (by rw [q16]; decide) (by rw [q16]; decide) (by rw [q16]; rfl) (by decide) ?_
        refine a_iconst (v := (0 : Int32)) dX0_begin_221 (by decide) ?_
        replace hF := Option.some.inj hF
        subst hF
        exact a_iret rfl (Nat.zero_le _) (Nat.zero_le _) dX0_begin_222 ⟨rfl, rfl⟩
      by_cases q17 : a1 = 19
      · refine a_tableIn 221 dX0_begin_19 (by rw [q17]; decide) (by rw [q17]; decide) (by rw [q17]; rfl) (by decide) ?_
        refine a_iconst (v := (0 : Int32)) dX0_begin_221 (by decide) ?_
        replace hF := Option.some.inj hF
        subst hF
        exact a_iret rfl (Nat.zero_le _) (Nat.zero_le _) dX0_begin_222 ⟨rfl, rfl⟩
      refine a_tableOut 221 dX0_begin_19 (by have n10 : (a1).toInt ≠ 10 := ne_ti q2; have n11 : (a1).toInt ≠ 11 := ne_ti q4; have n12 : (a1).toInt ≠ 12 := ne_ti q5; have n13 : (a1).toInt ≠ 13 := ne_ti q7; have n14 : (a1).toInt ≠ 14 := ne_ti q8; have n20 : (a1).toInt ≠ 20 := ne_ti q9; have n21 : (a1).toInt ≠ 21 := ne_ti q10; have n22 : (a1).toInt ≠ 22 := ne_ti q11; have n23 : (a1).toInt ≠ 23 := ne_ti q12; have n15 : (a1).toInt ≠ 15 := ne_ti q13; have n16 : (a1).toInt ≠ 16 := ne_ti q14; have n17 : (a1).toInt ≠ 17 := ne_ti q15; have n18 : (a1).toInt ≠ 18 := ne_ti q16; have n19 : (a1).toInt ≠ 19 := ne_ti q17; omega) (by decide) ?_
      refine a_iconst (v := (0 : Int32)) dX0_begin_221 (by decide) ?_
      replace hF := Option.some.inj hF
      subst hF
      exact a_iret rfl (Nat.zero_le _) (Nat.zero_le _) dX0_begin_222 ⟨rfl, rfl⟩
    · replace hF := (if_neg q1).symm.trans hF
      refine a_iconst (v := (0 : Int32)) dX0_begin_6 (by decide) ?_
      replace hF := Option.some.inj hF
      subst hF
      exact a_iret rfl (Nat.zero_le _) (Nat.zero_le _) dX0_begin_7 ⟨rfl, rfl⟩
-- X0_answer
set_option maxRecDepth 100000 in
set_option maxHeartbeats 4000000 in
theorem w_X0_answer {Z : ZE} {l : Launch} (hZ : OkX Z) {a1 : Int32} {a2 : Int32} {a3 : Int32} {a4 : Int32}  {R : Int32 × St}    (s : St) (hF : F_X0_answer (zg Z) a1 a2 a3 a4  s = some R) : AW Z l iX0_answer (Pq (rI R)) 0 0 0 [(0, .ref (za Z 38 0)), (1, .int a1), (2, .int a2), (3, .int a3), (4, .int a4)] [] s := by
  unfold F_X0_answer at hF
  refine a_aload_n dX0_answer_0 0 rfl rfl ?_
  refine a_iconst (v := (0 : Int32)) dX0_answer_1 (by decide) ?_
  refine a_put hZ.1 (hZ.2 38 0 (by decide) Nat.one_pos) fl_X0_48 rfl rfl rfl dX0_answer_2 ?_
  refine a_aload_n dX0_answer_5 0 rfl rfl ?_
  refine a_iload_n dX0_answer_6 3 rfl rfl ?_
  refine a_put hZ.1 (hZ.2 38 0 (by decide) Nat.one_pos) fl_X0_51 rfl rfl rfl dX0_answer_7 ?_
  refine a_aload_n dX0_answer_10 0 rfl rfl ?_
  refine a_iload dX0_answer_11 4 rfl ?_
  refine a_put hZ.1 (hZ.2 38 0 (by decide) Nat.one_pos) fl_X0_54 rfl rfl rfl dX0_answer_13 ?_
  refine a_aload_n dX0_answer_16 0 rfl rfl ?_
  refine a_aload_n dX0_answer_17 0 rfl rfl ?_
  refine a_iload_n dX0_answer_18 1 rfl rfl ?_
  refine a_iload_n dX0_answer_19 2 rfl rfl ?_
  obtain ⟨r20, s20, e20, hF⟩ := bd_some hF
  refine a_invV hZ.1 (As := [.int a1, .int a2]) (rest := [.ref (za Z 38 0)]) (hZ.2 38 0 (by decide) Nat.one_pos) lk_X0_57 ⟨⟨by decide, by decide⟩, by decide, by decide⟩ rfl (Nat.le_of_ble_eq_true rfl) dX0_answer_20 (m_X0_bodyFor hZ  e20) ?_
  show AW Z l iX0_answer (Pq (rI R)) 0 0 23 [(0, .ref (za Z 38 0)), (1, .int a1), (2, .int a2), (3, .int a3), (4, .int a4)] [.int r20, .ref (za Z 38 0)] s20
  refine a_iload_n dX0_answer_23 1 rfl rfl ?_
  refine a_iconst (v := (0 : Int32)) dX0_answer_24 (by decide) ?_
  obtain ⟨r25, s25, e25, hF⟩ := bd_some hF
  refine a_invV hZ.1 (As := [.int r20, .int a1, .int (0 : Int32)]) (rest := []) (hZ.2 38 0 (by decide) Nat.one_pos) (lk_X0_61 12) ⟨⟨by decide, by decide⟩, by decide, by decide⟩ rfl (Nat.le_of_ble_eq_true rfl) dX0_answer_25 (m_X0_begin hZ 12 e25) ?_
  show AW Z l iX0_answer (Pq (rI R)) 0 0 28 [(0, .ref (za Z 38 0)), (1, .int a1), (2, .int a2), (3, .int a3), (4, .int a4)] [.int r25] s25
  replace hF := Option.some.inj hF
  subst hF
  exact a_iret rfl (Nat.zero_le _) (Nat.zero_le _) dX0_answer_28 ⟨rfl, rfl⟩
theorem m_X0_answer {Z : ZE} {l : Launch} (hZ : OkX Z) {a1 : Int32} {a2 : Int32} {a3 : Int32} {a4 : Int32}  {s : St} {R : Int32 × St} (hF : F_X0_answer (zg Z) a1 a2 a3 a4 s = some R) : Sp Z l yX0_answer iX0_answer [.ref (za Z 38 0), .int a1, .int a2, .int a3, .int a4] s (rI R) :=
  Sp.of (by decide) rfl (Nat.le_of_ble_eq_true rfl) (w_X0_answer hZ  s hF)
-- X0_canBeMadeOf
set_option maxRecDepth 100000 in
set_option maxHeartbeats 4000000 in
theorem w_X0_canBeMadeOf {Z : ZE} {l : Launch} (hZ : OkX Z) {a1 : Int32} {a2 : Int32}  {R : Int32 × St}    (s : St) (hF : F_X0_canBeMadeOf (zg Z) a1 a2  s = some R) : AW Z l iX0_canBeMadeOf (Pq (rI R)) 0 0 0 [(0, .ref (za Z 38 0)), (1, .int a1), (2, .int a2)] [] s := by
  unfold F_X0_canBeMadeOf at hF
  refine a_gets hZ.1 (c := 0) (by decide) kw_828 dX0_canBeMadeOf_0 ?_
  refine a_iload_n dX0_canBeMadeOf_3 1 rfl rfl ?_
  obtain ⟨p1, hF⟩ := gd_some hF
  refine a_ti hZ.1 (c := 0) (by decide) (inb_vp p1) dX0_canBeMadeOf_4 ?_
  refine a_ldc (v := (-1000000)) kw_830 dX0_canBeMadeOf_5 ?_
  refine a_icmp_ne 22 dX0_canBeMadeOf_7 (by decide) (fun q2 => ?_) (fun q2 => ?_)
  · replace hF := (if_neg q2).symm.trans hF
    refine a_aload_n dX0_canBeMadeOf_22 0 rfl rfl ?_
    refine a_iload_n dX0_canBeMadeOf_23 2 rfl rfl ?_
    obtain ⟨r24, s24, e24, hF⟩ := bd_some hF
    refine a_invV hZ.1 (As := [.int a2]) (rest := []) (hZ.2 38 0 (by decide) Nat.one_pos) lk_X0_36 ⟨⟨by decide, by decide⟩, by decide, by decide⟩ rfl (Nat.le_of_ble_eq_true rfl) dX0_canBeMadeOf_24 (m_X0_hasThing hZ  e24) ?_
    show AW Z l iX0_canBeMadeOf (Pq (rI R)) 0 0 27 [(0, .ref (za Z 38 0)), (1, .int a1), (2, .int a2)] [.int r24] s24
    refine a_if_eq 48 dX0_canBeMadeOf_27 (by decide) (fun q3 => ?_) (fun q3 => ?_)
    · replace hF := (if_pos q3).symm.trans hF
      refine a_iconst (v := (0 : Int32)) dX0_canBeMadeOf_48 (by decide) ?_
      replace hF := Option.some.inj hF
      subst hF
      exact a_zret rfl rfl (Nat.zero_le _) (Nat.zero_le _) dX0_canBeMadeOf_49 ⟨rfl, rfl⟩
    · replace hF := (if_neg q3).symm.trans hF
      refine a_aload_n dX0_canBeMadeOf_30 0 rfl rfl ?_
      refine a_getR hZ.1 (hZ.2 38 0 (by decide) Nat.one_pos) fl_X0_9 rfl 0 rfl dX0_canBeMadeOf_31 ?_
      refine a_iload_n dX0_canBeMadeOf_34 2 rfl rfl ?_
      obtain ⟨p4, hF⟩ := gd_some hF
      refine a_iald hZ.1 (s24 39 0 a2.toNatClampNeg) (hZ.2 39 0 (by decide) Nat.one_pos) rfl rfl (inb_vp p4) rfl dX0_canBeMadeOf_35 ?_
      refine a_gets hZ.1 (c := 0) (by decide) kw_828 dX0_canBeMadeOf_36 ?_
      refine a_iload_n dX0_canBeMadeOf_39 1 rfl rfl ?_
      obtain ⟨p5, hF⟩ := gd_some hF
      refine a_ti hZ.1 (c := 0) (by decide) (inb_vp p5) dX0_canBeMadeOf_40 ?_
      refine a_icmp_ne 48 dX0_canBeMadeOf_41 (by decide) (fun q6 => ?_) (fun q6 => ?_)
      · replace hF := (if_neg q6).symm.trans hF
        refine a_iconst (v := (0 : Int32)) dX0_canBeMadeOf_48 (by decide) ?_
        replace hF := Option.some.inj hF
        subst hF
        exact a_zret rfl rfl (Nat.zero_le _) (Nat.zero_le _) dX0_canBeMadeOf_49 ⟨rfl, rfl⟩
      · replace hF := (if_pos q6).symm.trans hF
        refine a_iconst (v := (1 : Int32)) dX0_canBeMadeOf_44 (by decide) ?_
        refine a_goto 49 dX0_canBeMadeOf_45 (by decide) ?_
        replace hF := Option.some.inj hF
        subst hF
        exact a_zret rfl rfl (Nat.zero_le _) (Nat.zero_le _) dX0_canBeMadeOf_49 ⟨rfl, rfl⟩
  · replace hF := (if_pos q2).symm.trans hF
    refine a_iload_n dX0_canBeMadeOf_10 2 rfl rfl ?_
    refine a_ldc (v := (-1000000)) kw_830 dX0_canBeMadeOf_11 ?_
    refine a_icmp_ne 20 dX0_canBeMadeOf_13 (by decide) (fun q7 => ?_) (fun q7 => ?_)
    · replace hF := (if_neg q7).symm.trans hF
      refine a_iconst (v := (0 : Int32)) dX0_canBeMadeOf_20 (by decide) ?_
      replace hF := Option.some.inj hF
      subst hF
      exact a_zret rfl rfl (Nat.zero_le _) (Nat.zero_le _) dX0_canBeMadeOf_21 ⟨rfl, rfl⟩
    · replace hF := (if_pos q7).symm.trans hF
      refine a_iconst (v := (1 : Int32)) dX0_canBeMadeOf_16 (by decide) ?_
      refine a_goto 21 dX0_canBeMadeOf_17 (by decide) ?_
      replace hF := Option.some.inj hF
      subst hF
      exact a_zret rfl rfl (Nat.zero_le _) (Nat.zero_le _) dX0_canBeMadeOf_21 ⟨rfl, rfl⟩
theorem m_X0_canBeMadeOf {Z : ZE} {l : Launch} (hZ : OkX Z) {a1 : Int32} {a2 : Int32}  {s : St} {R : Int32 × St} (hF : F_X0_canBeMadeOf (zg Z) a1 a2 s = some R) : Sp Z l yX0_canBeMadeOf iX0_canBeMadeOf [.ref (za Z 38 0), .int a1, .int a2] s (rI R) :=
  Sp.of (by decide) rfl (Nat.le_of_ble_eq_true rfl) (w_X0_canBeMadeOf hZ  s hF)
-- X0_isA
set_option maxRecDepth 100000 in
set_option maxHeartbeats 4000000 in
theorem w_X0_isA_4 {Z : ZE} {l : Launch} (hZ : OkX Z) {a0 : Int32} {a1 : Int32}  {R : Int32 × St}  : ∀ (n_ : Nat) (v2 : Int32) (v3 : Int32)  (s : St), F_X0_isA_4 (zg Z) a0 a1 n_ v2 v3 s = some R → AW Z l iX0_isA (Pq (rI R)) 0 0 4 [(1, .int a1), (2, .int v2), (3, .int v3)] [] s := by
  intro n_
  induction n_ with
  | zero =>
    intro v2 v3 s hF
    exact absurd hF (by rw [F_X0_isA_4]; exact fun q => by cases q)
  | succ n_ w4_ =>
    intro v2 v3 s hF
    rw [F_X0_isA_4] at hF
    refine a_iload_n dX0_isA_4 2 rfl rfl ?_
    refine a_gets hZ.1 (c := 1) (by decide) kw_890 dX0_isA_5 ?_
    refine a_tlen hZ.1 (c := 1) (by decide) dX0_isA_8 ?_
    refine a_icmp_ge 37 dX0_isA_9 (by decide) (fun q1 => ?_) (fun q1 => ?_)
    · replace hF := (if_pos q1).symm.trans hF
      refine a_iconst (v := (0 : Int32)) dX0_isA_37 (by decide) ?_
      replace hF := Option.some.inj hF
      subst hF
      exact a_zret rfl rfl (Nat.zero_le _) (Nat.zero_le _) dX0_isA_38 ⟨rfl, rfl⟩
    · replace hF := (if_neg q1).symm.trans hF
      refine a_iload_n dX0_isA_12 1 rfl rfl ?_
      refine a_ldc (v := (-1000000)) kw_830 dX0_isA_13 ?_
      refine a_icmp_eq 37 dX0_isA_15 (by decide) (fun q2 => ?_) (fun q2 => ?_)
      · replace hF := (if_pos q2).symm.trans hF
        refine a_iconst (v := (0 : Int32)) dX0_isA_37 (by decide) ?_
        replace hF := Option.some.inj hF
        subst hF
        exact a_zret rfl rfl (Nat.zero_le _) (Nat.zero_le _) dX0_isA_38 ⟨rfl, rfl⟩
      · replace hF := (if_neg q2).symm.trans hF
        refine a_iload_n dX0_isA_18 1 rfl rfl ?_
        refine a_iload_n dX0_isA_19 0 rfl rfl ?_
        refine a_icmp_ne 25 dX0_isA_20 (by decide) (fun q3 => ?_) (fun q3 => ?_)
        · replace hF := (if_neg q3).symm.trans hF
          refine a_gets hZ.1 (c := 1) (by decide) kw_890 dX0_isA_25 ?_
          refine a_iload_n dX0_isA_28 1 rfl rfl ?_
          obtain ⟨p4, hF⟩ := gd_some hF
          refine a_ti hZ.1 (c := 1) (by decide) (inb_vp p4) dX0_isA_29 ?_
          refine a_istore_n [(2, .int (stV 1 v2.toNatClampNeg)), (1, .int a1), (3, .int v3)] dX0_isA_30 rfl (by decide) rfl ?_
          refine a_iinc [(3, .int (v3 + 1)), (2, .int (stV 1 v2.toNatClampNeg)), (1, .int a1)] dX0_isA_31 2 rfl rfl (by decide) rfl ?_
          refine a_goto 4 dX0_isA_34 (by decide) ?_
          refine a_loc [(1, .int a1), (2, .int (stV 1 v2.toNatClampNeg)), (3, .int (v3 + 1))] [2, 1, 0] rfl ?_
          exact w4_ (stV 1 v2.toNatClampNeg) (v3 + 1)  _ hF
        · replace hF := (if_pos q3).symm.trans hF
          refine a_iconst (v := (1 : Int32)) dX0_isA_23 (by decide) ?_
          replace hF := Option.some.inj hF
          subst hF
          exact a_zret rfl rfl (Nat.zero_le _) (Nat.zero_le _) dX0_isA_24 ⟨rfl, rfl⟩
set_option maxRecDepth 100000 in
set_option maxHeartbeats 4000000 in
theorem w_X0_isA {Z : ZE} {l : Launch} (hZ : OkX Z) {a0 : Int32} {a1 : Int32}  {R : Int32 × St}    (s : St) (hF : F_X0_isA (zg Z) a0 a1  s = some R) : AW Z l iX0_isA (Pq (rI R)) 0 0 0 [(0, .int a0), (1, .int a1)] [] s := by
  unfold F_X0_isA at hF
  refine a_iload_n dX0_isA_0 0 rfl rfl ?_
  refine a_istore_n [(2, .int a0), (0, .int a0), (1, .int a1)] dX0_isA_1 rfl (by decide) rfl ?_
  refine a_iconst (v := (0 : Int32)) dX0_isA_2 (by decide) ?_
  refine a_istore_n [(3, .int (0 : Int32)), (2, .int a0), (0, .int a0), (1, .int a1)] dX0_isA_3 rfl (by decide) rfl ?_
  refine a_loc [(1, .int a1), (2, .int a0), (3, .int (0 : Int32))] [3, 1, 0] rfl ?_
  exact w_X0_isA_4 (l := l) hZ   fu a0 (0 : Int32)  _ hF
theorem m_X0_isA {Z : ZE} {l : Launch} (hZ : OkX Z) {a0 : Int32} {a1 : Int32}  {s : St} {R : Int32 × St} (hF : F_X0_isA (zg Z) a0 a1 s = some R) : Sp Z l yX0_isA iX0_isA [.int a0, .int a1] s (rI R) :=
  Sp.of (by decide) rfl (Nat.le_of_ble_eq_true rfl) (w_X0_isA hZ  s hF)
-- X0_yarns
set_option maxRecDepth 100000 in
set_option maxHeartbeats 4000000 in
theorem w_X0_yarns_28 {Z : ZE} {l : Launch} (hZ : OkX Z)   {R : Int32 × St} (h4_ : Int32 → Int32 → St → Option (Int32 × St)) (w4_ : ∀ (v1 : Int32) (v2 : Int32)  (s : St), h4_ v1 v2 s = some R → AW Z l iX0_yarns (Pq (rI R)) 0 0 4 [(0, .ref (za Z 38 0)), (1, .int v1), (2, .int v2)] [] s) (v1 : Int32) (v2 : Int32)  (s : St) (hF : F_X0_yarns_28 (zg Z)  h4_ v1 v2 s = some R) : AW Z l iX0_yarns (Pq (rI R)) 0 0 28 [(0, .ref (za Z 38 0)), (1, .int v1), (2, .int v2)] [] s := by
  unfold F_X0_yarns_28 at hF
  refine a_iinc [(2, .int (v2 + 1)), (0, .ref (za Z 38 0)), (1, .int v1)] dX0_yarns_28 2 rfl rfl (by decide) rfl ?_
  refine a_goto 4 dX0_yarns_31 (by decide) ?_
  refine a_loc [(0, .ref (za Z 38 0)), (1, .int v1), (2, .int (v2 + 1))] [1, 2, 0] rfl ?_
  exact w4_ v1 (v2 + 1)  _ hF
set_option maxRecDepth 100000 in
set_option maxHeartbeats 4000000 in
theorem w_X0_yarns_4 {Z : ZE} {l : Launch} (hZ : OkX Z)   {R : Int32 × St}  : ∀ (n_ : Nat) (v1 : Int32) (v2 : Int32)  (s : St), F_X0_yarns_4 (zg Z)  n_ v1 v2 s = some R → AW Z l iX0_yarns (Pq (rI R)) 0 0 4 [(0, .ref (za Z 38 0)), (1, .int v1), (2, .int v2)] [] s := by
  intro n_
  induction n_ with
  | zero =>
    intro v1 v2 s hF
    exact absurd hF (by rw [F_X0_yarns_4]; exact fun q => by cases q)
  | succ n_ w4_ =>
    intro v1 v2 s hF
    rw [F_X0_yarns_4] at hF
    refine a_iload_n dX0_yarns_4 2 rfl rfl ?_
    refine a_aload_n dX0_yarns_5 0 rfl rfl ?_
    refine a_getI hZ.1 (s 38 0 4) (hZ.2 38 0 (by decide) Nat.one_pos) fl_X0_24 rfl rfl dX0_yarns_6 ?_
    refine a_icmp_ge 34 dX0_yarns_9 (by decide) (fun q1 => ?_) (fun q1 => ?_)
    · replace hF := (if_pos q1).symm.trans hF
      refine a_iload_n dX0_yarns_34 1 rfl rfl ?_
      replace hF := Option.some.inj hF
      subst hF
      exact a_iret rfl (Nat.zero_le _) (Nat.zero_le _) dX0_yarns_35 ⟨rfl, rfl⟩
    · replace hF := (if_neg q1).symm.trans hF
      refine a_aload_n dX0_yarns_12 0 rfl rfl ?_
      refine a_getR hZ.1 (hZ.2 38 0 (by decide) Nat.one_pos) fl_X0_9 rfl 0 rfl dX0_yarns_13 ?_
      refine a_iload_n dX0_yarns_16 2 rfl rfl ?_
      obtain ⟨p2, hF⟩ := gd_some hF
      refine a_iald hZ.1 (s 39 0 v2.toNatClampNeg) (hZ.2 39 0 (by decide) Nat.one_pos) rfl rfl (inb_vp p2) rfl dX0_yarns_17 ?_
      refine a_iconst (v := (2 : Int32)) dX0_yarns_18 (by decide) ?_
      obtain ⟨r19, s19, e19, hF⟩ := bd_some hF
      refine a_invS hZ.1 (As := [.int (s 39 0 v2.toNatClampNeg), .int (2 : Int32)]) (rest := []) lk_X0_44 ⟨⟨by decide, by decide⟩, by decide, by decide⟩ rfl (Nat.le_of_ble_eq_true rfl) dX0_yarns_19 (m_X0_isA hZ  e19) ?_
      show AW Z l iX0_yarns (Pq (rI R)) 0 0 22 [(0, .ref (za Z 38 0)), (1, .int v1), (2, .int v2)] [.int r19] s19
      refine a_if_eq 28 dX0_yarns_22 (by decide) (fun q3 => ?_) (fun q3 => ?_)
      · replace hF := (if_pos q3).symm.trans hF
        exact w_X0_yarns_28 (l := l) hZ  (F_X0_yarns_4 (zg Z)  n_) w4_ v1 v2  _ hF
      · replace hF := (if_neg q3).symm.trans hF
        refine a_iinc [(1, .int (v1 + 1)), (0, .ref (za Z 38 0)), (2, .int v2)] dX0_yarns_25 1 rfl rfl (by decide) rfl ?_
        refine a_loc [(0, .ref (za Z 38 0)), (1, .int (v1 + 1)), (2, .int v2)] [1, 0, 2] rfl ?_
        exact w_X0_yarns_28 (l := l) hZ  (F_X0_yarns_4 (zg Z)  n_) w4_ (v1 + 1) v2  _ hF
set_option maxRecDepth 100000 in
set_option maxHeartbeats 4000000 in
theorem w_X0_yarns {Z : ZE} {l : Launch} (hZ : OkX Z)   {R : Int32 × St}    (s : St) (hF : F_X0_yarns (zg Z)   s = some R) : AW Z l iX0_yarns (Pq (rI R)) 0 0 0 [(0, .ref (za Z 38 0))] [] s := by
  unfold F_X0_yarns at hF
  refine a_iconst (v := (0 : Int32)) dX0_yarns_0 (by decide) ?_
  refine a_istore_n [(1, .int (0 : Int32)), (0, .ref (za Z 38 0))] dX0_yarns_1 rfl (by decide) rfl ?_
  refine a_iconst (v := (0 : Int32)) dX0_yarns_2 (by decide) ?_
  refine a_istore_n [(2, .int (0 : Int32)), (1, .int (0 : Int32)), (0, .ref (za Z 38 0))] dX0_yarns_3 rfl (by decide) rfl ?_
  refine a_loc [(0, .ref (za Z 38 0)), (1, .int (0 : Int32)), (2, .int (0 : Int32))] [2, 1, 0] rfl ?_
  exact w_X0_yarns_4 (l := l) hZ   fu (0 : Int32) (0 : Int32)  _ hF
theorem m_X0_yarns {Z : ZE} {l : Launch} (hZ : OkX Z)   {s : St} {R : Int32 × St} (hF : F_X0_yarns (zg Z)  s = some R) : Sp Z l yX0_yarns iX0_yarns [.ref (za Z 38 0)] s (rI R) :=
  Sp.of (by decide) rfl (Nat.le_of_ble_eq_true rfl) (w_X0_yarns hZ  s hF)
-- X10_found
set_option maxRecDepth 100000 in
set_option maxHeartbeats 4000000 in
theorem w_X10_found {Z : ZE} {l : Launch} (hZ : OkX Z) {a1 : Int32}  {R : Int32 × St}    (s : St) (hF : F_X10_found (zg Z) a1  s = some R) : AW Z l iX10_found (Pq (rI R)) 0 0 0 [(0, .ref (za Z 0 0)), (1, .int a1)] [] s := by
  unfold F_X10_found at hF
  refine a_aload_n dX10_found_0 0 rfl rfl ?_
  refine a_iload_n dX10_found_1 1 rfl rfl ?_
  refine a_put hZ.1 (hZ.2 0 0 (by decide) Nat.one_pos) fl_X10_313 rfl rfl rfl dX10_found_2 ?_
  refine a_ldcw (v := (-1000010)) kw_329 dX10_found_5 ?_
  refine a_iload_n dX10_found_8 1 rfl rfl ?_
  refine a_isub dX10_found_9 ?_
  replace hF := Option.some.inj hF
  subst hF
  exact a_iret rfl (Nat.zero_le _) (Nat.zero_le _) dX10_found_10 ⟨rfl, rfl⟩
theorem m_X10_found {Z : ZE} {l : Launch} (hZ : OkX Z) {a1 : Int32}  {s : St} {R : Int32 × St} (hF : F_X10_found (zg Z) a1 s = some R) : Sp Z l yX10_found iX10_found [.ref (za Z 0 0), .int a1] s (rI R) :=
  Sp.of (by decide) rfl (Nat.le_of_ble_eq_true rfl) (w_X10_found hZ  s hF)
-- X10_unfound
set_option maxRecDepth 100000 in
set_option maxHeartbeats 4000000 in
theorem w_X10_unfound {Z : ZE} {l : Launch} (hZ : OkX Z) {a1 : Int32}  {R : Int32 × St}    (s : St) (hF : F_X10_unfound (zg Z) a1  s = some R) : AW Z l iX10_unfound (Pq (rI R)) 0 0 0 [(0, .ref (za Z 0 0)), (1, .int a1)] [] s := by
  unfold F_X10_unfound at hF
  refine a_aload_n dX10_unfound_0 0 rfl rfl ?_
  refine a_iconst (v := (0 : Int32)) dX10_unfound_1 (by decide) ?_
  refine a_put hZ.1 (hZ.2 0 0 (by decide) Nat.one_pos) fl_X10_313 rfl rfl rfl dX10_unfound_2 ?_
  refine a_iload_n dX10_unfound_5 1 rfl rfl ?_
  replace hF := Option.some.inj hF
  subst hF
  exact a_iret rfl (Nat.zero_le _) (Nat.zero_le _) dX10_unfound_6 ⟨rfl, rfl⟩
theorem m_X10_unfound {Z : ZE} {l : Launch} (hZ : OkX Z) {a1 : Int32}  {s : St} {R : Int32 × St} (hF : F_X10_unfound (zg Z) a1 s = some R) : Sp Z l yX10_unfound iX10_unfound [.ref (za Z 0 0), .int a1] s (rI R) :=
  Sp.of (by decide) rfl (Nat.le_of_ble_eq_true rfl) (w_X10_unfound hZ  s hF)
-- X10_as
set_option maxRecDepth 100000 in
set_option maxHeartbeats 4000000 in
theorem w_X10_as {Z : ZE} {l : Launch} (hZ : OkX Z) {a1 : Int32} {a2 : Int32}  {R : Int32 × St}    (s : St) (hF : F_X10_as (zg Z) a1 a2  s = some R) : AW Z l iX10_as (Pq (rI R)) 0 0 0 [(0, .ref (za Z 0 0)), (1, .int a1), (2, .int a2)] [] s := by
  unfold F_X10_as at hF
  refine a_aload_n dX10_as_0 0 rfl rfl ?_
  refine a_getR hZ.1 (hZ.2 0 0 (by decide) Nat.one_pos) fl_X10_59 rfl 0 rfl dX10_as_1 ?_
  refine a_iload_n dX10_as_4 1 rfl rfl ?_
  obtain ⟨r5, s5, e5, hF⟩ := bd_some hF
  refine a_invV hZ.1 (As := [.int a1]) (rest := []) (hZ.2 38 0 (by decide) Nat.one_pos) lk_X10_273 ⟨⟨by decide, by decide⟩, by decide, by decide⟩ rfl (Nat.le_of_ble_eq_true rfl) dX10_as_5 (m_X0_hasThing hZ  e5) ?_
  show AW Z l iX10_as (Pq (rI R)) 0 0 8 [(0, .ref (za Z 0 0)), (1, .int a1), (2, .int a2)] [.int r5] s5
  refine a_if_eq 20 dX10_as_8 (by decide) (fun q1 => ?_) (fun q1 => ?_)
  · replace hF := (if_pos q1).symm.trans hF
    refine a_ldc (v := (-1000001)) kw_324 dX10_as_20 ?_
    replace hF := Option.some.inj hF
    subst hF
    exact a_iret rfl (Nat.zero_le _) (Nat.zero_le _) dX10_as_22 ⟨rfl, rfl⟩
  · replace hF := (if_neg q1).symm.trans hF
    refine a_iload_n dX10_as_11 2 rfl rfl ?_
    refine a_iconst (v := (0 : Int32)) dX10_as_12 (by decide) ?_
    refine a_iconst (v := (5 : Int32)) dX10_as_13 (by decide) ?_
    obtain ⟨r14, s14, e14, hF⟩ := bd_some hF
    refine a_invS hZ.1 (As := [.int a2, .int (0 : Int32), .int (5 : Int32)]) (rest := []) lk_X10_75 ⟨⟨by decide, by decide⟩, by decide, by decide⟩ rfl (Nat.le_of_ble_eq_true rfl) dX10_as_14 (m_X10_within hZ  e14) ?_
    show AW Z l iX10_as (Pq (rI R)) 0 0 17 [(0, .ref (za Z 0 0)), (1, .int a1), (2, .int a2)] [.int r14] s14
    refine a_if_ne 23 dX10_as_17 (by decide) (fun q2 => ?_) (fun q2 => ?_)
    · replace hF := (if_neg q2).symm.trans hF
      refine a_aload_n dX10_as_23 0 rfl rfl ?_
      refine a_getR hZ.1 (hZ.2 0 0 (by decide) Nat.one_pos) fl_X10_59 rfl 0 rfl dX10_as_24 ?_
      refine a_getR hZ.1 (hZ.2 38 0 (by decide) Nat.one_pos) fl_X10_276 rfl 0 rfl dX10_as_27 ?_
      refine a_iload_n dX10_as_30 1 rfl rfl ?_
      obtain ⟨p3, hF⟩ := gd_some hF
      refine a_iald hZ.1 (s14 39 0 a1.toNatClampNeg) (hZ.2 39 0 (by decide) Nat.one_pos) rfl rfl (inb_vp p3) rfl dX10_as_31 ?_
      refine a_iload_n dX10_as_32 2 rfl rfl ?_
      obtain ⟨r33, s33, e33, hF⟩ := bd_some hF
      refine a_invS hZ.1 (As := [.int (s14 39 0 a1.toNatClampNeg), .int a2]) (rest := []) lk_X10_279 ⟨⟨by decide, by decide⟩, by decide, by decide⟩ rfl (Nat.le_of_ble_eq_true rfl) dX10_as_33 (m_X0_isA hZ  e33) ?_
      show AW Z l iX10_as (Pq (rI R)) 0 0 36 [(0, .ref (za Z 0 0)), (1, .int a1), (2, .int a2)] [.int r33] s33
      refine a_if_ne 45 dX10_as_36 (by decide) (fun q4 => ?_) (fun q4 => ?_)
      · replace hF := (if_neg q4).symm.trans hF
        refine a_aload_n dX10_as_45 0 rfl rfl ?_
        refine a_aload_n dX10_as_46 0 rfl rfl ?_
        refine a_getR hZ.1 (hZ.2 0 0 (by decide) Nat.one_pos) fl_X10_59 rfl 0 rfl dX10_as_47 ?_
        refine a_getR hZ.1 (hZ.2 38 0 (by decide) Nat.one_pos) fl_X10_282 rfl 0 rfl dX10_as_50 ?_
        refine a_iload_n dX10_as_53 1 rfl rfl ?_
        obtain ⟨p5, hF⟩ := gd_some hF
        refine a_iald hZ.1 (s33 40 0 a1.toNatClampNeg) (hZ.2 40 0 (by decide) Nat.one_pos) rfl rfl (inb_vp p5) rfl dX10_as_54 ?_
        obtain ⟨r55, s55, e55, hF⟩ := bd_some hF
        refine a_invV hZ.1 (As := [.int (s33 40 0 a1.toNatClampNeg)]) (rest := []) (hZ.2 0 0 (by decide) Nat.one_pos) lk_X10_88 ⟨⟨by decide, by decide⟩, by decide, by decide⟩ rfl (Nat.le_of_ble_eq_true rfl) dX10_as_55 (m_X10_unfound hZ  e55) ?_
        show AW Z l iX10_as (Pq (rI R)) 0 0 58 [(0, .ref (za Z 0 0)), (1, .int a1), (2, .int a2)] [.int r55] s55
        replace hF := Option.some.inj hF
        subst hF
        exact a_iret rfl (Nat.zero_le _) (Nat.zero_le _) dX10_as_58 ⟨rfl, rfl⟩
      · replace hF := (if_pos q4).symm.trans hF
        refine a_aload_n dX10_as_39 0 rfl rfl ?_
        refine a_iconst (v := (3 : Int32)) dX10_as_40 (by decide) ?_
        obtain ⟨r41, s41, e41, hF⟩ := bd_some hF
        refine a_invV hZ.1 (As := [.int (3 : Int32)]) (rest := []) (hZ.2 0 0 (by decide) Nat.one_pos) lk_X10_80 ⟨⟨by decide, by decide⟩, by decide, by decide⟩ rfl (Nat.le_of_ble_eq_true rfl) dX10_as_41 (m_X10_found hZ  e41) ?_
        show AW Z l iX10_as (Pq (rI R)) 0 0 44 [(0, .ref (za Z 0 0)), (1, .int a1), (2, .int a2)] [.int r41] s41
        replace hF := Option.some.inj hF
        subst hF
        exact a_iret rfl (Nat.zero_le _) (Nat.zero_le _) dX10_as_44 ⟨rfl, rfl⟩
    · replace hF := (if_pos q2).symm.trans hF
      refine a_ldc (v := (-1000001)) kw_324 dX10_as_20 ?_
      replace hF := Option.some.inj hF
      subst hF
      exact a_iret rfl (Nat.zero_le _) (Nat.zero_le _) dX10_as_22 ⟨rfl, rfl⟩
theorem m_X10_as {Z : ZE} {l : Launch} (hZ : OkX Z) {a1 : Int32} {a2 : Int32}  {s : St} {R : Int32 × St} (hF : F_X10_as (zg Z) a1 a2 s = some R) : Sp Z l yX10_as iX10_as [.ref (za Z 0 0), .int a1, .int a2] s (rI R) :=
  Sp.of (by decide) rfl (Nat.le_of_ble_eq_true rfl) (w_X10_as hZ  s hF)
-- X6_inForce
set_option maxRecDepth 100000 in
set_option maxHeartbeats 4000000 in
theorem w_X6_inForce_67 {Z : ZE} {l : Launch} (hZ : OkX Z) {a1 : Int32} {a2 : Int32}  {R : Int32 × St} (h8_ : Int32 → Int32 → Int32 → St → Option (Int32 × St)) (w8_ : ∀ (v3 : Int32) (v4 : Int32) (v5 : Int32)  (s : St), h8_ v3 v4 v5 s = some R → AW Z l iX6_inForce (Pq (rI R)) 0 0 8 [(0, .ref (za Z 17 0)), (1, .int a1), (2, .int a2), (3, .int v3), (4, .int v4), (5, .int v5)] [] s) (v3 : Int32) (v4 : Int32) (v5 : Int32)  (s : St) (hF : F_X6_inForce_67 (zg Z) a1 a2 h8_ v3 v4 v5 s = some R) : AW Z l iX6_inForce (Pq (rI R)) 0 0 67 [(0, .ref (za Z 17 0)), (1, .int a1), (2, .int a2), (3, .int v3), (4, .int v4), (5, .int v5)] [] s := by
  unfold F_X6_inForce_67 at hF
  refine a_iinc [(5, .int (v5 + 1)), (0, .ref (za Z 17 0)), (1, .int a1), (2, .int a2), (3, .int v3), (4, .int v4)] dX6_inForce_67 5 rfl rfl (by decide) rfl ?_
  refine a_goto 8 dX6_inForce_70 (by decide) ?_
  refine a_loc [(0, .ref (za Z 17 0)), (1, .int a1), (2, .int a2), (3, .int v3), (4, .int v4), (5, .int (v5 + 1))] [1, 2, 3, 4, 5, 0] rfl ?_
  exact w8_ v3 v4 (v5 + 1)  _ hF
set_option maxRecDepth 100000 in
set_option maxHeartbeats 4000000 in
theorem w_X6_inForce_8 {Z : ZE} {l : Launch} (hZ : OkX Z) {a1 : Int32} {a2 : Int32}  {R : Int32 × St}  : ∀ (n_ : Nat) (v3 : Int32) (v4 : Int32) (v5 : Int32)  (s : St), F_X6_inForce_8 (zg Z) a1 a2 n_ v3 v4 v5 s = some R → AW Z l iX6_inForce (Pq (rI R)) 0 0 8 [(0, .ref (za Z 17 0)), (1, .int a1), (2, .int a2), (3, .int v3), (4, .int v4), (5, .int v5)] [] s := by
  intro n_
  induction n_ with
  | zero =>
    intro v3 v4 v5 s hF
    exact absurd hF (by rw [F_X6_inForce_8]; exact fun q => by cases q)
  | succ n_ w8_ =>
    intro v3 v4 v5 s hF
    rw [F_X6_inForce_8] at hF
    refine a_iload dX6_inForce_8 5 rfl ?_
    refine a_aload_n dX6_inForce_10 0 rfl rfl ?_
    refine a_getI hZ.1 (s 17 0 5) (hZ.2 17 0 (by decide) Nat.one_pos) fl_X6_27 rfl rfl dX6_inForce_11 ?_
    refine a_icmp_ge 73 dX6_inForce_14 (by decide) (fun q1 => ?_) (fun q1 => ?_)
    · replace hF := (if_pos q1).symm.trans hF
      refine a_iload dX6_inForce_73 4 rfl ?_
      replace hF := Option.some.inj hF
      subst hF
      exact a_iret rfl (Nat.zero_le _) (Nat.zero_le _) dX6_inForce_75 ⟨rfl, rfl⟩
    · replace hF := (if_neg q1).symm.trans hF
      refine a_aload_n dX6_inForce_17 0 rfl rfl ?_
      refine a_getR hZ.1 (hZ.2 17 0 (by decide) Nat.one_pos) fl_X6_15 rfl 0 rfl dX6_inForce_18 ?_
      refine a_iload dX6_inForce_21 5 rfl ?_
      obtain ⟨p2, hF⟩ := gd_some hF
      refine a_iald hZ.1 (s 19 0 v5.toNatClampNeg) (hZ.2 19 0 (by decide) Nat.one_pos) rfl rfl (inb_vp p2) rfl dX6_inForce_23 ?_
      refine a_iload_n dX6_inForce_24 2 rfl rfl ?_
      refine a_icmp_ne 67 dX6_inForce_25 (by decide) (fun q3 => ?_) (fun q3 => ?_)
      · replace hF := (if_neg q3).symm.trans hF
        exact w_X6_inForce_67 (l := l) hZ  (F_X6_inForce_8 (zg Z) a1 a2 n_) w8_ v3 v4 v5  _ hF
      · replace hF := (if_pos q3).symm.trans hF
        refine a_aload_n dX6_inForce_28 0 rfl rfl ?_
        refine a_getR hZ.1 (hZ.2 17 0 (by decide) Nat.one_pos) fl_X6_11 rfl 0 rfl dX6_inForce_29 ?_
        refine a_iload dX6_inForce_32 5 rfl ?_
        obtain ⟨p4, hF⟩ := gd_some hF
        refine a_iald hZ.1 (s 18 0 v5.toNatClampNeg) (hZ.2 18 0 (by decide) Nat.one_pos) rfl rfl (inb_vp p4) rfl dX6_inForce_34 ?_
        refine a_iload_n dX6_inForce_35 1 rfl rfl ?_
        refine a_icmp_gt 67 dX6_inForce_36 (by decide) (fun q5 => ?_) (fun q5 => ?_)
        · replace hF := (if_pos q5).symm.trans hF
          exact w_X6_inForce_67 (l := l) hZ  (F_X6_inForce_8 (zg Z) a1 a2 n_) w8_ v3 v4 v5  _ hF
        · replace hF := (if_neg q5).symm.trans hF
          refine a_aload_n dX6_inForce_39 0 rfl rfl ?_
          refine a_getR hZ.1 (hZ.2 17 0 (by decide) Nat.one_pos) fl_X6_11 rfl 0 rfl dX6_inForce_40 ?_
          refine a_iload dX6_inForce_43 5 rfl ?_
          obtain ⟨p6, hF⟩ := gd_some hF
          refine a_iald hZ.1 (s 18 0 v5.toNatClampNeg) (hZ.2 18 0 (by decide) Nat.one_pos) rfl rfl (inb_vp p6) rfl dX6_inForce_45 ?_
          refine a_iload_n dX6_inForce_46 3 rfl rfl ?_
          refine a_icmp_lt 67 dX6_inForce_47 (by decide) (fun q7 => ?_) (fun q7 => ?_)
          · replace hF := (if_pos q7).symm.trans hF
            exact w_X6_inForce_67 (l := l) hZ  (F_X6_inForce_8 (zg Z) a1 a2 n_) w8_ v3 v4 v5  _ hF
          · replace hF := (if_neg q7).symm.trans hF
            refine a_aload_n dX6_inForce_50 0 rfl rfl ?_
            refine a_getR hZ.1 (hZ.2 17 0 (by decide) Nat.one_pos) fl_X6_11 rfl 0 rfl dX6_inForce_51 ?_
            refine a_iload dX6_inForce_54 5 rfl ?_
            obtain ⟨p8, hF⟩ := gd_some hF
            refine a_iald hZ.1 (s 18 0 v5.toNatClampNeg) (hZ.2 18 0 (by decide) Nat.one_pos) rfl rfl (inb_vp p8) rfl dX6_inForce_56 ?_
            refine a_istore_n [(3, .int (s 18 0 v5.toNatClampNeg)), (0, .ref (za Z 17 0)), (1, .int a1), (2, .int a2), (4, .int v4), (5, .int v5)] dX6_inForce_57 rfl (by decide) rfl ?_
            refine a_aload_n dX6_inForce_58 1 rfl rfl ?_
            refine a_getR hZ.1 (hZ.2 17 0 (by decide) Nat.one_pos) fl_X6_18 rfl 0 rfl dX6_inForce_59 ?_
            refine a_iload dX6_inForce_62 5 rfl ?_
            obtain ⟨p9, hF⟩ := gd_some hF
            refine a_iald hZ.1 (s 20 0 v5.toNatClampNeg) (hZ.2 20 0 (by decide) Nat.one_pos) rfl rfl (inb_vp p9) rfl dX6_inForce_64 ?_
            refine a_istore [(4, .int (s 20 0 v5.toNatClampNeg)), (3, .int (s 18 0 v5.toNatClampNeg)), (0, .ref (za Z 17 0)), (1, .int a1), (2, .int a2), (5, .int v5)] dX6_inForce_65 (by decide) rfl ?_
            refine a_loc [(0, .ref (za Z 17 0)), (1, .int a1), (2, .int a2), (3, .int (s 18 0 v5.toNatClampNeg)), (4, .int (s 20 0 v5.toNatClampNeg)), (5, .int v5)] [2, 3, 4, 1, 0, 5] rfl ?_
            exact w_X6_inForce_67 (l := l) hZ  (F_X6_inForce_8 (zg Z) a1 a2 n_) w8_ (s 18 0 v5.toNatClampNeg) (s 20 0 v5.toNatClampNeg) v5  _ hF
set_option maxRecDepth 100000 in
set_option maxHeartbeats 4000000 in
theorem w_X6_inForce {Z : ZE} {l : Launch} (hZ : OkX Z) {a1 : Int32} {a2 : Int32}  {R : Int32 × St}    (s : St) (hF : F_X6_inForce (zg Z) a1 a2  s = some R) : AW Z l iX6_inForce (Pq (rI R)) 0 0 0 [(0, .ref (za Z 17 0)), (1, .int a1), (2, .int a2)] [] s := by
  unfold F_X6_inForce at hF
  refine a_iconst (v := (-1)) dX6_inForce_0 (by decide) ?_
  refine a_istore_n [(3, .int (-1)), (0, .ref (za Z 17 0)), (1, .int a1), (2, .int a2)] dX6_inForce_1 rfl (by decide) rfl ?_
  refine a_iconst (v := (0 : Int32)) dX6_inForce_2 (by decide) ?_
  refine a_istore [(4, .int (0 : Int32)), (3, .int (-1)), (0, .ref (za Z 17 0)), (1, .int a1), (2, .int a2)] dX6_inForce_3 (by decide) rfl ?_
  refine a_iconst (v := (0 : Int32)) dX6_inForce_5 (by decide) ?_
  refine a_istore [(5, .int (0 : Int32)), (4, .int (0 : Int32)), (3, .int (-1)), (0, .ref (za Z 17 0)), (1, .int a1), (2, .int a2)] dX6_inForce_6 (by decide) rfl ?_
  refine a_loc [(0, .ref (za Z 17 0)), (1, .int a1), (2, .int a2), (3, .int (-1)), (4, .int (0 : Int32)), (5, .int (0 : Int32))] [3, 4, 5, 2, 1, 0] rfl ?_
  exact w_X6_inForce_8 (l := l) hZ   fu (-1) (0 : Int32) (0 : Int32)  _ hF
theorem m_X6_inForce {Z : ZE} {l : Launch} (hZ : OkX Z) {a1 : Int32} {a2 : Int32}  {s : St} {R : Int32 × St} (hF : F_X6_inForce (zg Z) a1 a2 s = some R) : Sp Z l yX6_inForce iX6_inForce [.ref (za Z 17 0), .int a1, .int a2] s (rI R) :=
  Sp.of (by decide) rfl (Nat.le_of_ble_eq_true rfl) (w_X6_inForce hZ  s hF)
-- X10_ask
set_option maxRecDepth 100000 in
set_option maxHeartbeats 4000000 in
theorem w_X10_ask {Z : ZE} {l : Launch} (hZ : OkX Z) {a1 : Int32} {a2 : Int32}  {R : Int32 × St}    (s : St) (hF : F_X10_ask (zg Z) a1 a2  s = some R) : AW Z l iX10_ask (Pq (rI R)) 0 0 0 [(0, .ref (za Z 0 0)), (1, .int a1), (2, .int a2)] [] s := by
  unfold F_X10_ask at hF
  refine a_aload_n dX10_ask_0 0 rfl rfl ?_
  refine a_getR hZ.1 (hZ.2 0 0 (by decide) Nat.one_pos) fl_X10_59 rfl 0 rfl dX10_ask_1 ?_
  refine a_iload_n dX10_ask_4 1 rfl rfl ?_
  obtain ⟨r5, s5, e5, hF⟩ := bd_some hF
  refine a_invV hZ.1 (As := [.int a1]) (rest := []) (hZ.2 38 0 (by decide) Nat.one_pos) lk_X10_273 ⟨⟨by decide, by decide⟩, by decide, by decide⟩ rfl (Nat.le_of_ble_eq_true rfl) dX10_ask_5 (m_X0_hasThing hZ  e5) ?_
  show AW Z l iX10_ask (Pq (rI R)) 0 0 8 [(0, .ref (za Z 0 0)), (1, .int a1), (2, .int a2)] [.int r5] s5
  refine a_if_eq 20 dX10_ask_8 (by decide) (fun q1 => ?_) (fun q1 => ?_)
  · replace hF := (if_pos q1).symm.trans hF
    refine a_ldc (v := (-1000001)) kw_324 dX10_ask_20 ?_
    replace hF := Option.some.inj hF
    subst hF
    exact a_iret rfl (Nat.zero_le _) (Nat.zero_le _) dX10_ask_22 ⟨rfl, rfl⟩
  · replace hF := (if_neg q1).symm.trans hF
    refine a_iload_n dX10_ask_11 2 rfl rfl ?_
    refine a_iconst (v := (0 : Int32)) dX10_ask_12 (by decide) ?_
    refine a_iconst (v := (1 : Int32)) dX10_ask_13 (by decide) ?_
    obtain ⟨r14, s14, e14, hF⟩ := bd_some hF
    refine a_invS hZ.1 (As := [.int a2, .int (0 : Int32), .int (1 : Int32)]) (rest := []) lk_X10_75 ⟨⟨by decide, by decide⟩, by decide, by decide⟩ rfl (Nat.le_of_ble_eq_true rfl) dX10_ask_14 (m_X10_within hZ  e14) ?_
    show AW Z l iX10_ask (Pq (rI R)) 0 0 17 [(0, .ref (za Z 0 0)), (1, .int a1), (2, .int a2)] [.int r14] s14
    refine a_if_ne 23 dX10_ask_17 (by decide) (fun q2 => ?_) (fun q2 => ?_)
    · replace hF := (if_neg q2).symm.trans hF
      refine a_aload_n dX10_ask_23 0 rfl rfl ?_
      refine a_getR hZ.1 (hZ.2 0 0 (by decide) Nat.one_pos) fl_X10_59 rfl 0 rfl dX10_ask_24 ?_
      refine a_iload_n dX10_ask_27 1 rfl rfl ?_
      refine a_iload_n dX10_ask_28 2 rfl rfl ?_
      refine a_aload_n dX10_ask_29 0 rfl rfl ?_
      refine a_getR hZ.1 (hZ.2 0 0 (by decide) Nat.one_pos) fl_X10_18 rfl 0 rfl dX10_ask_30 ?_
      refine a_getI hZ.1 (s14 4 0 13) (hZ.2 4 0 (by decide) Nat.one_pos) fl_X10_173 rfl rfl dX10_ask_33 ?_
      refine a_aload_n dX10_ask_36 0 rfl rfl ?_
      refine a_getR hZ.1 (hZ.2 0 0 (by decide) Nat.one_pos) fl_X10_25 rfl 0 rfl dX10_ask_37 ?_
      refine a_aload_n dX10_ask_40 0 rfl rfl ?_
      refine a_getR hZ.1 (hZ.2 0 0 (by decide) Nat.one_pos) fl_X10_18 rfl 0 rfl dX10_ask_41 ?_
      refine a_getI hZ.1 (s14 4 0 13) (hZ.2 4 0 (by decide) Nat.one_pos) fl_X10_173 rfl rfl dX10_ask_44 ?_
      refine a_iconst (v := (4 : Int32)) dX10_ask_47 (by decide) ?_
      obtain ⟨r48, s48, e48, hF⟩ := bd_some hF
      refine a_invV hZ.1 (As := [.int (s14 4 0 13), .int (4 : Int32)]) (rest := [.int (s14 4 0 13), .int a2, .int a1, .ref (za Z 38 0)]) (hZ.2 17 0 (by decide) Nat.one_pos) lk_X10_224 ⟨⟨by decide, by decide⟩, by decide, by decide⟩ rfl (Nat.le_of_ble_eq_true rfl) dX10_ask_48 (m_X6_inForce hZ  e48) ?_
      show AW Z l iX10_ask (Pq (rI R)) 0 0 51 [(0, .ref (za Z 0 0)), (1, .int a1), (2, .int a2)] [.int r48, .int (s14 4 0 13), .int a2, .int a1, .ref (za Z 38 0)] s48
      obtain ⟨r51, s51, e51, hF⟩ := bd_some hF
      refine a_invV hZ.1 (As := [.int a1, .int a2, .int (s14 4 0 13), .int r48]) (rest := []) (hZ.2 38 0 (by decide) Nat.one_pos) lk_X10_285 ⟨⟨by decide, by decide⟩, by decide, by decide⟩ rfl (Nat.le_of_ble_eq_true rfl) dX10_ask_51 (m_X0_answer hZ  e51) ?_
      show AW Z l iX10_ask (Pq (rI R)) 0 0 54 [(0, .ref (za Z 0 0)), (1, .int a1), (2, .int a2)] [.int r51] s51
      replace hF := Option.some.inj hF
      subst hF
      exact a_iret rfl (Nat.zero_le _) (Nat.zero_le _) dX10_ask_54 ⟨rfl, rfl⟩
    · replace hF := (if_pos q2).symm.trans hF
      refine a_ldc (v := (-1000001)) kw_324 dX10_ask_20 ?_
      replace hF := Option.some.inj hF
      subst hF
      exact a_iret rfl (Nat.zero_le _) (Nat.zero_le _) dX10_ask_22 ⟨rfl, rfl⟩
theorem m_X10_ask {Z : ZE} {l : Launch} (hZ : OkX Z) {a1 : Int32} {a2 : Int32}  {s : St} {R : Int32 × St} (hF : F_X10_ask (zg Z) a1 a2 s = some R) : Sp Z l yX10_ask iX10_ask [.ref (za Z 0 0), .int a1, .int a2] s (rI R) :=
  Sp.of (by decide) rfl (Nat.le_of_ble_eq_true rfl) (w_X10_ask hZ  s hF)
-- X10_changed
set_option maxRecDepth 100000 in
set_option maxHeartbeats 4000000 in
theorem w_X10_changed {Z : ZE} {l : Launch} (hZ : OkX Z) {t0 : Nat} {k0 : Nat} {a1 : Int32} {a2 : Int32} (hx0 : zx Z t0 k0) (ho0 : shO t0 = none) (ha0 : shA t0 = some (lna t0)) {R : Int32 × St}    (s : St) (hF : F_X10_changed (zg Z) t0 k0 a1 a2  s = some R) : AW Z l iX10_changed (Pq (rI R)) 0 0 0 [(0, .ref (za Z t0 k0)), (1, .int a1), (2, .int a2)] [] s := by
  unfold F_X10_changed at hF
  refine a_aload_n dX10_changed_0 0 rfl rfl ?_
  refine a_iload_n dX10_changed_1 1 rfl rfl ?_
  obtain ⟨p1, hF⟩ := gd_some hF
  refine a_iald hZ.1 (s t0 k0 a1.toNatClampNeg) hx0 ho0 ha0 (inb_vp p1) rfl dX10_changed_2 ?_
  refine a_istore_n [(3, .int (s t0 k0 a1.toNatClampNeg)), (0, .ref (za Z t0 k0)), (1, .int a1), (2, .int a2)] dX10_changed_3 rfl (by decide) rfl ?_
  refine a_aload_n dX10_changed_4 1 rfl rfl ?_
  refine a_iload_n dX10_changed_5 2 rfl rfl ?_
  refine a_iload_n dX10_changed_6 3 rfl rfl ?_
  obtain ⟨p2, hF⟩ := gd_some hF
  refine a_iast hZ.1 hx0 ho0 ha0 (inb_vp p2) dX10_changed_7 ?_
  refine a_iload_n dX10_changed_8 0 rfl rfl ?_
  replace hF := Option.some.inj hF
  subst hF
  exact a_iret rfl (Nat.zero_le _) (Nat.zero_le _) dX10_changed_9 ⟨rfl, rfl⟩
theorem m_X10_changed {Z : ZE} {l : Launch} (hZ : OkX Z) {t0 : Nat} {k0 : Nat} {a1 : Int32} {a2 : Int32} (hx0 : zx Z t0 k0) (ho0 : shO t0 = none) (ha0 : shA t0 = some (lna t0)) {s : St} {R : Int32 × St} (hF : F_X10_changed (zg Z) t0 k0 a1 a2 s = some R) : Sp Z l yX10_changed iX10_changed [.ref (za Z t0 k0), .int a1, .int a2] s (rI R) :=
  Sp.of (by decide) rfl (Nat.le_of_ble_eq_true rfl) (w_X10_changed hZ hx0 ho0 ha0 s hF)
-- X10_isSheet
set_option maxRecDepth 100000 in
set_option maxHeartbeats 4000000 in
theorem w_X10_isSheet {Z : ZE} {l : Launch} (hZ : OkX Z) {a0 : Int32}  {R : Int32 × St}    (s : St) (hF : F_X10_isSheet (zg Z) a0  s = some R) : AW Z l iX10_isSheet (Pq (rI R)) 0 0 0 [(0, .int a0)] [] s := by
  unfold F_X10_isSheet at hF
  refine a_iload_n dX10_isSheet_0 0 rfl rfl ?_
  refine a_iconst (v := (0 : Int32)) dX10_isSheet_1 (by decide) ?_
  refine a_bipush (v := (7 : Int32)) dX10_isSheet_2 (by decide) ?_
  obtain ⟨r4, s4, e4, hF⟩ := bd_some hF
  refine a_invS hZ.1 (As := [.int a0, .int (0 : Int32), .int (7 : Int32)]) (rest := []) lk_X10_75 ⟨⟨by decide, by decide⟩, by decide, by decide⟩ rfl (Nat.le_of_ble_eq_true rfl) dX10_isSheet_4 (m_X10_within hZ  e4) ?_
  show AW Z l iX10_isSheet (Pq (rI R)) 0 0 7 [(0, .int a0)] [.int r4] s4
  obtain ⟨p1, hF⟩ := gd_some hF
  replace hF := Option.some.inj hF
  subst hF
  exact a_zret rfl (isb_n p1) (Nat.zero_le _) (Nat.zero_le _) dX10_isSheet_7 ⟨rfl, rfl⟩
theorem m_X10_isSheet {Z : ZE} {l : Launch} (hZ : OkX Z) {a0 : Int32}  {s : St} {R : Int32 × St} (hF : F_X10_isSheet (zg Z) a0 s = some R) : Sp Z l yX10_isSheet iX10_isSheet [.int a0] s (rI R) :=
  Sp.of (by decide) rfl (Nat.le_of_ble_eq_true rfl) (w_X10_isSheet hZ  s hF)
-- X7_reaches
set_option maxRecDepth 100000 in
set_option maxHeartbeats 4000000 in
theorem w_X7_reaches {Z : ZE} {l : Launch} (hZ : OkX Z) {k0 : Nat} {a1 : Int32} {a2 : Int32} (h0 : k0 < shN (zg Z) 2) {R : Int32 × St}    (s : St) (hF : F_X7_reaches (zg Z) k0 a1 a2  s = some R) : AW Z l iX7_reaches (Pq (rI R)) 0 0 0 [(0, .ref (za Z 2 k0)), (1, .int a1), (2, .int a2)] [] s := by
  unfold F_X7_reaches at hF
  refine a_iload_n dX7_reaches_0 1 rfl rfl ?_
  refine a_if_lt 26 dX7_reaches_1 (by decide) (fun q1 => ?_) (fun q1 => ?_)
  · replace hF := (if_pos q1).symm.trans hF
    refine a_iconst (v := (0 : Int32)) dX7_reaches_26 (by decide) ?_
    replace hF := Option.some.inj hF
    subst hF
    exact a_zret rfl rfl (Nat.zero_le _) (Nat.zero_le _) dX7_reaches_27 ⟨rfl, rfl⟩
  · replace hF := (if_neg q1).symm.trans hF
    refine a_iload_n dX7_reaches_4 2 rfl rfl ?_
    refine a_if_lt 26 dX7_reaches_5 (by decide) (fun q2 => ?_) (fun q2 => ?_)
    · replace hF := (if_pos q2).symm.trans hF
      refine a_iconst (v := (0 : Int32)) dX7_reaches_26 (by decide) ?_
      replace hF := Option.some.inj hF
      subst hF
      exact a_zret rfl rfl (Nat.zero_le _) (Nat.zero_le _) dX7_reaches_27 ⟨rfl, rfl⟩
    · replace hF := (if_neg q2).symm.trans hF
      refine a_iload_n dX7_reaches_8 1 rfl rfl ?_
      refine a_i2l dX7_reaches_9 ?_
      refine a_iload_n dX7_reaches_10 2 rfl rfl ?_
      refine a_i2l dX7_reaches_11 ?_
      refine a_ladd dX7_reaches_12 ?_
      refine a_aload_n dX7_reaches_13 0 rfl rfl ?_
      refine a_getI hZ.1 (s 2 k0 3) (hZ.2 2 k0 (by decide) h0) fl_X7_29 rfl rfl dX7_reaches_14 ?_
      refine a_i2l dX7_reaches_17 ?_
      refine a_lcmp dX7_reaches_18 ?_
      refine a_if_gt 26 dX7_reaches_19 (by decide) (fun q3 => ?_) (fun q3 => ?_)
      · replace hF := (if_pos q3).symm.trans hF
        refine a_iconst (v := (0 : Int32)) dX7_reaches_26 (by decide) ?_
        replace hF := Option.some.inj hF
        subst hF
        exact a_zret rfl rfl (Nat.zero_le _) (Nat.zero_le _) dX7_reaches_27 ⟨rfl, rfl⟩
      · replace hF := (if_neg q3).symm.trans hF
        refine a_iconst (v := (1 : Int32)) dX7_reaches_22 (by decide) ?_
        refine a_goto 27 dX7_reaches_23 (by decide) ?_
        replace hF := Option.some.inj hF
        subst hF
        exact a_zret rfl rfl (Nat.zero_le _) (Nat.zero_le _) dX7_reaches_27 ⟨rfl, rfl⟩
theorem m_X7_reaches {Z : ZE} {l : Launch} (hZ : OkX Z) {k0 : Nat} {a1 : Int32} {a2 : Int32} (h0 : k0 < shN (zg Z) 2) {s : St} {R : Int32 × St} (hF : F_X7_reaches (zg Z) k0 a1 a2 s = some R) : Sp Z l yX7_reaches iX7_reaches [.ref (za Z 2 k0), .int a1, .int a2] s (rI R) :=
  Sp.of (by decide) rfl (Nat.le_of_ble_eq_true rfl) (w_X7_reaches hZ h0 s hF)
-- X10_copy
set_option maxRecDepth 100000 in
set_option maxHeartbeats 4000000 in
theorem w_X10_copy_97 {Z : ZE} {l : Launch} (hZ : OkX Z) {a1 : Int32} {a2 : Int32} {a3 : Int32} {a4 : Int32} {a5 : Int32}  {R : Int32 × St}    (s : St) (hF : F_X10_copy_97 (zg Z) a1 a2 a3 a4 a5  s = some R) : AW Z l iX10_copy (Pq (rI R)) 0 0 97 [(0, .ref (za Z 0 0))] [] s := by
  unfold F_X10_copy_97 at hF
  refine a_aload_n dX10_copy_97 0 rfl rfl ?_
  refine a_iconst (v := (2 : Int32)) dX10_copy_98 (by decide) ?_
  obtain ⟨r99, s99, e99, hF⟩ := bd_some hF
  refine a_invV hZ.1 (As := [.int (2 : Int32)]) (rest := []) (hZ.2 0 0 (by decide) Nat.one_pos) lk_X10_80 ⟨⟨by decide, by decide⟩, by decide, by decide⟩ rfl (Nat.le_of_ble_eq_true rfl) dX10_copy_99 (m_X10_found hZ  e99) ?_
  show AW Z l iX10_copy (Pq (rI R)) 0 0 102 [(0, .ref (za Z 0 0))] [.int r99] s99
  replace hF := Option.some.inj hF
  subst hF
  exact a_iret rfl (Nat.zero_le _) (Nat.zero_le _) dX10_copy_102 ⟨rfl, rfl⟩
set_option maxRecDepth 100000 in
set_option maxHeartbeats 4000000 in
theorem w_X10_copy_49 {Z : ZE} {l : Launch} (hZ : OkX Z) {a1 : Int32} {a2 : Int32} {a3 : Int32} {a4 : Int32} {a5 : Int32}  {R : Int32 × St}    (s : St) (hF : F_X10_copy_49 (zg Z) a1 a2 a3 a4 a5  s = some R) : AW Z l iX10_copy (Pq (rI R)) 0 0 49 [(0, .ref (za Z 0 0))] [] s := by
  unfold F_X10_copy_49 at hF
  refine a_aload_n dX10_copy_49 0 rfl rfl ?_
  refine a_iconst (v := (1 : Int32)) dX10_copy_50 (by decide) ?_
  obtain ⟨r51, s51, e51, hF⟩ := bd_some hF
  refine a_invV hZ.1 (As := [.int (1 : Int32)]) (rest := []) (hZ.2 0 0 (by decide) Nat.one_pos) lk_X10_80 ⟨⟨by decide, by decide⟩, by decide, by decide⟩ rfl (Nat.le_of_ble_eq_true rfl) dX10_copy_51 (m_X10_found hZ  e51) ?_
  show AW Z l iX10_copy (Pq (rI R)) 0 0 54 [(0, .ref (za Z 0 0))] [.int r51] s51
  replace hF := Option.some.inj hF
  subst hF
  exact a_iret rfl (Nat.zero_le _) (Nat.zero_le _) dX10_copy_54 ⟨rfl, rfl⟩
set_option maxRecDepth 100000 in
set_option maxHeartbeats 4000000 in
theorem w_X10_copy {Z : ZE} {l : Launch} (hZ : OkX Z) {a1 : Int32} {a2 : Int32} {a3 : Int32} {a4 : Int32} {a5 : Int32}  {R : Int32 × St}    (s : St) (hF : F_X10_copy (zg Z) a1 a2 a3 a4 a5  s = some R) : AW Z l iX10_copy (Pq (rI R)) 0 0 0 [(0, .ref (za Z 0 0)), (1, .int a1), (2, .int a2), (3, .int a3), (4, .int a4), (5, .int a5)] [] s := by
  unfold F_X10_copy at hF
  refine a_iload_n dX10_copy_0 1 rfl rfl ?_
  obtain ⟨r1, s1, e1, hF⟩ := bd_some hF
  refine a_invS hZ.1 (As := [.int a1]) (rest := []) lk_X10_71 ⟨⟨by decide, by decide⟩, by decide, by decide⟩ rfl (Nat.le_of_ble_eq_true rfl) dX10_copy_1 (m_X10_isSheet hZ  e1) ?_
  show AW Z l iX10_copy (Pq (rI R)) 0 0 4 [(0, .ref (za Z 0 0)), (1, .int a1), (2, .int a2), (3, .int a3), (4, .int a4), (5, .int a5)] [.int r1] s1
  refine a_if_eq 14 dX10_copy_4 (by decide) (fun q1 => ?_) (fun q1 => ?_)
  · replace hF := (if_pos q1).symm.trans hF
    refine a_ldc (v := (-1000001)) kw_324 dX10_copy_14 ?_
    replace hF := Option.some.inj hF
    subst hF
    exact a_iret rfl (Nat.zero_le _) (Nat.zero_le _) dX10_copy_16 ⟨rfl, rfl⟩
  · replace hF := (if_neg q1).symm.trans hF
    refine a_iload_n dX10_copy_7 3 rfl rfl ?_
    obtain ⟨r8, s8, e8, hF⟩ := bd_some hF
    refine a_invS hZ.1 (As := [.int a3]) (rest := []) lk_X10_71 ⟨⟨by decide, by decide⟩, by decide, by decide⟩ rfl (Nat.le_of_ble_eq_true rfl) dX10_copy_8 (m_X10_isSheet hZ  e8) ?_
    show AW Z l iX10_copy (Pq (rI R)) 0 0 11 [(0, .ref (za Z 0 0)), (1, .int a1), (2, .int a2), (3, .int a3), (4, .int a4), (5, .int a5)] [.int r8] s8
    refine a_if_ne 17 dX10_copy_11 (by decide) (fun q2 => ?_) (fun q2 => ?_)
    · replace hF := (if_neg q2).symm.trans hF
      refine a_aload_n dX10_copy_17 0 rfl rfl ?_
      refine a_getR hZ.1 (hZ.2 0 0 (by decide) Nat.one_pos) fl_X10_11 rfl 0 rfl dX10_copy_18 ?_
      refine a_iload_n dX10_copy_21 1 rfl rfl ?_
      obtain ⟨p3, hF⟩ := gd_some hF
      refine a_aald hZ.1 (hZ.2 1 0 (by decide) Nat.one_pos) rfl rfl rfl rfl (inb_vp p3) (inb_lt p3) dX10_copy_22 ?_
      refine a_astore [(6, .ref (za Z 2 a1.toNatClampNeg)), (0, .ref (za Z 0 0)), (1, .int a1), (2, .int a2), (3, .int a3), (4, .int a4), (5, .int a5)] dX10_copy_23 (by decide) rfl ?_
      refine a_aload_n dX10_copy_25 1 rfl rfl ?_
      refine a_getR hZ.1 (hZ.2 0 0 (by decide) Nat.one_pos) fl_X10_11 rfl 0 rfl dX10_copy_26 ?_
      refine a_iload_n dX10_copy_29 4 rfl rfl ?_
      obtain ⟨p4, hF⟩ := gd_some hF
      refine a_aald hZ.1 (hZ.2 1 0 (by decide) Nat.one_pos) rfl rfl rfl rfl (inb_vp p4) (inb_lt p4) dX10_copy_30 ?_
      refine a_astore [(7, .ref (za Z 2 a3.toNatClampNeg)), (6, .ref (za Z 2 a1.toNatClampNeg)), (0, .ref (za Z 0 0)), (1, .int a1), (2, .int a2), (3, .int a3), (4, .int a4), (5, .int a5)] dX10_copy_31 (by decide) rfl ?_
      refine a_aload dX10_copy_33 1 rfl ?_
      refine a_getI hZ.1 (s8 2 a1.toNatClampNeg 1) (hZ.2 2 a1.toNatClampNeg (by decide) (inb_lt p3)) fl_X10_98 rfl rfl dX10_copy_35 ?_
      refine a_if_ne 49 dX10_copy_38 (by decide) (fun q5 => ?_) (fun q5 => ?_)
      · replace hF := (if_neg q5).symm.trans hF
        refine a_loc [(0, .ref (za Z 0 0))] [2] rfl ?_
        exact w_X10_copy_49 (l := l) hZ     _ hF
      · replace hF := (if_pos q5).symm.trans hF
        refine a_aload dX10_copy_41 0 rfl ?_
        refine a_getI hZ.1 (s8 2 a3.toNatClampNeg 1) (hZ.2 2 a3.toNatClampNeg (by decide) (inb_lt p4)) fl_X10_98 rfl rfl dX10_copy_43 ?_
        refine a_if_eq 55 dX10_copy_46 (by decide) (fun q6 => ?_) (fun q6 => ?_)
        · replace hF := (if_pos q6).symm.trans hF
          refine a_aload dX10_copy_55 1 rfl ?_
          refine a_getI hZ.1 (s8 2 a1.toNatClampNeg 2) (hZ.2 2 a1.toNatClampNeg (by decide) (inb_lt p3)) fl_X10_102 rfl rfl dX10_copy_57 ?_
          refine a_aload dX10_copy_60 0 rfl ?_
          refine a_getI hZ.1 (s8 2 a3.toNatClampNeg 2) (hZ.2 2 a3.toNatClampNeg (by decide) (inb_lt p4)) fl_X10_102 rfl rfl dX10_copy_62 ?_
          refine a_icmp_eq 74 dX10_copy_65 (by decide) (fun q7 => ?_) (fun q7 => ?_)
          · replace hF := (if_pos q7).symm.trans hF
            refine a_aload dX10_copy_74 1 rfl ?_
            refine a_iload_n dX10_copy_76 4 rfl rfl ?_
            refine a_iload dX10_copy_77 7 rfl ?_
            obtain ⟨r79, s79, e79, hF⟩ := bd_some hF
            refine a_invV hZ.1 (As := [.int a2, .int a5]) (rest := []) (hZ.2 2 a1.toNatClampNeg (by decide) (inb_lt p3)) lk_X10_106 ⟨⟨by decide, by decide⟩, by decide, by decide⟩ rfl (Nat.le_of_ble_eq_true rfl) dX10_copy_79 (m_X7_reaches hZ (inb_lt p3) e79) ?_
            show AW Z l iX10_copy (Pq (rI R)) 0 0 82 [(7, .ref (za Z 2 a3.toNatClampNeg)), (6, .ref (za Z 2 a1.toNatClampNeg)), (0, .ref (za Z 0 0)), (1, .int a1), (2, .int a2), (3, .int a3), (4, .int a4), (5, .int a5)] [.int r79] s79
            refine a_if_eq 97 dX10_copy_82 (by decide) (fun q8 => ?_) (fun q8 => ?_)
            · replace hF := (if_pos q8).symm.trans hF
              refine a_loc [(0, .ref (za Z 0 0))] [2] rfl ?_
              exact w_X10_copy_97 (l := l) hZ     _ hF
            · replace hF := (if_neg q8).symm.trans hF
              refine a_aload dX10_copy_85 0 rfl ?_
              refine a_iload dX10_copy_87 6 rfl ?_
              refine a_iload dX10_copy_89 7 rfl ?_
              obtain ⟨r91, s91, e91, hF⟩ := bd_some hF
              refine a_invV hZ.1 (As := [.int a4, .int a5]) (rest := []) (hZ.2 2 a3.toNatClampNeg (by decide) (inb_lt p4)) lk_X10_106 ⟨⟨by decide, by decide⟩, by decide, by decide⟩ rfl (Nat.le_of_ble_eq_true rfl) dX10_copy_91 (m_X7_reaches hZ (inb_lt p4) e91) ?_
              show AW Z l iX10_copy (Pq (rI R)) 0 0 94 [(7, .ref (za Z 2 a3.toNatClampNeg)), (6, .ref (za Z 2 a1.toNatClampNeg)), (0, .ref (za Z 0 0)), (1, .int a1), (2, .int a2), (3, .int a3), (4, .int a4), (5, .int a5)] [.int r91] s91
              refine a_if_ne 103 dX10_copy_94 (by decide) (fun q9 => ?_) (fun q9 => ?_)
              · replace hF := (if_neg q9).symm.trans hF
                refine a_aload dX10_copy_103 1 rfl ?_
                refine a_getR hZ.1 (hZ.2 2 a1.toNatClampNeg (by decide) (inb_lt p3)) fl_X10_110 rfl a1.toNatClampNeg rfl dX10_copy_105 ?_
                refine a_iload_n dX10_copy_108 4 rfl rfl ?_
                refine a_aload dX10_copy_109 0 rfl ?_
                refine a_getR hZ.1 (hZ.2 2 a3.toNatClampNeg (by decide) (inb_lt p4)) fl_X10_110 rfl a3.toNatClampNeg rfl dX10_copy_111 ?_
                refine a_iload dX10_copy_114 6 rfl ?_
                refine a_iload dX10_copy_116 7 rfl ?_
                obtain ⟨p10, hF⟩ := gd_some hF
                refine a_copy hZ.1 (hZ.2 3 a1.toNatClampNeg (by decide) (inb_lt p3)) (hZ.2 3 a3.toNatClampNeg (by decide) (inb_lt p4)) rfl rfl rfl rfl (cpb_ok p10) kw_362 kw_364 kw_363 kw_12 ⟨by decide, Nat.le_of_ble_eq_true rfl⟩ dX10_copy_118 ?_
                refine a_aload_n dX10_copy_121 2 rfl rfl ?_
                refine a_iload dX10_copy_122 7 rfl ?_
                obtain ⟨r124, s124, e124, hF⟩ := bd_some hF
                refine a_invV hZ.1 (As := [.int a5]) (rest := []) (hZ.2 0 0 (by decide) Nat.one_pos) lk_X10_88 ⟨⟨by decide, by decide⟩, by decide, by decide⟩ rfl (Nat.le_of_ble_eq_true rfl) dX10_copy_124 (m_X10_unfound hZ  e124) ?_
                show AW Z l iX10_copy (Pq (rI R)) 0 0 127 [(7, .ref (za Z 2 a3.toNatClampNeg)), (6, .ref (za Z 2 a1.toNatClampNeg)), (0, .ref (za Z 0 0)), (1, .int a1), (2, .int a2), (3, .int a3), (4, .int a4), (5, .int a5)] [.int r124] s124
                replace hF := Option.some.inj hF
                subst hF
                exact a_iret rfl (Nat.zero_le _) (Nat.zero_le _) dX10_copy_127 ⟨rfl, rfl⟩
              · replace hF := (if_pos q9).symm.trans hF
                refine a_loc [(0, .ref (za Z 0 0))] [2] rfl ?_
                exact w_X10_copy_97 (l := l) hZ     _ hF
          · replace hF := (if_neg q7).symm.trans hF
            refine a_aload_n dX10_copy_68 2 rfl rfl ?_
            refine a_iconst (v := (5 : Int32)) dX10_copy_69 (by decide) ?_
            obtain ⟨r70, s70, e70, hF⟩ := bd_some hF
            refine a_invV hZ.1 (As := [.int (5 : Int32)]) (rest := []) (hZ.2 0 0 (by decide) Nat.one_pos) lk_X10_80 ⟨⟨by decide, by decide⟩, by decide, by decide⟩ rfl (Nat.le_of_ble_eq_true rfl) dX10_copy_70 (m_X10_found hZ  e70) ?_
            show AW Z l iX10_copy (Pq (rI R)) 0 0 73 [(7, .ref (za Z 2 a3.toNatClampNeg)), (6, .ref (za Z 2 a1.toNatClampNeg)), (0, .ref (za Z 0 0)), (1, .int a1), (2, .int a2), (3, .int a3), (4, .int a4), (5, .int a5)] [.int r70] s70
            replace hF := Option.some.inj hF
            subst hF
            exact a_iret rfl (Nat.zero_le _) (Nat.zero_le _) dX10_copy_73 ⟨rfl, rfl⟩
        · replace hF := (if_neg q6).symm.trans hF
          refine a_loc [(0, .ref (za Z 0 0))] [2] rfl ?_
          exact w_X10_copy_49 (l := l) hZ     _ hF
    · replace hF := (if_pos q2).symm.trans hF
      refine a_ldc (v := (-1000001)) kw_324 dX10_copy_14 ?_
      replace hF := Option.some.inj hF
      subst hF
      exact a_iret rfl (Nat.zero_le _) (Nat.zero_le _) dX10_copy_16 ⟨rfl, rfl⟩
theorem m_X10_copy {Z : ZE} {l : Launch} (hZ : OkX Z) {a1 : Int32} {a2 : Int32} {a3 : Int32} {a4 : Int32} {a5 : Int32}  {s : St} {R : Int32 × St} (hF : F_X10_copy (zg Z) a1 a2 a3 a4 a5 s = some R) : Sp Z l yX10_copy iX10_copy [.ref (za Z 0 0), .int a1, .int a2, .int a3, .int a4, .int a5] s (rI R) :=
  Sp.of (by decide) rfl (Nat.le_of_ble_eq_true rfl) (w_X10_copy hZ  s hF)
-- X10_sheetsThere
set_option maxRecDepth 100000 in
set_option maxHeartbeats 4000000 in
theorem w_X10_sheetsThere_25 {Z : ZE} {l : Launch} (hZ : OkX Z)   {R : Int32 × St} (h4_ : Int32 → Int32 → St → Option (Int32 × St)) (w4_ : ∀ (v1 : Int32) (v2 : Int32)  (s : St), h4_ v1 v2 s = some R → AW Z l iX10_sheetsThere (Pq (rI R)) 0 0 4 [(0, .ref (za Z 0 0)), (1, .int v1), (2, .int v2)] [] s) (v1 : Int32) (v2 : Int32)  (s : St) (hF : F_X10_sheetsThere_25 (zg Z)  h4_ v1 v2 s = some R) : AW Z l iX10_sheetsThere (Pq (rI R)) 0 0 25 [(0, .ref (za Z 0 0)), (1, .int v1), (2, .int v2)] [] s := by
  unfold F_X10_sheetsThere_25 at hF
  refine a_iinc [(2, .int (v2 + 1)), (0, .ref (za Z 0 0)), (1, .int v1)] dX10_sheetsThere_25 2 rfl rfl (by decide) rfl ?_
  refine a_goto 4 dX10_sheetsThere_28 (by decide) ?_
  refine a_loc [(0, .ref (za Z 0 0)), (1, .int v1), (2, .int (v2 + 1))] [1, 2, 0] rfl ?_
  exact w4_ v1 (v2 + 1)  _ hF
set_option maxRecDepth 100000 in
set_option maxHeartbeats 4000000 in
theorem w_X10_sheetsThere_4 {Z : ZE} {l : Launch} (hZ : OkX Z)   {R : Int32 × St}  : ∀ (n_ : Nat) (v1 : Int32) (v2 : Int32)  (s : St), F_X10_sheetsThere_4 (zg Z)  n_ v1 v2 s = some R → AW Z l iX10_sheetsThere (Pq (rI R)) 0 0 4 [(0, .ref (za Z 0 0)), (1, .int v1), (2, .int v2)] [] s := by
  intro n_
  induction n_ with
  | zero =>
    intro v1 v2 s hF
    exact absurd hF (by rw [F_X10_sheetsThere_4]; exact fun q => by cases q)
  | succ n_ w4_ =>
    intro v1 v2 s hF
    rw [F_X10_sheetsThere_4] at hF
    refine a_iload_n dX10_sheetsThere_4 2 rfl rfl ?_
    refine a_bipush (v := (8 : Int32)) dX10_sheetsThere_5 (by decide) ?_
    refine a_icmp_ge 31 dX10_sheetsThere_7 (by decide) (fun q1 => ?_) (fun q1 => ?_)
    · replace hF := (if_pos q1).symm.trans hF
      refine a_iload_n dX10_sheetsThere_31 1 rfl rfl ?_
      replace hF := Option.some.inj hF
      subst hF
      exact a_iret rfl (Nat.zero_le _) (Nat.zero_le _) dX10_sheetsThere_32 ⟨rfl, rfl⟩
    · replace hF := (if_neg q1).symm.trans hF
      refine a_aload_n dX10_sheetsThere_10 0 rfl rfl ?_
      refine a_getR hZ.1 (hZ.2 0 0 (by decide) Nat.one_pos) fl_X10_11 rfl 0 rfl dX10_sheetsThere_11 ?_
      refine a_iload_n dX10_sheetsThere_14 2 rfl rfl ?_
      obtain ⟨p2, hF⟩ := gd_some hF
      refine a_aald hZ.1 (hZ.2 1 0 (by decide) Nat.one_pos) rfl rfl rfl rfl (inb_vp p2) (inb_lt p2) dX10_sheetsThere_15 ?_
      refine a_getI hZ.1 (s 2 v2.toNatClampNeg 1) (hZ.2 2 v2.toNatClampNeg (by decide) (inb_lt p2)) fl_X10_98 rfl rfl dX10_sheetsThere_16 ?_
      refine a_if_ne 25 dX10_sheetsThere_19 (by decide) (fun q3 => ?_) (fun q3 => ?_)
      · replace hF := (if_neg q3).symm.trans hF
        exact w_X10_sheetsThere_25 (l := l) hZ  (F_X10_sheetsThere_4 (zg Z)  n_) w4_ v1 v2  _ hF
      · replace hF := (if_pos q3).symm.trans hF
        refine a_iinc [(1, .int (v1 + 1)), (0, .ref (za Z 0 0)), (2, .int v2)] dX10_sheetsThere_22 1 rfl rfl (by decide) rfl ?_
        refine a_loc [(0, .ref (za Z 0 0)), (1, .int (v1 + 1)), (2, .int v2)] [1, 0, 2] rfl ?_
        exact w_X10_sheetsThere_25 (l := l) hZ  (F_X10_sheetsThere_4 (zg Z)  n_) w4_ (v1 + 1) v2  _ hF
set_option maxRecDepth 100000 in
set_option maxHeartbeats 4000000 in
theorem w_X10_sheetsThere {Z : ZE} {l : Launch} (hZ : OkX Z)   {R : Int32 × St}    (s : St) (hF : F_X10_sheetsThere (zg Z)   s = some R) : AW Z l iX10_sheetsThere (Pq (rI R)) 0 0 0 [(0, .ref (za Z 0 0))] [] s := by
  unfold F_X10_sheetsThere at hF
  refine a_iconst (v := (0 : Int32)) dX10_sheetsThere_0 (by decide) ?_
  refine a_istore_n [(1, .int (0 : Int32)), (0, .ref (za Z 0 0))] dX10_sheetsThere_1 rfl (by decide) rfl ?_
  refine a_iconst (v := (0 : Int32)) dX10_sheetsThere_2 (by decide) ?_
  refine a_istore_n [(2, .int (0 : Int32)), (1, .int (0 : Int32)), (0, .ref (za Z 0 0))] dX10_sheetsThere_3 rfl (by decide) rfl ?_
  refine a_loc [(0, .ref (za Z 0 0)), (1, .int (0 : Int32)), (2, .int (0 : Int32))] [2, 1, 0] rfl ?_
  exact w_X10_sheetsThere_4 (l := l) hZ   fu (0 : Int32) (0 : Int32)  _ hF
theorem m_X10_sheetsThere {Z : ZE} {l : Launch} (hZ : OkX Z)   {s : St} {R : Int32 × St} (hF : F_X10_sheetsThere (zg Z)  s = some R) : Sp Z l yX10_sheetsThere iX10_sheetsThere [.ref (za Z 0 0)] s (rI R) :=
  Sp.of (by decide) rfl (Nat.le_of_ble_eq_true rfl) (w_X10_sheetsThere hZ  s hF)
-- X1_balesOf
set_option maxRecDepth 100000 in
set_option maxHeartbeats 4000000 in
theorem w_X1_balesOf_9 {Z : ZE} {l : Launch} (hZ : OkX Z) {a1 : Int32}  {R : Int32 × St}  : ∀ (n_ : Nat) (v2 : Int32) (v3 : Int32)  (s : St), F_X1_balesOf_9 (zg Z) a1 n_ v2 v3 s = some R → AW Z l iX1_balesOf (Pq (rI R)) 0 0 9 [(0, .ref (za Z 4 0)), (1, .int a1), (2, .int v2), (3, .int v3)] [] s := by
  intro n_
  induction n_ with
  | zero =>
    intro v2 v3 s hF
    exact absurd hF (by rw [F_X1_balesOf_9]; exact fun q => by cases q)
  | succ n_ w9_ =>
    intro v2 v3 s hF
    rw [F_X1_balesOf_9] at hF
    refine a_iload_n dX1_balesOf_9 3 rfl rfl ?_
    refine a_aload_n dX1_balesOf_10 0 rfl rfl ?_
    refine a_getI hZ.1 (s 4 0 12) (hZ.2 4 0 (by decide) Nat.one_pos) fl_X1_53 rfl rfl dX1_balesOf_11 ?_
    refine a_icmp_ge 37 dX1_balesOf_14 (by decide) (fun q1 => ?_) (fun q1 => ?_)
    · replace hF := (if_pos q1).symm.trans hF
      refine a_iload_n dX1_balesOf_37 2 rfl rfl ?_
      replace hF := Option.some.inj hF
      subst hF
      exact a_iret rfl (Nat.zero_le _) (Nat.zero_le _) dX1_balesOf_38 ⟨rfl, rfl⟩
    · replace hF := (if_neg q1).symm.trans hF
      refine a_iload_n dX1_balesOf_17 2 rfl rfl ?_
      refine a_aload_n dX1_balesOf_18 0 rfl rfl ?_
      refine a_getR hZ.1 (hZ.2 4 0 (by decide) Nat.one_pos) fl_X1_42 rfl 0 rfl dX1_balesOf_19 ?_
      refine a_iload_n dX1_balesOf_22 3 rfl rfl ?_
      obtain ⟨p2, hF⟩ := gd_some hF
      obtain ⟨p3, hF⟩ := gd_some hF
      refine a_aald hZ.1 (hZ.2 13 0 (by decide) Nat.one_pos) rfl rfl rfl rfl (inb_vp p2) (ltb_lt p3) dX1_balesOf_23 ?_
      refine a_getR hZ.1 (hZ.2 14 v3.toNatClampNeg (by decide) (ltb_lt p3)) fl_X1_74 rfl v3.toNatClampNeg rfl dX1_balesOf_24 ?_
      refine a_iload_n dX1_balesOf_27 1 rfl rfl ?_
      obtain ⟨p4, hF⟩ := gd_some hF
      refine a_iald hZ.1 (s 15 v3.toNatClampNeg a1.toNatClampNeg) (hZ.2 15 v3.toNatClampNeg (by decide) (ltb_lt p3)) rfl rfl (inb_vp p4) rfl dX1_balesOf_28 ?_
      refine a_iadd dX1_balesOf_29 ?_
      refine a_istore_n [(2, .int (v2 + (s 15 v3.toNatClampNeg a1.toNatClampNeg))), (0, .ref (za Z 4 0)), (1, .int a1), (3, .int v3)] dX1_balesOf_30 rfl (by decide) rfl ?_
      refine a_iinc [(3, .int (v3 + 1)), (2, .int (v2 + (s 15 v3.toNatClampNeg a1.toNatClampNeg))), (0, .ref (za Z 4 0)), (1, .int a1)] dX1_balesOf_31 3 rfl rfl (by decide) rfl ?_
      refine a_goto 9 dX1_balesOf_34 (by decide) ?_
      refine a_loc [(0, .ref (za Z 4 0)), (1, .int a1), (2, .int (v2 + (s 15 v3.toNatClampNeg a1.toNatClampNeg))), (3, .int (v3 + 1))] [2, 3, 1, 0] rfl ?_
      exact w9_ (v2 + (s 15 v3.toNatClampNeg a1.toNatClampNeg)) (v3 + 1)  _ hF
set_option maxRecDepth 100000 in
set_option maxHeartbeats 4000000 in
theorem w_X1_balesOf {Z : ZE} {l : Launch} (hZ : OkX Z) {a1 : Int32}  {R : Int32 × St}    (s : St) (hF : F_X1_balesOf (zg Z) a1  s = some R) : AW Z l iX1_balesOf (Pq (rI R)) 0 0 0 [(0, .ref (za Z 4 0)), (1, .int a1)] [] s := by
  unfold F_X1_balesOf at hF
  refine a_aload_n dX1_balesOf_0 0 rfl rfl ?_
  refine a_getR hZ.1 (hZ.2 4 0 (by decide) Nat.one_pos) fl_X1_18 rfl 0 rfl dX1_balesOf_1 ?_
  refine a_iload_n dX1_balesOf_4 1 rfl rfl ?_
  obtain ⟨p1, hF⟩ := gd_some hF
  refine a_iald hZ.1 (s 7 0 a1.toNatClampNeg) (hZ.2 7 0 (by decide) Nat.one_pos) rfl rfl (inb_vp p1) rfl dX1_balesOf_5 ?_
  refine a_istore_n [(2, .int (s 7 0 a1.toNatClampNeg)), (0, .ref (za Z 4 0)), (1, .int a1)] dX1_balesOf_6 rfl (by decide) rfl ?_
  refine a_iconst (v := (0 : Int32)) dX1_balesOf_7 (by decide) ?_
  refine a_istore_n [(3, .int (0 : Int32)), (2, .int (s 7 0 a1.toNatClampNeg)), (0, .ref (za Z 4 0)), (1, .int a1)] dX1_balesOf_8 rfl (by decide) rfl ?_
  refine a_loc [(0, .ref (za Z 4 0)), (1, .int a1), (2, .int (s 7 0 a1.toNatClampNeg)), (3, .int (0 : Int32))] [2, 3, 1, 0] rfl ?_
  exact w_X1_balesOf_9 (l := l) hZ   fu (s 7 0 a1.toNatClampNeg) (0 : Int32)  _ hF
theorem m_X1_balesOf {Z : ZE} {l : Launch} (hZ : OkX Z) {a1 : Int32}  {s : St} {R : Int32 × St} (hF : F_X1_balesOf (zg Z) a1 s = some R) : Sp Z l yX1_balesOf iX1_balesOf [.ref (za Z 4 0), .int a1] s (rI R) :=
  Sp.of (by decide) rfl (Nat.le_of_ble_eq_true rfl) (w_X1_balesOf hZ  s hF)
-- X1_allBales
set_option maxRecDepth 100000 in
set_option maxHeartbeats 4000000 in
theorem w_X1_allBales_4 {Z : ZE} {l : Launch} (hZ : OkX Z)   {R : Int32 × St}  : ∀ (n_ : Nat) (v1 : Int32) (v2 : Int32)  (s : St), F_X1_allBales_4 (zg Z)  n_ v1 v2 s = some R → AW Z l iX1_allBales (Pq (rI R)) 0 0 4 [(0, .ref (za Z 4 0)), (1, .int v1), (2, .int v2)] [] s := by
  intro n_
  induction n_ with
  | zero =>
    intro v1 v2 s hF
    exact absurd hF (by rw [F_X1_allBales_4]; exact fun q => by cases q)
  | succ n_ w4_ =>
    intro v1 v2 s hF
    rw [F_X1_allBales_4] at hF
    refine a_iload_n dX1_allBales_4 2 rfl rfl ?_
    refine a_iconst (v := (4 : Int32)) dX1_allBales_5 (by decide) ?_
    refine a_icmp_ge 23 dX1_allBales_6 (by decide) (fun q1 => ?_) (fun q1 => ?_)
    · replace hF := (if_pos q1).symm.trans hF
      refine a_iload_n dX1_allBales_23 1 rfl rfl ?_
      replace hF := Option.some.inj hF
      subst hF
      exact a_iret rfl (Nat.zero_le _) (Nat.zero_le _) dX1_allBales_24 ⟨rfl, rfl⟩
    · replace hF := (if_neg q1).symm.trans hF
      refine a_iload_n dX1_allBales_9 1 rfl rfl ?_
      refine a_aload_n dX1_allBales_10 0 rfl rfl ?_
      refine a_iload_n dX1_allBales_11 2 rfl rfl ?_
      obtain ⟨r12, s12, e12, hF⟩ := bd_some hF
      refine a_invV hZ.1 (As := [.int v2]) (rest := [.int v1]) (hZ.2 4 0 (by decide) Nat.one_pos) lk_X1_77 ⟨⟨by decide, by decide⟩, by decide, by decide⟩ rfl (Nat.le_of_ble_eq_true rfl) dX1_allBales_12 (m_X1_balesOf hZ  e12) ?_
      show AW Z l iX1_allBales (Pq (rI R)) 0 0 15 [(0, .ref (za Z 4 0)), (1, .int v1), (2, .int v2)] [.int r12, .int v1] s12
      refine a_iadd dX1_allBales_15 ?_
      refine a_istore_n [(1, .int (v1 + r12)), (0, .ref (za Z 4 0)), (2, .int v2)] dX1_allBales_16 rfl (by decide) rfl ?_
      refine a_iinc [(2, .int (v2 + 1)), (1, .int (v1 + r12)), (0, .ref (za Z 4 0))] dX1_allBales_17 2 rfl rfl (by decide) rfl ?_
      refine a_goto 4 dX1_allBales_20 (by decide) ?_
      refine a_loc [(0, .ref (za Z 4 0)), (1, .int (v1 + r12)), (2, .int (v2 + 1))] [2, 1, 0] rfl ?_
      exact w4_ (v1 + r12) (v2 + 1)  _ hF
set_option maxRecDepth 100000 in
set_option maxHeartbeats 4000000 in
theorem w_X1_allBales {Z : ZE} {l : Launch} (hZ : OkX Z)   {R : Int32 × St}    (s : St) (hF : F_X1_allBales (zg Z)   s = some R) : AW Z l iX1_allBales (Pq (rI R)) 0 0 0 [(0, .ref (za Z 4 0))] [] s := by
  unfold F_X1_allBales at hF
  refine a_iconst (v := (0 : Int32)) dX1_allBales_0 (by decide) ?_
  refine a_istore_n [(1, .int (0 : Int32)), (0, .ref (za Z 4 0))] dX1_allBales_1 rfl (by decide) rfl ?_
  refine a_iconst (v := (0 : Int32)) dX1_allBales_2 (by decide) ?_
  refine a_istore_n [(2, .int (0 : Int32)), (1, .int (0 : Int32)), (0, .ref (za Z 4 0))] dX1_allBales_3 rfl (by decide) rfl ?_
  refine a_loc [(0, .ref (za Z 4 0)), (1, .int (0 : Int32)), (2, .int (0 : Int32))] [2, 1, 0] rfl ?_
  exact w_X1_allBales_4 (l := l) hZ   fu (0 : Int32) (0 : Int32)  _ hF
theorem m_X1_allBales {Z : ZE} {l : Launch} (hZ : OkX Z)   {s : St} {R : Int32 × St} (hF : F_X1_allBales (zg Z)  s = some R) : Sp Z l yX1_allBales iX1_allBales [.ref (za Z 4 0)] s (rI R) :=
  Sp.of (by decide) rfl (Nat.le_of_ble_eq_true rfl) (w_X1_allBales hZ  s hF)
-- X10_count
set_option maxRecDepth 100000 in
set_option maxHeartbeats 4000000 in
theorem w_X10_count {Z : ZE} {l : Launch} (hZ : OkX Z) {a1 : Int32}  {R : Int32 × St}    (s : St) (hF : F_X10_count (zg Z) a1  s = some R) : AW Z l iX10_count (Pq (rI R)) 0 0 0 [(0, .ref (za Z 0 0)), (1, .int a1)] [] s := by
  unfold F_X10_count at hF
  refine a_iload_n dX10_count_0 1 rfl rfl ?_
  by_cases q1 : a1 = 0
  · replace hF := (if_pos q1).symm.trans hF
    refine a_tableIn 56 dX10_count_1 (by rw [q1]; decide) (by rw [q1]; decide) (by rw [q1]; rfl) (by decide) ?_
    refine a_aload_n dX10_count_56 0 rfl rfl ?_
    obtain ⟨r57, s57, e57, hF⟩ := bd_some hF
    refine a_invV hZ.1 (As := []) (rest := []) (hZ.2 0 0 (by decide) Nat.one_pos) lk_X10_294 ⟨⟨by decide, by decide⟩, by decide, by decide⟩ rfl (Nat.le_of_ble_eq_true rfl) dX10_count_57 (m_X10_sheetsThere hZ  e57) ?_
    show AW Z l iX10_count (Pq (rI R)) 0 0 60 [(0, .ref (za Z 0 0)), (1, .int a1)] [.int r57] s57
    replace hF := Option.some.inj hF
    subst hF
    exact a_iret rfl (Nat.zero_le _) (Nat.zero_le _) dX10_count_60 ⟨rfl, rfl⟩
  replace hF := (if_neg q1).symm.trans hF
  by_cases q2 : a1 = 1
  · replace hF := (if_pos q2).symm.trans hF
    refine a_tableIn 61 dX10_count_1 (by rw [q2]; decide) (by rw [q2]; decide) (by rw [q2]; rfl) (by decide) ?_
    refine a_aload_n dX10_count_61 0 rfl rfl ?_
    refine a_getR hZ.1 (hZ.2 0 0 (by decide) Nat.one_pos) fl_X10_18 rfl 0 rfl dX10_count_62 ?_
    refine a_getI hZ.1 (s 4 0 12) (hZ.2 4 0 (by decide) Nat.one_pos) fl_X10_298 rfl rfl dX10_count_65 ?_
    replace hF := Option.some.inj hF
    subst hF
    exact a_iret rfl (Nat.zero_le _) (Nat.zero_le _) dX10_count_68 ⟨rfl, rfl⟩
  replace hF := (if_neg q2).symm.trans hF
  by_cases q3 : a1 = 2
  · replace hF := (if_pos q3).symm.trans hF
    refine a_tableIn 69 dX10_count_1 (by rw [q3]; decide) (by rw [q3]; decide) (by rw [q3]; rfl) (by decide) ?_
    refine a_aload_n dX10_count_69 0 rfl rfl ?_
    refine a_getI hZ.1 (s 0 0 9) (hZ.2 0 0 (by decide) Nat.one_pos) fl_X10_233 rfl rfl dX10_count_70 ?_
    replace hF := Option.some.inj hF
    subst hF
    exact a_iret rfl (Nat.zero_le _) (Nat.zero_le _) dX10_count_73 ⟨rfl, rfl⟩
  replace hF := (if_neg q3).symm.trans hF
  by_cases q4 : a1 = 3
  · replace hF := (if_pos q4).symm.trans hF
    refine a_tableIn 74 dX10_count_1 (by rw [q4]; decide) (by rw [q4]; decide) (by rw [q4]; rfl) (by decide) ?_
    refine a_aload_n dX10_count_74 0 rfl rfl ?_
    refine a_getR hZ.1 (hZ.2 0 0 (by decide) Nat.one_pos) fl_X10_18 rfl 0 rfl dX10_count_75 ?_
    refine a_getI hZ.1 (s 4 0 10) (hZ.2 4 0 (by decide) Nat.one_pos) fl_X10_301 rfl rfl dX10_count_78 ?_
    replace hF := Option.some.inj hF
    subst hF
    exact a_iret rfl (Nat.zero_le _) (Nat.zero_le _) dX10_count_81 ⟨rfl, rfl⟩
  replace hF := (if_neg q4).symm.trans hF
  by_cases q5 : a1 = 4
  · replace hF := (if_pos q5).symm.trans hF
    refine a_tableIn 82 dX10_count_1 (by rw [q5]; decide) (by rw [q5]; decide) (by rw [q5]; rfl) (by decide) ?_
    refine a_aload_n dX10_count_82 0 rfl rfl ?_
    refine a_getR hZ.1 (hZ.2 0 0 (by decide) Nat.one_pos) fl_X10_25 rfl 0 rfl dX10_count_83 ?_
    refine a_getI hZ.1 (s 17 0 5) (hZ.2 17 0 (by decide) Nat.one_pos) fl_X10_212 rfl rfl dX10_count_86 ?_
    replace hF := Option.some.inj hF
    subst hF
    exact a_iret rfl (Nat.zero_le _) (Nat.zero_le _) dX10_count_89 ⟨rfl, rfl⟩
  replace hF := (if_neg q5).symm.trans hF
  by_cases q6 : a1 = 5
  · replace hF := (if_pos q6).symm.trans hF
    refine a_tableIn 90 dX10_count_1 (by rw [q6]; decide) (by rw [q6]; decide) (by rw [q6]; rfl) (by decide) ?_
    refine a_aload_n dX10_count_90 0 rfl rfl ?_
    refine a_getR hZ.1 (hZ.2 0 0 (by decide) Nat.one_pos) fl_X10_59 rfl 0 rfl dX10_count_91 ?_
    refine a_getI hZ.1 (s 38 0 4) (hZ.2 38 0 (by decide) Nat.one_pos) fl_X10_304 rfl rfl dX10_count_94 ?_
    replace hF := Option.some.inj hF
    subst hF
    exact a_iret rfl (Nat.zero_le _) (Nat.zero_le _) dX10_count_97 ⟨rfl, rfl⟩
  replace hF := (if_neg q6).symm.trans hF
  by_cases q7 : a1 = 6
  · replace hF := (if_pos q7).symm.trans hF
    refine a_tableIn 98 dX10_count_1 (by rw [q7]; decide) (by rw [q7]; decide) (by rw [q7]; rfl) (by decide) ?_
    refine a_aload_n dX10_count_98 0 rfl rfl ?_
    refine a_getR hZ.1 (hZ.2 0 0 (by decide) Nat.one_pos) fl_X10_59 rfl 0 rfl dX10_count_99 ?_
    obtain ⟨r102, s102, e102, hF⟩ := bd_some hF
    refine a_invV hZ.1 (As := []) (rest := []) (hZ.2 38 0 (by decide) Nat.one_pos) lk_X10_307 ⟨⟨by decide, by decide⟩, by decide, by decide⟩ rfl (Nat.le_of_ble_eq_true rfl) dX10_count_102 (m_X0_yarns hZ  e102) ?_
    show AW Z l iX10_count (Pq (rI R)) 0 0 105 [(0, .ref (za Z 0 0)), (1, .int a1)] [.int r102] s102
    replace hF := Option.some.inj hF
    subst hF
    exact a_iret rfl (Nat.zero_le _) (Nat.zero_le _) dX10_count_105 ⟨rfl, rfl⟩
  replace hF := (if_neg q7).symm.trans hF
  by_cases q8 : a1 = 7
  · replace hF := (if_pos q8).symm.trans hF
    refine a_tableIn 106 dX10_count_1 (by rw [q8]; decide) (by rw [q8]; decide) (by rw [q8]; rfl) (by decide) ?_
    refine a_aload_n dX10_count_106 0 rfl rfl ?_
    refine a_getR hZ.1 (hZ.2 0 0 (by decide) Nat.one_pos) fl_X10_18 rfl 0 rfl dX10_count_107 ?_
    refine a_getI hZ.1 (s 4 0 13) (hZ.2 4 0 (by decide) Nat.one_pos) fl_X10_173 rfl rfl dX10_count_110 ?_
    replace hF := Option.some.inj hF
    subst hF
    exact a_iret rfl (Nat.zero_le _) (Nat.zero_le _) dX10_count_113 ⟨rfl, rfl⟩
  replace hF := (if_neg q8).symm.trans hF
  by_cases q9 : a1 = 8
  · replace hF := (if_pos q9).symm.trans hF
    refine a_tableIn 114 dX10_count_1 (by rw [q9]; decide) (by rw [q9]; decide) (by rw [q9]; rfl) (by decide) ?_
    refine a_aload_n dX10_count_114 0 rfl rfl ?_
    refine a_getR hZ.1 (hZ.2 0 0 (by decide) Nat.one_pos) fl_X10_32 rfl 0 rfl dX10_count_115 ?_
    refine a_getI hZ.1 (s 23 0 1) (hZ.2 23 0 (by decide) Nat.one_pos) fl_X10_202 rfl rfl dX10_count_118 ?_
    replace hF := Option.some.inj hF
    subst hF
    exact a_iret rfl (Nat.zero_le _) (Nat.zero_le _) dX10_count_121 ⟨rfl, rfl⟩
  replace hF := (if_neg q9).symm.trans hF
  by_cases q10 : a1 = 9
  · replace hF := (if_pos q10).symm.trans hF
    refine a_tableIn 122 dX10_count_1 (by rw [q10]; decide) (by rw [q10]; decide) (by rw [q10]; rfl) (by decide) ?_
    refine a_aload_n dX10_count_122 0 rfl rfl ?_
    refine a_getR hZ.1 (hZ.2 0 0 (by decide) Nat.one_pos) fl_X10_18 rfl 0 rfl dX10_count_123 ?_
    obtain ⟨r126, s126, e126, hF⟩ := bd_some hF
    refine a_invV hZ.1 (As := []) (rest := []) (hZ.2 4 0 (by decide) Nat.one_pos) lk_X10_310 ⟨⟨by decide, by decide⟩, by decide, by decide⟩ rfl (Nat.le_of_ble_eq_true rfl) dX10_count_126 (m_X1_allBales hZ  e126) ?_
    show AW Z l iX10_count (Pq (rI R)) 0 0 129 [(0, .ref (za Z 0 0)), (1, .int a1)] [.int r126] s126
    replace hF := Option.some.inj hF
    subst hF
    exact a_iret rfl (Nat.zero_le _) (Nat.zero_le _) dX10_count_129 ⟨rfl, rfl⟩
  replace hF := (if_neg q10).symm.trans hF
  refine a_tableOut 130 dX10_count_1 (by have n0 : (a1).toInt ≠ 0 := ne_ti q1; have n1 : (a1).toInt ≠ 1 := ne_ti q2; have n2 : (a1).toInt ≠ 2 := ne_ti q3; have n3 : (a1).toInt ≠ 3 := ne_ti q4; have n4 : (a1).toInt ≠ 4 := ne_ti q5; have n5 : (a1).toInt ≠ 5 := ne_ti q6; have n6 : (a1).toInt ≠ 6 := ne_ti q7; have n7 : (a1).toInt ≠ 7 := ne_ti q8; have n8 : (a1).toInt ≠ 8 := ne_ti q9; have n9 : (a1).toInt ≠ 9 := ne_ti q10; omega) (by decide) ?_
  refine a_ldc (v := (-1000001)) kw_324 dX10_count_130 ?_
  replace hF := Option.some.inj hF
  subst hF
  exact a_iret rfl (Nat.zero_le _) (Nat.zero_le _) dX10_count_132 ⟨rfl, rfl⟩
theorem m_X10_count {Z : ZE} {l : Launch} (hZ : OkX Z) {a1 : Int32}  {s : St} {R : Int32 × St} (hF : F_X10_count (zg Z) a1 s = some R) : Sp Z l yX10_count iX10_count [.ref (za Z 0 0), .int a1] s (rI R) :=
  Sp.of (by decide) rfl (Nat.le_of_ble_eq_true rfl) (w_X10_count hZ  s hF)
-- X10_drop
set_option maxRecDepth 100000 in
set_option maxHeartbeats 4000000 in
theorem w_X10_drop {Z : ZE} {l : Launch} (hZ : OkX Z) {a1 : Int32}  {R : Int32 × St}    (s : St) (hF : F_X10_drop (zg Z) a1  s = some R) : AW Z l iX10_drop (Pq (rI R)) 0 0 0 [(0, .ref (za Z 0 0)), (1, .int a1)] [] s := by
  unfold F_X10_drop at hF
  refine a_iload_n dX10_drop_0 1 rfl rfl ?_
  obtain ⟨r1, s1, e1, hF⟩ := bd_some hF
  refine a_invS hZ.1 (As := [.int a1]) (rest := []) lk_X10_71 ⟨⟨by decide, by decide⟩, by decide, by decide⟩ rfl (Nat.le_of_ble_eq_true rfl) dX10_drop_1 (m_X10_isSheet hZ  e1) ?_
  show AW Z l iX10_drop (Pq (rI R)) 0 0 4 [(0, .ref (za Z 0 0)), (1, .int a1)] [.int r1] s1
  refine a_if_ne 10 dX10_drop_4 (by decide) (fun q1 => ?_) (fun q1 => ?_)
  · replace hF := (if_neg q1).symm.trans hF
    refine a_aload_n dX10_drop_10 0 rfl rfl ?_
    refine a_getR hZ.1 (hZ.2 0 0 (by decide) Nat.one_pos) fl_X10_11 rfl 0 rfl dX10_drop_11 ?_
    refine a_iload_n dX10_drop_14 1 rfl rfl ?_
    obtain ⟨p2, hF⟩ := gd_some hF
    refine a_aald hZ.1 (hZ.2 1 0 (by decide) Nat.one_pos) rfl rfl rfl rfl (inb_vp p2) (inb_lt p2) dX10_drop_15 ?_
    refine a_astore_n [(2, .ref (za Z 2 a1.toNatClampNeg)), (0, .ref (za Z 0 0)), (1, .int a1)] dX10_drop_16 rfl (by decide) rfl ?_
    refine a_aload_n dX10_drop_17 0 rfl rfl ?_
    refine a_getI hZ.1 (s1 2 a1.toNatClampNeg 1) (hZ.2 2 a1.toNatClampNeg (by decide) (inb_lt p2)) fl_X10_98 rfl rfl dX10_drop_18 ?_
    refine a_if_eq 30 dX10_drop_21 (by decide) (fun q3 => ?_) (fun q3 => ?_)
    · replace hF := (if_pos q3).symm.trans hF
      refine a_aload_n dX10_drop_30 0 rfl rfl ?_
      refine a_iconst (v := (1 : Int32)) dX10_drop_31 (by decide) ?_
      refine a_put hZ.1 (hZ.2 2 a1.toNatClampNeg (by decide) (inb_lt p2)) fl_X10_98 rfl rfl rfl dX10_drop_32 ?_
      refine a_aload_n dX10_drop_35 1 rfl rfl ?_
      refine a_aload_n dX10_drop_36 0 rfl rfl ?_
      refine a_getI hZ.1 (s1 2 a1.toNatClampNeg 3) (hZ.2 2 a1.toNatClampNeg (by decide) (inb_lt p2)) fl_X10_120 rfl (by simp [up]) dX10_drop_37 ?_
      obtain ⟨r40, s40, e40, hF⟩ := bd_some hF
      refine a_invV hZ.1 (As := [.int (s1 2 a1.toNatClampNeg 3)]) (rest := []) (hZ.2 0 0 (by decide) Nat.one_pos) lk_X10_88 ⟨⟨by decide, by decide⟩, by decide, by decide⟩ rfl (Nat.le_of_ble_eq_true rfl) dX10_drop_40 (m_X10_unfound hZ  e40) ?_
      show AW Z l iX10_drop (Pq (rI R)) 0 0 43 [(2, .ref (za Z 2 a1.toNatClampNeg)), (0, .ref (za Z 0 0)), (1, .int a1)] [.int r40] s40
      replace hF := Option.some.inj hF
      subst hF
      exact a_iret rfl (Nat.zero_le _) (Nat.zero_le _) dX10_drop_43 ⟨rfl, rfl⟩
    · replace hF := (if_neg q3).symm.trans hF
      refine a_aload_n dX10_drop_24 1 rfl rfl ?_
      refine a_iconst (v := (1 : Int32)) dX10_drop_25 (by decide) ?_
      obtain ⟨r26, s26, e26, hF⟩ := bd_some hF
      refine a_invV hZ.1 (As := [.int (1 : Int32)]) (rest := []) (hZ.2 0 0 (by decide) Nat.one_pos) lk_X10_80 ⟨⟨by decide, by decide⟩, by decide, by decide⟩ rfl (Nat.le_of_ble_eq_true rfl) dX10_drop_26 (m_X10_found hZ  e26) ?_
      show AW Z l iX10_drop (Pq (rI R)) 0 0 29 [(2, .ref (za Z 2 a1.toNatClampNeg)), (0, .ref (za Z 0 0)), (1, .int a1)] [.int r26] s26
      replace hF := Option.some.inj hF
      subst hF
      exact a_iret rfl (Nat.zero_le _) (Nat.zero_le _) dX10_drop_29 ⟨rfl, rfl⟩
  · replace hF := (if_pos q1).symm.trans hF
    refine a_ldc (v := (-1000001)) kw_324 dX10_drop_7 ?_
    replace hF := Option.some.inj hF
    subst hF
    exact a_iret rfl (Nat.zero_le _) (Nat.zero_le _) dX10_drop_9 ⟨rfl, rfl⟩
theorem m_X10_drop {Z : ZE} {l : Launch} (hZ : OkX Z) {a1 : Int32}  {s : St} {R : Int32 × St} (hF : F_X10_drop (zg Z) a1 s = some R) : Sp Z l yX10_drop iX10_drop [.ref (za Z 0 0), .int a1] s (rI R) :=
  Sp.of (by decide) rfl (Nat.le_of_ble_eq_true rfl) (w_X10_drop hZ  s hF)
-- X10_earned
set_option maxRecDepth 100000 in
set_option maxHeartbeats 4000000 in
theorem w_X10_earned {Z : ZE} {l : Launch} (hZ : OkX Z) {a1 : Int32} {a2 : Int32}  {R : Int32 × St}    (s : St) (hF : F_X10_earned (zg Z) a1 a2  s = some R) : AW Z l iX10_earned (Pq (rI R)) 0 0 0 [(0, .ref (za Z 0 0)), (1, .int a1), (2, .int a2)] [] s := by
  unfold F_X10_earned at hF
  refine a_sipush (v := (3000 : Int32)) dX10_earned_0 (by decide) ?_
  refine a_iconst (v := (1 : Int32)) dX10_earned_3 (by decide) ?_
  refine a_bipush (v := (50 : Int32)) dX10_earned_4 (by decide) ?_
  refine a_aload_n dX10_earned_6 0 rfl rfl ?_
  refine a_getR hZ.1 (hZ.2 0 0 (by decide) Nat.one_pos) fl_X10_18 rfl 0 rfl dX10_earned_7 ?_
  refine a_getR hZ.1 (hZ.2 4 0 (by decide) Nat.one_pos) fl_X10_130 rfl 0 rfl dX10_earned_10 ?_
  refine a_iload_n dX10_earned_13 1 rfl rfl ?_
  obtain ⟨p1, hF⟩ := gd_some hF
  refine a_iald hZ.1 (s 6 0 a1.toNatClampNeg) (hZ.2 6 0 (by decide) Nat.one_pos) rfl rfl (inb_vp p1) rfl dX10_earned_14 ?_
  refine a_iadd dX10_earned_15 ?_
  refine a_mmax kw_566 kw_500 kw_14 kw_501 ⟨by decide, Nat.le_of_ble_eq_true rfl, Nat.zero_le _, Nat.zero_le _⟩ dX10_earned_16 ?_
  obtain ⟨p2, hF⟩ := gd_some hF
  refine a_idiv dX10_earned_19 (ne0_n p2) ?_
  refine a_istore_n [(3, .int ((3000 : Int32) / (if (1 : Int32) < ((50 : Int32) + (s 6 0 a1.toNatClampNeg)) then ((50 : Int32) + (s 6 0 a1.toNatClampNeg)) else (1 : Int32)))), (0, .ref (za Z 0 0)), (1, .int a1), (2, .int a2)] dX10_earned_20 rfl (by decide) rfl ?_
  refine a_iload_n dX10_earned_21 0 rfl rfl ?_
  refine a_aload_n dX10_earned_22 1 rfl rfl ?_
  refine a_getR hZ.1 (hZ.2 0 0 (by decide) Nat.one_pos) fl_X10_25 rfl 0 rfl dX10_earned_23 ?_
  refine a_iload_n dX10_earned_26 3 rfl rfl ?_
  refine a_iload_n dX10_earned_27 2 rfl rfl ?_
  obtain ⟨r28, s28, e28, hF⟩ := bd_some hF
  refine a_invV hZ.1 (As := [.int a2, .int a1]) (rest := [.int ((3000 : Int32) / (if (1 : Int32) < ((50 : Int32) + (s 6 0 a1.toNatClampNeg)) then ((50 : Int32) + (s 6 0 a1.toNatClampNeg)) else (1 : Int32)))]) (hZ.2 17 0 (by decide) Nat.one_pos) lk_X10_224 ⟨⟨by decide, by decide⟩, by decide, by decide⟩ rfl (Nat.le_of_ble_eq_true rfl) dX10_earned_28 (m_X6_inForce hZ  e28) ?_
  show AW Z l iX10_earned (Pq (rI R)) 0 0 31 [(3, .int ((3000 : Int32) / (if (1 : Int32) < ((50 : Int32) + (s 6 0 a1.toNatClampNeg)) then ((50 : Int32) + (s 6 0 a1.toNatClampNeg)) else (1 : Int32)))), (0, .ref (za Z 0 0)), (1, .int a1), (2, .int a2)] [.int r28, .int ((3000 : Int32) / (if (1 : Int32) < ((50 : Int32) + (s 6 0 a1.toNatClampNeg)) then ((50 : Int32) + (s 6 0 a1.toNatClampNeg)) else (1 : Int32)))] s28
  refine a_imul dX10_earned_31 ?_
  replace hF := Option.some.inj hF
  subst hF
  exact a_iret rfl (Nat.zero_le _) (Nat.zero_le _) dX10_earned_32 ⟨rfl, rfl⟩
theorem m_X10_earned {Z : ZE} {l : Launch} (hZ : OkX Z) {a1 : Int32} {a2 : Int32}  {s : St} {R : Int32 × St} (hF : F_X10_earned (zg Z) a1 a2 s = some R) : Sp Z l yX10_earned iX10_earned [.ref (za Z 0 0), .int a1, .int a2] s (rI R) :=
  Sp.of (by decide) rfl (Nat.le_of_ble_eq_true rfl) (w_X10_earned hZ  s hF)
-- X10_fault
set_option maxRecDepth 100000 in
set_option maxHeartbeats 4000000 in
theorem w_X10_fault {Z : ZE} {l : Launch} (hZ : OkX Z)   {R : Int32 × St}    (s : St) (hF : F_X10_fault (zg Z)   s = some R) : AW Z l iX10_fault (Pq (rI R)) 0 0 0 [(0, .ref (za Z 0 0))] [] s := by
  unfold F_X10_fault at hF
  refine a_aload_n dX10_fault_0 0 rfl rfl ?_
  refine a_getR hZ.1 (hZ.2 0 0 (by decide) Nat.one_pos) fl_X10_32 rfl 0 rfl dX10_fault_1 ?_
  refine a_getI hZ.1 (s 23 0 2) (hZ.2 23 0 (by decide) Nat.one_pos) fl_X10_215 rfl rfl dX10_fault_4 ?_
  replace hF := Option.some.inj hF
  subst hF
  exact a_iret rfl (Nat.zero_le _) (Nat.zero_le _) dX10_fault_7 ⟨rfl, rfl⟩
theorem m_X10_fault {Z : ZE} {l : Launch} (hZ : OkX Z)   {s : St} {R : Int32 × St} (hF : F_X10_fault (zg Z)  s = some R) : Sp Z l yX10_fault iX10_fault [.ref (za Z 0 0)] s (rI R) :=
  Sp.of (by decide) rfl (Nat.le_of_ble_eq_true rfl) (w_X10_fault hZ  s hF)
-- X8_append
set_option maxRecDepth 100000 in
set_option maxHeartbeats 4000000 in
theorem w_X8_append_20 {Z : ZE} {l : Launch} (hZ : OkX Z) {a1 : Int64} {a3 : Int32}  {R : Int32 × St}  : ∀ (n_ : Nat) (v4 : Int32)  (s : St), F_X8_append_20 (zg Z) a1 a3 n_ v4 s = some R → AW Z l iX8_append (Pq (rI R)) 0 0 20 [(0, .ref (za Z 23 0)), (1, .long a1), (4, .int v4)] [] s := by
  intro n_
  induction n_ with
  | zero =>
    intro v4 s hF
    exact absurd hF (by rw [F_X8_append_20]; exact fun q => by cases q)
  | succ n_ w20_ =>
    intro v4 s hF
    rw [F_X8_append_20] at hF
    refine a_iload dX8_append_20 2 rfl ?_
    refine a_if_lt 62 dX8_append_22 (by decide) (fun q1 => ?_) (fun q1 => ?_)
    · replace hF := (if_pos q1).symm.trans hF
      refine a_aload_n dX8_append_62 0 rfl rfl ?_
      refine a_getI hZ.1 (s 23 0 1) (hZ.2 23 0 (by decide) Nat.one_pos) fl_X8_15 rfl rfl dX8_append_63 ?_
      replace hF := Option.some.inj hF
      subst hF
      exact a_iret rfl (Nat.zero_le _) (Nat.zero_le _) dX8_append_66 ⟨rfl, rfl⟩
    · replace hF := (if_neg q1).symm.trans hF
      refine a_aload_n dX8_append_25 0 rfl rfl ?_
      refine a_getR hZ.1 (hZ.2 23 0 (by decide) Nat.one_pos) fl_X8_11 rfl 0 rfl dX8_append_26 ?_
      refine a_aload_n dX8_append_29 0 rfl rfl ?_
      refine a_getI hZ.1 (s 23 0 1) (hZ.2 23 0 (by decide) Nat.one_pos) fl_X8_15 rfl rfl dX8_append_30 ?_
      refine a_lload_n dX8_append_33 1 rfl rfl ?_
      refine a_bipush (v := (8 : Int32)) dX8_append_34 (by decide) ?_
      refine a_iload dX8_append_36 2 rfl ?_
      refine a_imul dX8_append_38 ?_
      refine a_lshr dX8_append_39 ?_
      refine a_l2i dX8_append_40 ?_
      refine a_sipush (v := (255 : Int32)) dX8_append_41 (by decide) ?_
      refine a_iand dX8_append_44 ?_
      obtain ⟨p2, hF⟩ := gd_some hF
      refine a_iast hZ.1 (hZ.2 24 0 (by decide) Nat.one_pos) rfl rfl (inb_vp p2) dX8_append_45 ?_
      refine a_aload_n dX8_append_46 0 rfl rfl ?_
      refine a_dup dX8_append_47 rfl ?_
      refine a_getI hZ.1 (s 23 0 1) (hZ.2 23 0 (by decide) Nat.one_pos) fl_X8_15 rfl rfl dX8_append_48 ?_
      refine a_iconst (v := (1 : Int32)) dX8_append_51 (by decide) ?_
      refine a_iadd dX8_append_52 ?_
      refine a_put hZ.1 (hZ.2 23 0 (by decide) Nat.one_pos) fl_X8_15 rfl rfl rfl dX8_append_53 ?_
      refine a_iinc [(4, .int (v4 + (-1))), (0, .ref (za Z 23 0)), (1, .long a1)] dX8_append_56 2 rfl rfl (by decide) rfl ?_
      refine a_goto 20 dX8_append_59 (by decide) ?_
      refine a_loc [(0, .ref (za Z 23 0)), (1, .long a1), (4, .int (v4 + (-1)))] [1, 2, 0] rfl ?_
      exact w20_ (v4 + (-1))  _ hF
set_option maxRecDepth 100000 in
set_option maxHeartbeats 4000000 in
theorem w_X8_append {Z : ZE} {l : Launch} (hZ : OkX Z) {a1 : Int64} {a3 : Int32}  {R : Int32 × St}    (s : St) (hF : F_X8_append (zg Z) a1 a3  s = some R) : AW Z l iX8_append (Pq (rI R)) 0 0 0 [(0, .ref (za Z 23 0)), (1, .long a1), (3, .int a3)] [] s := by
  unfold F_X8_append at hF
  refine a_aload_n dX8_append_0 0 rfl rfl ?_
  refine a_getI hZ.1 (s 23 0 1) (hZ.2 23 0 (by decide) Nat.one_pos) fl_X8_15 rfl rfl dX8_append_1 ?_
  refine a_iload_n dX8_append_4 2 rfl rfl ?_
  refine a_iadd dX8_append_5 ?_
  refine a_sipush (v := (400 : Int32)) dX8_append_6 (by decide) ?_
  refine a_icmp_le 15 dX8_append_9 (by decide) (fun q1 => ?_) (fun q1 => ?_)
  · replace hF := (if_pos q1).symm.trans hF
    refine a_iload_n dX8_append_15 2 rfl rfl ?_
    refine a_iconst (v := (1 : Int32)) dX8_append_16 (by decide) ?_
    refine a_isub dX8_append_17 ?_
    refine a_istore [(4, .int (a3 - (1 : Int32))), (0, .ref (za Z 23 0)), (1, .long a1), (3, .int a3)] dX8_append_18 (by decide) rfl ?_
    refine a_loc [(0, .ref (za Z 23 0)), (1, .long a1), (4, .int (a3 - (1 : Int32)))] [1, 2, 0] rfl ?_
    exact w_X8_append_20 (l := l) hZ   fu (a3 - (1 : Int32))  _ hF
  · replace hF := (if_neg q1).symm.trans hF
    refine a_ldc (v := (-1000003)) kw_593 dX8_append_12 ?_
    replace hF := Option.some.inj hF
    subst hF
    exact a_iret rfl (Nat.zero_le _) (Nat.zero_le _) dX8_append_14 ⟨rfl, rfl⟩
theorem m_X8_append {Z : ZE} {l : Launch} (hZ : OkX Z) {a1 : Int64} {a3 : Int32}  {s : St} {R : Int32 × St} (hF : F_X8_append (zg Z) a1 a3 s = some R) : Sp Z l yX8_append iX8_append [.ref (za Z 23 0), .long a1, .int a3] s (rI R) :=
  Sp.of (by decide) rfl (Nat.le_of_ble_eq_true rfl) (w_X8_append hZ  s hF)
