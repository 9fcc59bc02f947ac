-- X7_findingAt
set_option maxRecDepth 100000 in
set_option maxHeartbeats 4000000 in
theorem w_X7_findingAt {Z : ZE} {l : Launch} (hZ : OkX Z) {k0 : Nat} {a1 : Int32} {a2 : Int32} (h0 : k0 < shN (zg Z) 2) {R : Int32 × St}    (s : St) (hF : F_X7_findingAt (zg Z) k0 a1 a2  s = some R) : AW Z l iX7_findingAt (Pq (rI R)) 0 0 0 [(0, .ref (za Z 2 k0)), (1, .int a1), (2, .int a2)] [] s := by
  unfold F_X7_findingAt at hF
  refine a_aload_n dX7_findingAt_0 0 rfl rfl ?_
  refine a_getI hZ.1 (s 2 k0 1) (hZ.2 2 k0 (by decide) h0) fl_X7_15 rfl rfl dX7_findingAt_1 ?_
  refine a_if_eq 9 dX7_findingAt_4 (by decide) (fun q1 => ?_) (fun q1 => ?_)
  · replace hF := (if_pos q1).symm.trans hF
    refine a_aload_n dX7_findingAt_9 0 rfl rfl ?_
    refine a_iload_n dX7_findingAt_10 1 rfl rfl ?_
    refine a_iload_n dX7_findingAt_11 2 rfl rfl ?_
    obtain ⟨r12, s12, e12, hF⟩ := bd_some hF
    refine a_invV hZ.1 (As := [.int a1, .int a2]) (rest := []) (hZ.2 2 k0 (by decide) h0) lk_X7_32 ⟨⟨by decide, by decide⟩, by decide, by decide⟩ rfl (Nat.le_of_ble_eq_true rfl) dX7_findingAt_12 (m_X7_reaches hZ h0 e12) ?_
    show AW Z l iX7_findingAt (Pq (rI R)) 0 0 15 [(0, .ref (za Z 2 k0)), (1, .int a1), (2, .int a2)] [.int r12] s12
    refine a_if_eq 22 dX7_findingAt_15 (by decide) (fun q2 => ?_) (fun q2 => ?_)
    · replace hF := (if_pos q2).symm.trans hF
      refine a_iconst (v := (2 : Int32)) dX7_findingAt_22 (by decide) ?_
      replace hF := Option.some.inj hF
      subst hF
      exact a_iret rfl (Nat.zero_le _) (Nat.zero_le _) dX7_findingAt_23 ⟨rfl, rfl⟩
    · replace hF := (if_neg q2).symm.trans hF
      refine a_iconst (v := (0 : Int32)) dX7_findingAt_18 (by decide) ?_
      refine a_goto 23 dX7_findingAt_19 (by decide) ?_
      replace hF := Option.some.inj hF
      subst hF
      exact a_iret rfl (Nat.zero_le _) (Nat.zero_le _) dX7_findingAt_23 ⟨rfl, rfl⟩
  · replace hF := (if_neg q1).symm.trans hF
    refine a_iconst (v := (1 : Int32)) dX7_findingAt_7 (by decide) ?_
    replace hF := Option.some.inj hF
    subst hF
    exact a_iret rfl (Nat.zero_le _) (Nat.zero_le _) dX7_findingAt_8 ⟨rfl, rfl⟩
theorem m_X7_findingAt {Z : ZE} {l : Launch} (hZ : OkX Z) {k0 : Nat} {a1 : Int32} {a2 : Int32} (h0 : k0 < shN (zg Z) 2) {s : St} {R : Int32 × St} (hF : F_X7_findingAt (zg Z) k0 a1 a2 s = some R) : Sp Z l yX7_findingAt iX7_findingAt [.ref (za Z 2 k0), .int a1, .int a2] s (rI R) :=
  Sp.of (by decide) rfl (Nat.le_of_ble_eq_true rfl) (w_X7_findingAt hZ h0 s hF)
-- X10_paid
set_option maxRecDepth 100000 in
set_option maxHeartbeats 4000000 in
theorem w_X10_paid_115 {Z : ZE} {l : Launch} (hZ : OkX Z) {a1 : Int32} {a2 : Int32} {a3 : Int32} {a4 : Int32}  {R : Int32 × St}  (x1 : Int32)  (s : St) (hF : F_X10_paid_115 (zg Z) a1 a2 a3 a4 x1 s = some R) : AW Z l iX10_paid (Pq (rI R)) 0 0 115 [] [.int x1, .ref (za Z 0 0)] s := by
  unfold F_X10_paid_115 at hF
  obtain ⟨r115, s115, e115, hF⟩ := bd_some hF
  refine a_invV hZ.1 (As := [.int x1]) (rest := []) (hZ.2 0 0 (by decide) Nat.one_pos) lk_X10_88 ⟨⟨by decide, by decide⟩, by decide, by decide⟩ rfl (Nat.le_of_ble_eq_true rfl) dX10_paid_115 (m_X10_unfound hZ  e115) ?_
  show AW Z l iX10_paid (Pq (rI R)) 0 0 118 [] [.int r115] s115
  replace hF := Option.some.inj hF
  subst hF
  exact a_iret rfl (Nat.zero_le _) (Nat.zero_le _) dX10_paid_118 ⟨rfl, rfl⟩
set_option maxRecDepth 100000 in
set_option maxHeartbeats 4000000 in
theorem w_X10_paid {Z : ZE} {l : Launch} (hZ : OkX Z) {a1 : Int32} {a2 : Int32} {a3 : Int32} {a4 : Int32}  {R : Int32 × St}    (s : St) (hF : F_X10_paid (zg Z) a1 a2 a3 a4  s = some R) : AW Z l iX10_paid (Pq (rI R)) 0 0 0 [(0, .ref (za Z 0 0)), (1, .int a1), (2, .int a2), (3, .int a3), (4, .int a4)] [] s := by
  unfold F_X10_paid at hF
  refine a_iload_n dX10_paid_0 1 rfl rfl ?_
  obtain ⟨r1, s1, e1, hF⟩ := bd_some hF
  refine a_invS hZ.1 (As := [.int a1]) (rest := []) lk_X10_71 ⟨⟨by decide, by decide⟩, by decide, by decide⟩ rfl (Nat.le_of_ble_eq_true rfl) dX10_paid_1 (m_X10_isSheet hZ  e1) ?_
  show AW Z l iX10_paid (Pq (rI R)) 0 0 4 [(0, .ref (za Z 0 0)), (1, .int a1), (2, .int a2), (3, .int a3), (4, .int a4)] [.int r1] s1
  refine a_if_eq 27 dX10_paid_4 (by decide) (fun q1 => ?_) (fun q1 => ?_)
  · replace hF := (if_pos q1).symm.trans hF
    refine a_ldc (v := (-1000001)) kw_324 dX10_paid_27 ?_
    replace hF := Option.some.inj hF
    subst hF
    exact a_iret rfl (Nat.zero_le _) (Nat.zero_le _) dX10_paid_29 ⟨rfl, rfl⟩
  · replace hF := (if_neg q1).symm.trans hF
    refine a_iload_n dX10_paid_7 3 rfl rfl ?_
    refine a_iconst (v := (1 : Int32)) dX10_paid_8 (by decide) ?_
    refine a_bipush (v := (8 : Int32)) dX10_paid_9 (by decide) ?_
    obtain ⟨r11, s11, e11, hF⟩ := bd_some hF
    refine a_invS hZ.1 (As := [.int a3, .int (1 : Int32), .int (8 : Int32)]) (rest := []) lk_X10_75 ⟨⟨by decide, by decide⟩, by decide, by decide⟩ rfl (Nat.le_of_ble_eq_true rfl) dX10_paid_11 (m_X10_within hZ  e11) ?_
    show AW Z l iX10_paid (Pq (rI R)) 0 0 14 [(0, .ref (za Z 0 0)), (1, .int a1), (2, .int a2), (3, .int a3), (4, .int a4)] [.int r11] s11
    refine a_if_eq 27 dX10_paid_14 (by decide) (fun q2 => ?_) (fun q2 => ?_)
    · replace hF := (if_pos q2).symm.trans hF
      refine a_ldc (v := (-1000001)) kw_324 dX10_paid_27 ?_
      replace hF := Option.some.inj hF
      subst hF
      exact a_iret rfl (Nat.zero_le _) (Nat.zero_le _) dX10_paid_29 ⟨rfl, rfl⟩
    · replace hF := (if_neg q2).symm.trans hF
      refine a_iload dX10_paid_17 4 rfl ?_
      refine a_iconst (v := (0 : Int32)) dX10_paid_19 (by decide) ?_
      refine a_iload_n dX10_paid_20 3 rfl rfl ?_
      obtain ⟨r21, s21, e21, hF⟩ := bd_some hF
      refine a_invS hZ.1 (As := [.int a4, .int (0 : Int32), .int a3]) (rest := []) lk_X10_75 ⟨⟨by decide, by decide⟩, by decide, by decide⟩ rfl (Nat.le_of_ble_eq_true rfl) dX10_paid_21 (m_X10_within hZ  e21) ?_
      show AW Z l iX10_paid (Pq (rI R)) 0 0 24 [(0, .ref (za Z 0 0)), (1, .int a1), (2, .int a2), (3, .int a3), (4, .int a4)] [.int r21] s21
      refine a_if_ne 30 dX10_paid_24 (by decide) (fun q3 => ?_) (fun q3 => ?_)
      · replace hF := (if_neg q3).symm.trans hF
        refine a_aload_n dX10_paid_30 0 rfl rfl ?_
        refine a_getR hZ.1 (hZ.2 0 0 (by decide) Nat.one_pos) fl_X10_11 rfl 0 rfl dX10_paid_31 ?_
        refine a_iload_n dX10_paid_34 1 rfl rfl ?_
        obtain ⟨p4, hF⟩ := gd_some hF
        refine a_aald hZ.1 (hZ.2 1 0 (by decide) Nat.one_pos) rfl rfl rfl rfl (inb_vp p4) (inb_lt p4) dX10_paid_35 ?_
        refine a_astore [(5, .ref (za Z 2 a1.toNatClampNeg)), (0, .ref (za Z 0 0)), (1, .int a1), (2, .int a2), (3, .int a3), (4, .int a4)] dX10_paid_36 (by decide) rfl ?_
        refine a_aload dX10_paid_38 0 rfl ?_
        refine a_iload_n dX10_paid_40 3 rfl rfl ?_
        refine a_iload_n dX10_paid_41 4 rfl rfl ?_
        refine a_iload_n dX10_paid_42 4 rfl rfl ?_
        refine a_iload_n dX10_paid_43 4 rfl rfl ?_
        refine a_imul dX10_paid_44 ?_
        refine a_iadd dX10_paid_45 ?_
        obtain ⟨r46, s46, e46, hF⟩ := bd_some hF
        refine a_invV hZ.1 (As := [.int a2, .int (a3 + (a3 * a3))]) (rest := []) (hZ.2 2 a1.toNatClampNeg (by decide) (inb_lt p4)) lk_X10_91 ⟨⟨by decide, by decide⟩, by decide, by decide⟩ rfl (Nat.le_of_ble_eq_true rfl) dX10_paid_46 (m_X7_findingAt hZ (inb_lt p4) e46) ?_
        show AW Z l iX10_paid (Pq (rI R)) 0 0 49 [(5, .ref (za Z 2 a1.toNatClampNeg)), (0, .ref (za Z 0 0)), (1, .int a1), (2, .int a2), (3, .int a3), (4, .int a4)] [.int r46] s46
        refine a_istore [(6, .int r46), (5, .ref (za Z 2 a1.toNatClampNeg)), (0, .ref (za Z 0 0)), (1, .int a1), (2, .int a2), (3, .int a3), (4, .int a4)] dX10_paid_49 (by decide) rfl ?_
        refine a_iload dX10_paid_51 0 rfl ?_
        refine a_if_eq 63 dX10_paid_53 (by decide) (fun q5 => ?_) (fun q5 => ?_)
        · replace hF := (if_pos q5).symm.trans hF
          refine a_aload_n dX10_paid_63 2 rfl rfl ?_
          refine a_getR hZ.1 (hZ.2 0 0 (by decide) Nat.one_pos) fl_X10_45 rfl 0 rfl dX10_paid_64 ?_
          refine a_aload dX10_paid_67 1 rfl ?_
          refine a_getR hZ.1 (hZ.2 2 a1.toNatClampNeg (by decide) (inb_lt p4)) fl_X10_110 rfl a1.toNatClampNeg rfl dX10_paid_69 ?_
          refine a_iload_n dX10_paid_72 4 rfl rfl ?_
          refine a_iload_n dX10_paid_73 5 rfl rfl ?_
          obtain ⟨r74, s74, e74, hF⟩ := bd_some hF
          refine a_invV hZ.1 (As := [.ref (za Z 3 a1.toNatClampNeg), .int a2, .int a3]) (rest := []) (hZ.2 28 0 (by decide) Nat.one_pos) lk_X10_245 ⟨⟨by decide, by decide⟩, by decide, by decide⟩ rfl (Nat.le_of_ble_eq_true rfl) dX10_paid_74 (m_X2_take hZ (hZ.2 3 a1.toNatClampNeg (by decide) (inb_lt p4)) rfl rfl e74) ?_
          show AW Z l iX10_paid (Pq (rI R)) 0 0 77 [(6, .int r46), (5, .ref (za Z 2 a1.toNatClampNeg)), (0, .ref (za Z 0 0)), (1, .int a1), (2, .int a2), (3, .int a3), (4, .int a4)] [.int r74] s74
          refine a_if_ne 83 dX10_paid_77 (by decide) (fun q6 => ?_) (fun q6 => ?_)
          · replace hF := (if_neg q6).symm.trans hF
            refine a_aload_n dX10_paid_83 2 rfl rfl ?_
            refine a_getR hZ.1 (hZ.2 0 0 (by decide) Nat.one_pos) fl_X10_45 rfl 0 rfl dX10_paid_84 ?_
            refine a_iload_n dX10_paid_87 5 rfl rfl ?_
            obtain ⟨r88, s88, e88, hF⟩ := bd_some hF
            refine a_invV hZ.1 (As := [.int a3]) (rest := []) (hZ.2 28 0 (by decide) Nat.one_pos) lk_X10_249 ⟨⟨by decide, by decide⟩, by decide, by decide⟩ rfl (Nat.le_of_ble_eq_true rfl) dX10_paid_88 (m_X2_settle hZ  e88) ?_
            show AW Z l iX10_paid (Pq (rI R)) 0 0 91 [(6, .int r46), (5, .ref (za Z 2 a1.toNatClampNeg)), (0, .ref (za Z 0 0)), (1, .int a1), (2, .int a2), (3, .int a3), (4, .int a4)] [.int r88] s88
            refine a_istore [(7, .int r88), (6, .int r46), (5, .ref (za Z 2 a1.toNatClampNeg)), (0, .ref (za Z 0 0)), (1, .int a1), (2, .int a2), (3, .int a3), (4, .int a4)] dX10_paid_91 (by decide) rfl ?_
            refine a_aload_n dX10_paid_93 3 rfl rfl ?_
            refine a_iload dX10_paid_94 7 rfl ?_
            refine a_iload_n dX10_paid_96 6 rfl rfl ?_
            refine a_icmp_ne 105 dX10_paid_97 (by decide) (fun q7 => ?_) (fun q7 => ?_)
            · replace hF := (if_neg q7).symm.trans hF
              refine a_aload_n dX10_paid_105 3 rfl rfl ?_
              refine a_getR hZ.1 (hZ.2 0 0 (by decide) Nat.one_pos) fl_X10_45 rfl 0 rfl dX10_paid_106 ?_
              refine a_getR hZ.1 (hZ.2 28 0 (by decide) Nat.one_pos) fl_X10_252 rfl 0 rfl dX10_paid_109 ?_
              refine a_iload dX10_paid_112 7 rfl ?_
              obtain ⟨p8, hF⟩ := gd_some hF
              refine a_iald hZ.1 (s88 33 0 a4.toNatClampNeg) (hZ.2 33 0 (by decide) Nat.one_pos) rfl rfl (inb_vp p8) rfl dX10_paid_114 ?_
              refine a_loc [] [] rfl ?_
              exact w_X10_paid_115 (l := l) hZ   (s88 33 0 a4.toNatClampNeg)  _ hF
            · replace hF := (if_pos q7).symm.trans hF
              refine a_iload dX10_paid_100 0 rfl ?_
              refine a_goto 115 dX10_paid_102 (by decide) ?_
              refine a_loc [] [] rfl ?_
              exact w_X10_paid_115 (l := l) hZ   r88  _ hF
          · replace hF := (if_pos q6).symm.trans hF
            refine a_ldc (v := (-1000001)) kw_324 dX10_paid_80 ?_
            replace hF := Option.some.inj hF
            subst hF
            exact a_iret rfl (Nat.zero_le _) (Nat.zero_le _) dX10_paid_82 ⟨rfl, rfl⟩
        · replace hF := (if_neg q5).symm.trans hF
          refine a_aload_n dX10_paid_56 2 rfl rfl ?_
          refine a_iload dX10_paid_57 0 rfl ?_
          obtain ⟨r59, s59, e59, hF⟩ := bd_some hF
          refine a_invV hZ.1 (As := [.int r46]) (rest := []) (hZ.2 0 0 (by decide) Nat.one_pos) lk_X10_80 ⟨⟨by decide, by decide⟩, by decide, by decide⟩ rfl (Nat.le_of_ble_eq_true rfl) dX10_paid_59 (m_X10_found hZ  e59) ?_
          show AW Z l iX10_paid (Pq (rI R)) 0 0 62 [(6, .int r46), (5, .ref (za Z 2 a1.toNatClampNeg)), (0, .ref (za Z 0 0)), (1, .int a1), (2, .int a2), (3, .int a3), (4, .int a4)] [.int r59] s59
          replace hF := Option.some.inj hF
          subst hF
          exact a_iret rfl (Nat.zero_le _) (Nat.zero_le _) dX10_paid_62 ⟨rfl, rfl⟩
      · replace hF := (if_pos q3).symm.trans hF
        refine a_ldc (v := (-1000001)) kw_324 dX10_paid_27 ?_
        replace hF := Option.some.inj hF
        subst hF
        exact a_iret rfl (Nat.zero_le _) (Nat.zero_le _) dX10_paid_29 ⟨rfl, rfl⟩
theorem m_X10_paid {Z : ZE} {l : Launch} (hZ : OkX Z) {a1 : Int32} {a2 : Int32} {a3 : Int32} {a4 : Int32}  {s : St} {R : Int32 × St} (hF : F_X10_paid (zg Z) a1 a2 a3 a4 s = some R) : Sp Z l yX10_paid iX10_paid [.ref (za Z 0 0), .int a1, .int a2, .int a3, .int a4] s (rI R) :=
  Sp.of (by decide) rfl (Nat.le_of_ble_eq_true rfl) (w_X10_paid hZ  s hF)
-- X4_canUse
set_option maxRecDepth 100000 in
set_option maxHeartbeats 4000000 in
theorem w_X4_canUse {Z : ZE} {l : Launch} (hZ : OkX Z) {k0 : Nat} {a1 : Int32} (h0 : k0 < shN (zg Z) 14) {R : Int32 × St}    (s : St) (hF : F_X4_canUse (zg Z) k0 a1  s = some R) : AW Z l iX4_canUse (Pq (rI R)) 0 0 0 [(0, .ref (za Z 14 k0)), (1, .int a1)] [] s := by
  unfold F_X4_canUse at hF
  refine a_aload_n dX4_canUse_0 0 rfl rfl ?_
  refine a_getI hZ.1 (s 14 k0 1) (hZ.2 14 k0 (by decide) h0) fl_X4_22 rfl rfl dX4_canUse_1 ?_
  refine a_iload_n dX4_canUse_4 1 rfl rfl ?_
  refine a_ishr dX4_canUse_5 ?_
  refine a_iconst (v := (1 : Int32)) dX4_canUse_6 (by decide) ?_
  refine a_iand dX4_canUse_7 ?_
  refine a_iconst (v := (1 : Int32)) dX4_canUse_8 (by decide) ?_
  refine a_icmp_ne 16 dX4_canUse_9 (by decide) (fun q1 => ?_) (fun q1 => ?_)
  · replace hF := (if_neg q1).symm.trans hF
    refine a_iconst (v := (0 : Int32)) dX4_canUse_16 (by decide) ?_
    replace hF := Option.some.inj hF
    subst hF
    exact a_zret rfl rfl (Nat.zero_le _) (Nat.zero_le _) dX4_canUse_17 ⟨rfl, rfl⟩
  · replace hF := (if_pos q1).symm.trans hF
    refine a_iconst (v := (1 : Int32)) dX4_canUse_12 (by decide) ?_
    refine a_goto 17 dX4_canUse_13 (by decide) ?_
    replace hF := Option.some.inj hF
    subst hF
    exact a_zret rfl rfl (Nat.zero_le _) (Nat.zero_le _) dX4_canUse_17 ⟨rfl, rfl⟩
theorem m_X4_canUse {Z : ZE} {l : Launch} (hZ : OkX Z) {k0 : Nat} {a1 : Int32} (h0 : k0 < shN (zg Z) 14) {s : St} {R : Int32 × St} (hF : F_X4_canUse (zg Z) k0 a1 s = some R) : Sp Z l yX4_canUse iX4_canUse [.ref (za Z 14 k0), .int a1] s (rI R) :=
  Sp.of (by decide) rfl (Nat.le_of_ble_eq_true rfl) (w_X4_canUse hZ h0 s hF)
-- X1_priceNow
set_option maxRecDepth 100000 in
set_option maxHeartbeats 4000000 in
theorem w_X1_priceNow_43 {Z : ZE} {l : Launch} (hZ : OkX Z) {a1 : Int32}  {R : Int32 × St}  (v2 : Int32)  (s : St) (hF : F_X1_priceNow_43 (zg Z) a1 v2 s = some R) : AW Z l iX1_priceNow (Pq (rI R)) 0 0 43 [(0, .ref (za Z 4 0)), (1, .int a1), (2, .int v2)] [] s := by
  unfold F_X1_priceNow_43 at hF
  refine a_aload_n dX1_priceNow_43 0 rfl rfl ?_
  refine a_getR hZ.1 (hZ.2 4 0 (by decide) Nat.one_pos) fl_X1_9 rfl 0 rfl dX1_priceNow_44 ?_
  refine a_iload_n dX1_priceNow_47 1 rfl rfl ?_
  obtain ⟨p1, hF⟩ := gd_some hF
  refine a_iald hZ.1 (s 5 0 a1.toNatClampNeg) (hZ.2 5 0 (by decide) Nat.one_pos) rfl rfl (inb_vp p1) rfl dX1_priceNow_48 ?_
  refine a_iconst (v := (4 : Int32)) dX1_priceNow_49 (by decide) ?_
  refine a_iload_n dX1_priceNow_50 2 rfl rfl ?_
  refine a_imul dX1_priceNow_51 ?_
  refine a_aload_n dX1_priceNow_52 0 rfl rfl ?_
  refine a_getI hZ.1 (s 4 0 5) (hZ.2 4 0 (by decide) Nat.one_pos) fl_X1_46 rfl rfl dX1_priceNow_53 ?_
  refine a_iadd dX1_priceNow_56 ?_
  refine a_imul dX1_priceNow_57 ?_
  refine a_iconst (v := (1 : Int32)) dX1_priceNow_58 (by decide) ?_
  refine a_iconst (v := (1 : Int32)) dX1_priceNow_59 (by decide) ?_
  refine a_aload_n dX1_priceNow_60 0 rfl rfl ?_
  refine a_iload_n dX1_priceNow_61 1 rfl rfl ?_
  obtain ⟨r62, s62, e62, hF⟩ := bd_some hF
  refine a_invV hZ.1 (As := [.int a1]) (rest := [.int (1 : Int32), .int (1 : Int32), .int ((s 5 0 a1.toNatClampNeg) * (((4 : Int32) * v2) + (s 4 0 5)))]) (hZ.2 4 0 (by decide) Nat.one_pos) lk_X1_77 ⟨⟨by decide, by decide⟩, by decide, by decide⟩ rfl (Nat.le_of_ble_eq_true rfl) dX1_priceNow_62 (m_X1_balesOf hZ  e62) ?_
  show AW Z l iX1_priceNow (Pq (rI R)) 0 0 65 [(0, .ref (za Z 4 0)), (1, .int a1), (2, .int v2)] [.int r62, .int (1 : Int32), .int (1 : Int32), .int ((s 5 0 a1.toNatClampNeg) * (((4 : Int32) * v2) + (s 4 0 5)))] s62
  refine a_iadd dX1_priceNow_65 ?_
  refine a_mmax kw_499 kw_500 kw_14 kw_501 ⟨by decide, Nat.le_of_ble_eq_true rfl, Nat.zero_le _, Nat.zero_le _⟩ dX1_priceNow_66 ?_
  obtain ⟨p2, hF⟩ := gd_some hF
  refine a_idiv dX1_priceNow_69 (ne0_n p2) ?_
  refine a_istore_n [(3, .int (((s 5 0 a1.toNatClampNeg) * (((4 : Int32) * v2) + (s 4 0 5))) / (if (1 : Int32) < ((1 : Int32) + r62) then ((1 : Int32) + r62) else (1 : Int32)))), (0, .ref (za Z 4 0)), (1, .int a1), (2, .int v2)] dX1_priceNow_70 rfl (by decide) rfl ?_
  refine a_sipush (v := (5000 : Int32)) dX1_priceNow_71 (by decide) ?_
  refine a_iconst (v := (1 : Int32)) dX1_priceNow_74 (by decide) ?_
  refine a_iload_n dX1_priceNow_75 0 rfl rfl ?_
  refine a_mmax kw_499 kw_500 kw_14 kw_501 ⟨by decide, Nat.le_of_ble_eq_true rfl, Nat.zero_le _, Nat.zero_le _⟩ dX1_priceNow_76 ?_
  refine a_mmin kw_502 kw_473 kw_14 kw_474 ⟨by decide, Nat.le_of_ble_eq_true rfl, Nat.zero_le _, Nat.zero_le _⟩ dX1_priceNow_79 ?_
  replace hF := Option.some.inj hF
  subst hF
  exact a_iret rfl (Nat.zero_le _) (Nat.zero_le _) dX1_priceNow_82 ⟨rfl, rfl⟩
set_option maxRecDepth 100000 in
set_option maxHeartbeats 4000000 in
theorem w_X1_priceNow_37 {Z : ZE} {l : Launch} (hZ : OkX Z) {a1 : Int32}  {R : Int32 × St} (h4_ : Int32 → Int32 → St → Option (Int32 × St)) (w4_ : ∀ (v2 : Int32) (v3 : Int32)  (s : St), h4_ v2 v3 s = some R → AW Z l iX1_priceNow (Pq (rI R)) 0 0 4 [(0, .ref (za Z 4 0)), (1, .int a1), (2, .int v2), (3, .int v3)] [] s) (h43_ : Int32 → St → Option (Int32 × St)) (w43_ : ∀ (v2 : Int32)  (s : St), h43_ v2 s = some R → AW Z l iX1_priceNow (Pq (rI R)) 0 0 43 [(0, .ref (za Z 4 0)), (1, .int a1), (2, .int v2)] [] s) (v2 : Int32) (v3 : Int32)  (s : St) (hF : F_X1_priceNow_37 (zg Z) a1 h4_ h43_ v2 v3 s = some R) : AW Z l iX1_priceNow (Pq (rI R)) 0 0 37 [(0, .ref (za Z 4 0)), (1, .int a1), (2, .int v2), (3, .int v3)] [] s := by
  unfold F_X1_priceNow_37 at hF
  refine a_iinc [(3, .int (v3 + 1)), (0, .ref (za Z 4 0)), (1, .int a1), (2, .int v2)] dX1_priceNow_37 3 rfl rfl (by decide) rfl ?_
  refine a_goto 4 dX1_priceNow_40 (by decide) ?_
  refine a_loc [(0, .ref (za Z 4 0)), (1, .int a1), (2, .int v2), (3, .int (v3 + 1))] [1, 2, 3, 0] rfl ?_
  exact w4_ v2 (v3 + 1)  _ hF
set_option maxRecDepth 100000 in
set_option maxHeartbeats 4000000 in
theorem w_X1_priceNow_4 {Z : ZE} {l : Launch} (hZ : OkX Z) {a1 : Int32}  {R : Int32 × St} (h43_ : Int32 → St → Option (Int32 × St)) (w43_ : ∀ (v2 : Int32)  (s : St), h43_ v2 s = some R → AW Z l iX1_priceNow (Pq (rI R)) 0 0 43 [(0, .ref (za Z 4 0)), (1, .int a1), (2, .int v2)] [] s) : ∀ (n_ : Nat) (v2 : Int32) (v3 : Int32)  (s : St), F_X1_priceNow_4 (zg Z) a1 h43_ n_ v2 v3 s = some R → AW Z l iX1_priceNow (Pq (rI R)) 0 0 4 [(0, .ref (za Z 4 0)), (1, .int a1), (2, .int v2), (3, .int v3)] [] s := by
  intro n_
  induction n_ with
  | zero =>
    intro v2 v3 s hF
    exact absurd hF (by rw [F_X1_priceNow_4]; exact fun q => by cases q)
  | succ n_ w4_ =>
    intro v2 v3 s hF
    rw [F_X1_priceNow_4] at hF
    refine a_iload_n dX1_priceNow_4 3 rfl rfl ?_
    refine a_aload_n dX1_priceNow_5 0 rfl rfl ?_
    refine a_getI hZ.1 (s 4 0 12) (hZ.2 4 0 (by decide) Nat.one_pos) fl_X1_53 rfl rfl dX1_priceNow_6 ?_
    refine a_icmp_ge 43 dX1_priceNow_9 (by decide) (fun q1 => ?_) (fun q1 => ?_)
    · replace hF := (if_pos q1).symm.trans hF
      refine a_loc [(0, .ref (za Z 4 0)), (1, .int a1), (2, .int v2)] [0, 1, 2] rfl ?_
      exact w43_ v2  _ hF
    · replace hF := (if_neg q1).symm.trans hF
      refine a_aload_n dX1_priceNow_12 0 rfl rfl ?_
      refine a_getR hZ.1 (hZ.2 4 0 (by decide) Nat.one_pos) fl_X1_42 rfl 0 rfl dX1_priceNow_13 ?_
      refine a_iload_n dX1_priceNow_16 3 rfl rfl ?_
      obtain ⟨p2, hF⟩ := gd_some hF
      obtain ⟨p3, hF⟩ := gd_some hF
      refine a_aald hZ.1 (hZ.2 13 0 (by decide) Nat.one_pos) rfl rfl rfl rfl (inb_vp p2) (ltb_lt p3) dX1_priceNow_17 ?_
      refine a_iload_n dX1_priceNow_18 1 rfl rfl ?_
      obtain ⟨r19, s19, e19, hF⟩ := bd_some hF
      refine a_invV hZ.1 (As := [.int a1]) (rest := []) (hZ.2 14 v3.toNatClampNeg (by decide) (ltb_lt p3)) lk_X1_81 ⟨⟨by decide, by decide⟩, by decide, by decide⟩ rfl (Nat.le_of_ble_eq_true rfl) dX1_priceNow_19 (m_X4_canUse hZ (ltb_lt p3) e19) ?_
      show AW Z l iX1_priceNow (Pq (rI R)) 0 0 22 [(0, .ref (za Z 4 0)), (1, .int a1), (2, .int v2), (3, .int v3)] [.int r19] s19
      refine a_if_eq 37 dX1_priceNow_22 (by decide) (fun q4 => ?_) (fun q4 => ?_)
      · replace hF := (if_pos q4).symm.trans hF
        exact w_X1_priceNow_37 (l := l) hZ  (F_X1_priceNow_4 (zg Z) a1 h43_ n_) w4_ h43_ w43_ v2 v3  _ hF
      · replace hF := (if_neg q4).symm.trans hF
        refine a_iload_n dX1_priceNow_25 2 rfl rfl ?_
        refine a_aload_n dX1_priceNow_26 0 rfl rfl ?_
        refine a_getR hZ.1 (hZ.2 4 0 (by decide) Nat.one_pos) fl_X1_42 rfl 0 rfl dX1_priceNow_27 ?_
        refine a_iload_n dX1_priceNow_30 3 rfl rfl ?_
        obtain ⟨p5, hF⟩ := gd_some hF
        obtain ⟨p6, hF⟩ := gd_some hF
        refine a_aald hZ.1 (hZ.2 13 0 (by decide) Nat.one_pos) rfl rfl rfl rfl (inb_vp p5) (ltb_lt p6) dX1_priceNow_31 ?_
        refine a_getI hZ.1 (s19 14 v3.toNatClampNeg 0) (hZ.2 14 v3.toNatClampNeg (by decide) (ltb_lt p6)) fl_X1_84 rfl rfl dX1_priceNow_32 ?_
        refine a_iadd dX1_priceNow_35 ?_
        refine a_istore_n [(2, .int (v2 + (s19 14 v3.toNatClampNeg 0))), (0, .ref (za Z 4 0)), (1, .int a1), (3, .int v3)] dX1_priceNow_36 rfl (by decide) rfl ?_
        refine a_loc [(0, .ref (za Z 4 0)), (1, .int a1), (2, .int (v2 + (s19 14 v3.toNatClampNeg 0))), (3, .int v3)] [1, 2, 0, 3] rfl ?_
        exact w_X1_priceNow_37 (l := l) hZ  (F_X1_priceNow_4 (zg Z) a1 h43_ n_) w4_ h43_ w43_ (v2 + (s19 14 v3.toNatClampNeg 0)) v3  _ hF
set_option maxRecDepth 100000 in
set_option maxHeartbeats 4000000 in
theorem w_X1_priceNow {Z : ZE} {l : Launch} (hZ : OkX Z) {a1 : Int32}  {R : Int32 × St}    (s : St) (hF : F_X1_priceNow (zg Z) a1  s = some R) : AW Z l iX1_priceNow (Pq (rI R)) 0 0 0 [(0, .ref (za Z 4 0)), (1, .int a1)] [] s := by
  unfold F_X1_priceNow at hF
  refine a_iconst (v := (0 : Int32)) dX1_priceNow_0 (by decide) ?_
  refine a_istore_n [(2, .int (0 : Int32)), (0, .ref (za Z 4 0)), (1, .int a1)] dX1_priceNow_1 rfl (by decide) rfl ?_
  refine a_iconst (v := (0 : Int32)) dX1_priceNow_2 (by decide) ?_
  refine a_istore_n [(3, .int (0 : Int32)), (2, .int (0 : Int32)), (0, .ref (za Z 4 0)), (1, .int a1)] dX1_priceNow_3 rfl (by decide) rfl ?_
  refine a_loc [(0, .ref (za Z 4 0)), (1, .int a1), (2, .int (0 : Int32)), (3, .int (0 : Int32))] [2, 3, 1, 0] rfl ?_
  exact w_X1_priceNow_4 (l := l) hZ  (F_X1_priceNow_43 (zg Z) a1 ) (w_X1_priceNow_43 (l := l) hZ  ) fu (0 : Int32) (0 : Int32)  _ hF
theorem m_X1_priceNow {Z : ZE} {l : Launch} (hZ : OkX Z) {a1 : Int32}  {s : St} {R : Int32 × St} (hF : F_X1_priceNow (zg Z) a1 s = some R) : Sp Z l yX1_priceNow iX1_priceNow [.ref (za Z 4 0), .int a1] s (rI R) :=
  Sp.of (by decide) rfl (Nat.le_of_ble_eq_true rfl) (w_X1_priceNow hZ  s hF)
-- X1_fixPrices
set_option maxRecDepth 100000 in
set_option maxHeartbeats 4000000 in
theorem w_X1_fixPrices_2 {Z : ZE} {l : Launch} (hZ : OkX Z)   {R : Unit × St}  : ∀ (n_ : Nat) (v1 : Int32)  (s : St), F_X1_fixPrices_2 (zg Z)  n_ v1 s = some R → AW Z l iX1_fixPrices (Pq (rU R)) 0 0 2 [(0, .ref (za Z 4 0)), (1, .int v1)] [] s := by
  intro n_
  induction n_ with
  | zero =>
    intro v1 s hF
    exact absurd hF (by rw [F_X1_fixPrices_2]; exact fun q => by cases q)
  | succ n_ w2_ =>
    intro v1 s hF
    rw [F_X1_fixPrices_2] at hF
    refine a_iload_n dX1_fixPrices_2 1 rfl rfl ?_
    refine a_iconst (v := (4 : Int32)) dX1_fixPrices_3 (by decide) ?_
    refine a_icmp_ge 24 dX1_fixPrices_4 (by decide) (fun q1 => ?_) (fun q1 => ?_)
    · replace hF := (if_pos q1).symm.trans hF
      replace hF := Option.some.inj hF
      subst hF
      exact a_vret rfl (Nat.zero_le _) (Nat.zero_le _) dX1_fixPrices_24 ⟨rfl, rfl⟩
    · replace hF := (if_neg q1).symm.trans hF
      refine a_aload_n dX1_fixPrices_7 0 rfl rfl ?_
      refine a_getR hZ.1 (hZ.2 4 0 (by decide) Nat.one_pos) fl_X1_21 rfl 0 rfl dX1_fixPrices_8 ?_
      refine a_iload_n dX1_fixPrices_11 1 rfl rfl ?_
      refine a_aload_n dX1_fixPrices_12 0 rfl rfl ?_
      refine a_iload_n dX1_fixPrices_13 1 rfl rfl ?_
      obtain ⟨r14, s14, e14, hF⟩ := bd_some hF
      refine a_invV hZ.1 (As := [.int v1]) (rest := [.int v1, .ref (za Z 8 0)]) (hZ.2 4 0 (by decide) Nat.one_pos) lk_X1_99 ⟨⟨by decide, by decide⟩, by decide, by decide⟩ rfl (Nat.le_of_ble_eq_true rfl) dX1_fixPrices_14 (m_X1_priceNow hZ  e14) ?_
      show AW Z l iX1_fixPrices (Pq (rU R)) 0 0 17 [(0, .ref (za Z 4 0)), (1, .int v1)] [.int r14, .int v1, .ref (za Z 8 0)] s14
      obtain ⟨p2, hF⟩ := gd_some hF
      refine a_iast hZ.1 (hZ.2 8 0 (by decide) Nat.one_pos) rfl rfl (inb_vp p2) dX1_fixPrices_17 ?_
      refine a_iinc [(1, .int (v1 + 1)), (0, .ref (za Z 4 0))] dX1_fixPrices_18 1 rfl rfl (by decide) rfl ?_
      refine a_goto 2 dX1_fixPrices_21 (by decide) ?_
      refine a_loc [(0, .ref (za Z 4 0)), (1, .int (v1 + 1))] [1, 0] rfl ?_
      exact w2_ (v1 + 1)  _ hF
set_option maxRecDepth 100000 in
set_option maxHeartbeats 4000000 in
theorem w_X1_fixPrices {Z : ZE} {l : Launch} (hZ : OkX Z)   {R : Unit × St}    (s : St) (hF : F_X1_fixPrices (zg Z)   s = some R) : AW Z l iX1_fixPrices (Pq (rU R)) 0 0 0 [(0, .ref (za Z 4 0))] [] s := by
  unfold F_X1_fixPrices at hF
  refine a_iconst (v := (0 : Int32)) dX1_fixPrices_0 (by decide) ?_
  refine a_istore_n [(1, .int (0 : Int32)), (0, .ref (za Z 4 0))] dX1_fixPrices_1 rfl (by decide) rfl ?_
  refine a_loc [(0, .ref (za Z 4 0)), (1, .int (0 : Int32))] [1, 0] rfl ?_
  exact w_X1_fixPrices_2 (l := l) hZ   fu (0 : Int32)  _ hF
theorem m_X1_fixPrices {Z : ZE} {l : Launch} (hZ : OkX Z)   {s : St} {R : Unit × St} (hF : F_X1_fixPrices (zg Z)  s = some R) : Sp Z l yX1_fixPrices iX1_fixPrices [.ref (za Z 4 0)] s (rU R) :=
  Sp.of (by decide) rfl (Nat.le_of_ble_eq_true rfl) (w_X1_fixPrices hZ  s hF)
-- X1_landShips
set_option maxRecDepth 100000 in
set_option maxHeartbeats 4000000 in
theorem w_X1_landShips_53 {Z : ZE} {l : Launch} (hZ : OkX Z)   {R : Unit × St} (h2_ : Int32 → St → Option (Unit × St)) (w2_ : ∀ (v1 : Int32)  (s : St), h2_ v1 s = some R → AW Z l iX1_landShips (Pq (rU R)) 0 0 2 [(0, .ref (za Z 4 0)), (1, .int v1)] [] s) (v1 : Int32)  (s : St) (hF : F_X1_landShips_53 (zg Z)  h2_ v1 s = some R) : AW Z l iX1_landShips (Pq (rU R)) 0 0 53 [(0, .ref (za Z 4 0)), (1, .int v1)] [] s := by
  unfold F_X1_landShips_53 at hF
  refine a_iinc [(1, .int (v1 + 1)), (0, .ref (za Z 4 0))] dX1_landShips_53 1 rfl rfl (by decide) rfl ?_
  refine a_goto 2 dX1_landShips_56 (by decide) ?_
  refine a_loc [(0, .ref (za Z 4 0)), (1, .int (v1 + 1))] [1, 0] rfl ?_
  exact w2_ (v1 + 1)  _ hF
set_option maxRecDepth 100000 in
set_option maxHeartbeats 4000000 in
theorem w_X1_landShips_2 {Z : ZE} {l : Launch} (hZ : OkX Z)   {R : Unit × St}  : ∀ (n_ : Nat) (v1 : Int32)  (s : St), F_X1_landShips_2 (zg Z)  n_ v1 s = some R → AW Z l iX1_landShips (Pq (rU R)) 0 0 2 [(0, .ref (za Z 4 0)), (1, .int v1)] [] s := by
  intro n_
  induction n_ with
  | zero =>
    intro v1 s hF
    exact absurd hF (by rw [F_X1_landShips_2]; exact fun q => by cases q)
  | succ n_ w2_ =>
    intro v1 s hF
    rw [F_X1_landShips_2] at hF
    refine a_iload_n dX1_landShips_2 1 rfl rfl ?_
    refine a_aload_n dX1_landShips_3 0 rfl rfl ?_
    refine a_getI hZ.1 (s 4 0 10) (hZ.2 4 0 (by decide) Nat.one_pos) fl_X1_49 rfl rfl dX1_landShips_4 ?_
    refine a_icmp_ge 59 dX1_landShips_7 (by decide) (fun q1 => ?_) (fun q1 => ?_)
    · replace hF := (if_pos q1).symm.trans hF
      replace hF := Option.some.inj hF
      subst hF
      exact a_vret rfl (Nat.zero_le _) (Nat.zero_le _) dX1_landShips_59 ⟨rfl, rfl⟩
    · replace hF := (if_neg q1).symm.trans hF
      refine a_aload_n dX1_landShips_10 0 rfl rfl ?_
      refine a_getR hZ.1 (hZ.2 4 0 (by decide) Nat.one_pos) fl_X1_28 rfl 0 rfl dX1_landShips_11 ?_
      refine a_iload_n dX1_landShips_14 1 rfl rfl ?_
      obtain ⟨p2, hF⟩ := gd_some hF
      refine a_iald hZ.1 (s 9 0 v1.toNatClampNeg) (hZ.2 9 0 (by decide) Nat.one_pos) rfl rfl (inb_vp p2) rfl dX1_landShips_15 ?_
      refine a_aload_n dX1_landShips_16 0 rfl rfl ?_
      refine a_getI hZ.1 (s 4 0 13) (hZ.2 4 0 (by decide) Nat.one_pos) fl_X1_96 rfl rfl dX1_landShips_17 ?_
      refine a_icmp_ne 53 dX1_landShips_20 (by decide) (fun q3 => ?_) (fun q3 => ?_)
      · replace hF := (if_neg q3).symm.trans hF
        exact w_X1_landShips_53 (l := l) hZ  (F_X1_landShips_2 (zg Z)  n_) w2_ v1  _ hF
      · replace hF := (if_pos q3).symm.trans hF
        refine a_aload_n dX1_landShips_23 0 rfl rfl ?_
        refine a_getR hZ.1 (hZ.2 4 0 (by decide) Nat.one_pos) fl_X1_37 rfl 0 rfl dX1_landShips_24 ?_
        refine a_iload_n dX1_landShips_27 1 rfl rfl ?_
        obtain ⟨p4, hF⟩ := gd_some hF
        refine a_iald hZ.1 (s 12 0 v1.toNatClampNeg) (hZ.2 12 0 (by decide) Nat.one_pos) rfl rfl (inb_vp p4) rfl dX1_landShips_28 ?_
        refine a_iconst (v := (1 : Int32)) dX1_landShips_29 (by decide) ?_
        refine a_icmp_ne 53 dX1_landShips_30 (by decide) (fun q5 => ?_) (fun q5 => ?_)
        · replace hF := (if_neg q5).symm.trans hF
          exact w_X1_landShips_53 (l := l) hZ  (F_X1_landShips_2 (zg Z)  n_) w2_ v1  _ hF
        · replace hF := (if_pos q5).symm.trans hF
          refine a_aload_n dX1_landShips_33 0 rfl rfl ?_
          refine a_getR hZ.1 (hZ.2 4 0 (by decide) Nat.one_pos) fl_X1_18 rfl 0 rfl dX1_landShips_34 ?_
          refine a_aload_n dX1_landShips_37 0 rfl rfl ?_
          refine a_getR hZ.1 (hZ.2 4 0 (by decide) Nat.one_pos) fl_X1_31 rfl 0 rfl dX1_landShips_38 ?_
          refine a_iload_n dX1_landShips_41 1 rfl rfl ?_
          obtain ⟨p6, hF⟩ := gd_some hF
          refine a_iald hZ.1 (s 10 0 v1.toNatClampNeg) (hZ.2 10 0 (by decide) Nat.one_pos) rfl rfl (inb_vp p6) rfl dX1_landShips_42 ?_
          refine a_dup2 dX1_landShips_43 rfl rfl ?_
          obtain ⟨p7, hF⟩ := gd_some hF
          refine a_iald hZ.1 (s 7 0 (s 10 0 v1.toNatClampNeg).toNatClampNeg) (hZ.2 7 0 (by decide) Nat.one_pos) rfl rfl (inb_vp p7) rfl dX1_landShips_44 ?_
          refine a_aload_n dX1_landShips_45 0 rfl rfl ?_
          refine a_getR hZ.1 (hZ.2 4 0 (by decide) Nat.one_pos) fl_X1_34 rfl 0 rfl dX1_landShips_46 ?_
          refine a_iload_n dX1_landShips_49 1 rfl rfl ?_
          obtain ⟨p8, hF⟩ := gd_some hF
          refine a_iald hZ.1 (s 11 0 v1.toNatClampNeg) (hZ.2 11 0 (by decide) Nat.one_pos) rfl rfl (inb_vp p8) rfl dX1_landShips_50 ?_
          refine a_iadd dX1_landShips_51 ?_
          obtain ⟨p9, hF⟩ := gd_some hF
          refine a_iast hZ.1 (hZ.2 7 0 (by decide) Nat.one_pos) rfl rfl (inb_vp p9) dX1_landShips_52 ?_
          exact w_X1_landShips_53 (l := l) hZ  (F_X1_landShips_2 (zg Z)  n_) w2_ v1  _ hF
set_option maxRecDepth 100000 in
set_option maxHeartbeats 4000000 in
theorem w_X1_landShips {Z : ZE} {l : Launch} (hZ : OkX Z)   {R : Unit × St}    (s : St) (hF : F_X1_landShips (zg Z)   s = some R) : AW Z l iX1_landShips (Pq (rU R)) 0 0 0 [(0, .ref (za Z 4 0))] [] s := by
  unfold F_X1_landShips at hF
  refine a_iconst (v := (0 : Int32)) dX1_landShips_0 (by decide) ?_
  refine a_istore_n [(1, .int (0 : Int32)), (0, .ref (za Z 4 0))] dX1_landShips_1 rfl (by decide) rfl ?_
  refine a_loc [(0, .ref (za Z 4 0)), (1, .int (0 : Int32))] [1, 0] rfl ?_
  exact w_X1_landShips_2 (l := l) hZ   fu (0 : Int32)  _ hF
theorem m_X1_landShips {Z : ZE} {l : Launch} (hZ : OkX Z)   {s : St} {R : Unit × St} (hF : F_X1_landShips (zg Z)  s = some R) : Sp Z l yX1_landShips iX1_landShips [.ref (za Z 4 0)] s (rU R) :=
  Sp.of (by decide) rfl (Nat.le_of_ble_eq_true rfl) (w_X1_landShips hZ  s hF)
-- X1_cheapestFor
set_option maxRecDepth 100000 in
set_option maxHeartbeats 4000000 in
theorem w_X1_cheapestFor_73 {Z : ZE} {l : Launch} (hZ : OkX Z) {k1 : Nat} (h1 : k1 < shN (zg Z) 14) {R : Int32 × St} (h5_ : Int32 → Int32 → St → Option (Int32 × St)) (w5_ : ∀ (v2 : Int32) (v3 : Int32)  (s : St), h5_ v2 v3 s = some R → AW Z l iX1_cheapestFor (Pq (rI R)) 0 0 5 [(0, .ref (za Z 4 0)), (1, .ref (za Z 14 k1)), (2, .int v2), (3, .int v3)] [] s) (v2 : Int32) (v3 : Int32)  (s : St) (hF : F_X1_cheapestFor_73 (zg Z) k1 h5_ v2 v3 s = some R) : AW Z l iX1_cheapestFor (Pq (rI R)) 0 0 73 [(0, .ref (za Z 4 0)), (1, .ref (za Z 14 k1)), (2, .int v2), (3, .int v3)] [] s := by
  unfold F_X1_cheapestFor_73 at hF
  refine a_iinc [(3, .int (v3 + 1)), (0, .ref (za Z 4 0)), (1, .ref (za Z 14 k1)), (2, .int v2)] dX1_cheapestFor_73 3 rfl rfl (by decide) rfl ?_
  refine a_goto 5 dX1_cheapestFor_76 (by decide) ?_
  refine a_loc [(0, .ref (za Z 4 0)), (1, .ref (za Z 14 k1)), (2, .int v2), (3, .int (v3 + 1))] [1, 2, 3, 0] rfl ?_
  exact w5_ v2 (v3 + 1)  _ hF
set_option maxRecDepth 100000 in
set_option maxHeartbeats 4000000 in
theorem w_X1_cheapestFor_71 {Z : ZE} {l : Launch} (hZ : OkX Z) {k1 : Nat} (h1 : k1 < shN (zg Z) 14) {R : Int32 × St} (h5_ : Int32 → Int32 → St → Option (Int32 × St)) (w5_ : ∀ (v2 : Int32) (v3 : Int32)  (s : St), h5_ v2 v3 s = some R → AW Z l iX1_cheapestFor (Pq (rI R)) 0 0 5 [(0, .ref (za Z 4 0)), (1, .ref (za Z 14 k1)), (2, .int v2), (3, .int v3)] [] s) (v3 : Int32)  (s : St) (hF : F_X1_cheapestFor_71 (zg Z) k1 h5_ v3 s = some R) : AW Z l iX1_cheapestFor (Pq (rI R)) 0 0 71 [(0, .ref (za Z 4 0)), (1, .ref (za Z 14 k1)), (3, .int v3)] [] s := by
  unfold F_X1_cheapestFor_71 at hF
  refine a_iload_n dX1_cheapestFor_71 2 rfl rfl ?_
  refine a_istore_n [(2, .int v3), (0, .ref (za Z 4 0)), (1, .ref (za Z 14 k1)), (3, .int v3)] dX1_cheapestFor_72 rfl (by decide) rfl ?_
  refine a_loc [(0, .ref (za Z 4 0)), (1, .ref (za Z 14 k1)), (2, .int v3), (3, .int v3)] [1, 2, 0, 3] rfl ?_
  exact w_X1_cheapestFor_73 (l := l) hZ h1 h5_ w5_ v3 v3  _ hF
set_option maxRecDepth 100000 in
set_option maxHeartbeats 4000000 in
theorem w_X1_cheapestFor_43 {Z : ZE} {l : Launch} (hZ : OkX Z) {k1 : Nat} (h1 : k1 < shN (zg Z) 14) {R : Int32 × St} (h5_ : Int32 → Int32 → St → Option (Int32 × St)) (w5_ : ∀ (v2 : Int32) (v3 : Int32)  (s : St), h5_ v2 v3 s = some R → AW Z l iX1_cheapestFor (Pq (rI R)) 0 0 5 [(0, .ref (za Z 4 0)), (1, .ref (za Z 14 k1)), (2, .int v2), (3, .int v3)] [] s) (v2 : Int32) (v3 : Int32) (x0 : Int32)  (s : St) (hF : F_X1_cheapestFor_43 (zg Z) k1 h5_ v2 v3 x0 s = some R) : AW Z l iX1_cheapestFor (Pq (rI R)) 0 0 43 [(0, .ref (za Z 4 0)), (1, .ref (za Z 14 k1)), (2, .int v2), (3, .int v3)] [.int x0] s := by
  unfold F_X1_cheapestFor_43 at hF
  refine a_istore [(4, .int x0), (0, .ref (za Z 4 0)), (1, .ref (za Z 14 k1)), (2, .int v2), (3, .int v3)] dX1_cheapestFor_43 (by decide) rfl ?_
  refine a_iload dX1_cheapestFor_45 0 rfl ?_
  refine a_if_eq 73 dX1_cheapestFor_47 (by decide) (fun q1 => ?_) (fun q1 => ?_)
  · replace hF := (if_pos q1).symm.trans hF
    refine a_loc [(0, .ref (za Z 4 0)), (1, .ref (za Z 14 k1)), (2, .int v2), (3, .int v3)] [1, 2, 3, 4] rfl ?_
    exact w_X1_cheapestFor_73 (l := l) hZ h1 h5_ w5_ v2 v3  _ hF
  · replace hF := (if_neg q1).symm.trans hF
    refine a_iload_n dX1_cheapestFor_50 3 rfl rfl ?_
    refine a_ldc (v := (-1000000)) kw_511 dX1_cheapestFor_51 ?_
    refine a_icmp_eq 71 dX1_cheapestFor_53 (by decide) (fun q2 => ?_) (fun q2 => ?_)
    · replace hF := (if_pos q2).symm.trans hF
      refine a_loc [(0, .ref (za Z 4 0)), (1, .ref (za Z 14 k1)), (3, .int v3)] [1, 2, 4] rfl ?_
      exact w_X1_cheapestFor_71 (l := l) hZ h1 h5_ w5_ v3  _ hF
    · replace hF := (if_neg q2).symm.trans hF
      refine a_aload_n dX1_cheapestFor_56 1 rfl rfl ?_
      refine a_getR hZ.1 (hZ.2 4 0 (by decide) Nat.one_pos) fl_X1_21 rfl 0 rfl dX1_cheapestFor_57 ?_
      refine a_iload_n dX1_cheapestFor_60 4 rfl rfl ?_
      obtain ⟨p3, hF⟩ := gd_some hF
      refine a_iald hZ.1 (s 8 0 v3.toNatClampNeg) (hZ.2 8 0 (by decide) Nat.one_pos) rfl rfl (inb_vp p3) rfl dX1_cheapestFor_61 ?_
      refine a_aload_n dX1_cheapestFor_62 1 rfl rfl ?_
      refine a_getR hZ.1 (hZ.2 4 0 (by decide) Nat.one_pos) fl_X1_21 rfl 0 rfl dX1_cheapestFor_63 ?_
      refine a_iload_n dX1_cheapestFor_66 3 rfl rfl ?_
      obtain ⟨p4, hF⟩ := gd_some hF
      refine a_iald hZ.1 (s 8 0 v2.toNatClampNeg) (hZ.2 8 0 (by decide) Nat.one_pos) rfl rfl (inb_vp p4) rfl dX1_cheapestFor_67 ?_
      refine a_icmp_ge 73 dX1_cheapestFor_68 (by decide) (fun q5 => ?_) (fun q5 => ?_)
      · replace hF := (if_pos q5).symm.trans hF
        refine a_loc [(0, .ref (za Z 4 0)), (1, .ref (za Z 14 k1)), (2, .int v2), (3, .int v3)] [1, 2, 3, 4] rfl ?_
        exact w_X1_cheapestFor_73 (l := l) hZ h1 h5_ w5_ v2 v3  _ hF
      · replace hF := (if_neg q5).symm.trans hF
        refine a_loc [(0, .ref (za Z 4 0)), (1, .ref (za Z 14 k1)), (3, .int v3)] [1, 2, 4] rfl ?_
        exact w_X1_cheapestFor_71 (l := l) hZ h1 h5_ w5_ v3  _ hF
set_option maxRecDepth 100000 in
set_option maxHeartbeats 4000000 in
theorem w_X1_cheapestFor_42 {Z : ZE} {l : Launch} (hZ : OkX Z) {k1 : Nat} (h1 : k1 < shN (zg Z) 14) {R : Int32 × St} (h5_ : Int32 → Int32 → St → Option (Int32 × St)) (w5_ : ∀ (v2 : Int32) (v3 : Int32)  (s : St), h5_ v2 v3 s = some R → AW Z l iX1_cheapestFor (Pq (rI R)) 0 0 5 [(0, .ref (za Z 4 0)), (1, .ref (za Z 14 k1)), (2, .int v2), (3, .int v3)] [] s) (v2 : Int32) (v3 : Int32)  (s : St) (hF : F_X1_cheapestFor_42 (zg Z) k1 h5_ v2 v3 s = some R) : AW Z l iX1_cheapestFor (Pq (rI R)) 0 0 42 [(0, .ref (za Z 4 0)), (1, .ref (za Z 14 k1)), (2, .int v2), (3, .int v3)] [] s := by
  unfold F_X1_cheapestFor_42 at hF
  refine a_iconst (v := (0 : Int32)) dX1_cheapestFor_42 (by decide) ?_
  exact w_X1_cheapestFor_43 (l := l) hZ h1 h5_ w5_ v2 v3 (0 : Int32)  _ hF
set_option maxRecDepth 100000 in
set_option maxHeartbeats 4000000 in
theorem w_X1_cheapestFor_5 {Z : ZE} {l : Launch} (hZ : OkX Z) {k1 : Nat} (h1 : k1 < shN (zg Z) 14) {R : Int32 × St}  : ∀ (n_ : Nat) (v2 : Int32) (v3 : Int32)  (s : St), F_X1_cheapestFor_5 (zg Z) k1 n_ v2 v3 s = some R → AW Z l iX1_cheapestFor (Pq (rI R)) 0 0 5 [(0, .ref (za Z 4 0)), (1, .ref (za Z 14 k1)), (2, .int v2), (3, .int v3)] [] s := by
  intro n_
  induction n_ with
  | zero =>
    intro v2 v3 s hF
    exact absurd hF (by rw [F_X1_cheapestFor_5]; exact fun q => by cases q)
  | succ n_ w5_ =>
    intro v2 v3 s hF
    rw [F_X1_cheapestFor_5] at hF
    refine a_iload_n dX1_cheapestFor_5 3 rfl rfl ?_
    refine a_iconst (v := (4 : Int32)) dX1_cheapestFor_6 (by decide) ?_
    refine a_icmp_ge 79 dX1_cheapestFor_7 (by decide) (fun q1 => ?_) (fun q1 => ?_)
    · replace hF := (if_pos q1).symm.trans hF
      refine a_iload_n dX1_cheapestFor_79 2 rfl rfl ?_
      replace hF := Option.some.inj hF
      subst hF
      exact a_iret rfl (Nat.zero_le _) (Nat.zero_le _) dX1_cheapestFor_80 ⟨rfl, rfl⟩
    · replace hF := (if_neg q1).symm.trans hF
      refine a_aload_n dX1_cheapestFor_10 1 rfl rfl ?_
      refine a_iload_n dX1_cheapestFor_11 3 rfl rfl ?_
      obtain ⟨r12, s12, e12, hF⟩ := bd_some hF
      refine a_invV hZ.1 (As := [.int v3]) (rest := []) (hZ.2 14 k1 (by decide) h1) lk_X1_81 ⟨⟨by decide, by decide⟩, by decide, by decide⟩ rfl (Nat.le_of_ble_eq_true rfl) dX1_cheapestFor_12 (m_X4_canUse hZ h1 e12) ?_
      show AW Z l iX1_cheapestFor (Pq (rI R)) 0 0 15 [(0, .ref (za Z 4 0)), (1, .ref (za Z 14 k1)), (2, .int v2), (3, .int v3)] [.int r12] s12
      refine a_if_eq 42 dX1_cheapestFor_15 (by decide) (fun q2 => ?_) (fun q2 => ?_)
      · replace hF := (if_pos q2).symm.trans hF
        exact w_X1_cheapestFor_42 (l := l) hZ h1 (F_X1_cheapestFor_5 (zg Z) k1 n_) w5_ v2 v3  _ hF
      · replace hF := (if_neg q2).symm.trans hF
        refine a_aload_n dX1_cheapestFor_18 1 rfl rfl ?_
        refine a_getR hZ.1 (hZ.2 14 k1 (by decide) h1) fl_X1_74 rfl k1 rfl dX1_cheapestFor_19 ?_
        refine a_iload_n dX1_cheapestFor_22 3 rfl rfl ?_
        obtain ⟨p3, hF⟩ := gd_some hF
        refine a_iald hZ.1 (s12 15 k1 v3.toNatClampNeg) (hZ.2 15 k1 (by decide) h1) rfl rfl (inb_vp p3) rfl dX1_cheapestFor_23 ?_
        refine a_aload_n dX1_cheapestFor_24 0 rfl rfl ?_
        refine a_getR hZ.1 (hZ.2 4 0 (by decide) Nat.one_pos) fl_X1_18 rfl 0 rfl dX1_cheapestFor_25 ?_
        refine a_iload_n dX1_cheapestFor_28 3 rfl rfl ?_
        obtain ⟨p4, hF⟩ := gd_some hF
        refine a_iald hZ.1 (s12 7 0 v3.toNatClampNeg) (hZ.2 7 0 (by decide) Nat.one_pos) rfl rfl (inb_vp p4) rfl dX1_cheapestFor_29 ?_
        refine a_iadd dX1_cheapestFor_30 ?_
        refine a_aload_n dX1_cheapestFor_31 1 rfl rfl ?_
        refine a_getI hZ.1 (s12 14 k1 0) (hZ.2 14 k1 (by decide) h1) fl_X1_84 rfl rfl dX1_cheapestFor_32 ?_
        refine a_icmp_lt 42 dX1_cheapestFor_35 (by decide) (fun q5 => ?_) (fun q5 => ?_)
        · replace hF := (if_pos q5).symm.trans hF
          exact w_X1_cheapestFor_42 (l := l) hZ h1 (F_X1_cheapestFor_5 (zg Z) k1 n_) w5_ v2 v3  _ hF
        · replace hF := (if_neg q5).symm.trans hF
          refine a_iconst (v := (1 : Int32)) dX1_cheapestFor_38 (by decide) ?_
          refine a_goto 43 dX1_cheapestFor_39 (by decide) ?_
          exact w_X1_cheapestFor_43 (l := l) hZ h1 (F_X1_cheapestFor_5 (zg Z) k1 n_) w5_ v2 v3 (1 : Int32)  _ hF
set_option maxRecDepth 100000 in
set_option maxHeartbeats 4000000 in
theorem w_X1_cheapestFor {Z : ZE} {l : Launch} (hZ : OkX Z) {k1 : Nat} (h1 : k1 < shN (zg Z) 14) {R : Int32 × St}    (s : St) (hF : F_X1_cheapestFor (zg Z) k1  s = some R) : AW Z l iX1_cheapestFor (Pq (rI R)) 0 0 0 [(0, .ref (za Z 4 0)), (1, .ref (za Z 14 k1))] [] s := by
  unfold F_X1_cheapestFor at hF
  refine a_ldc (v := (-1000000)) kw_511 dX1_cheapestFor_0 ?_
  refine a_istore_n [(2, .int (-1000000)), (0, .ref (za Z 4 0)), (1, .ref (za Z 14 k1))] dX1_cheapestFor_2 rfl (by decide) rfl ?_
  refine a_iconst (v := (0 : Int32)) dX1_cheapestFor_3 (by decide) ?_
  refine a_istore_n [(3, .int (0 : Int32)), (2, .int (-1000000)), (0, .ref (za Z 4 0)), (1, .ref (za Z 14 k1))] dX1_cheapestFor_4 rfl (by decide) rfl ?_
  refine a_loc [(0, .ref (za Z 4 0)), (1, .ref (za Z 14 k1)), (2, .int (-1000000)), (3, .int (0 : Int32))] [2, 3, 1, 0] rfl ?_
  exact w_X1_cheapestFor_5 (l := l) hZ h1  fu (-1000000) (0 : Int32)  _ hF
theorem m_X1_cheapestFor {Z : ZE} {l : Launch} (hZ : OkX Z) {k1 : Nat} (h1 : k1 < shN (zg Z) 14) {s : St} {R : Int32 × St} (hF : F_X1_cheapestFor (zg Z) k1 s = some R) : Sp Z l yX1_cheapestFor iX1_cheapestFor [.ref (za Z 4 0), .ref (za Z 14 k1)] s (rI R) :=
  Sp.of (by decide) rfl (Nat.le_of_ble_eq_true rfl) (w_X1_cheapestFor hZ h1 s hF)
-- X4_gain
set_option maxRecDepth 100000 in
set_option maxHeartbeats 4000000 in
theorem w_X4_gain {Z : ZE} {l : Launch} (hZ : OkX Z) {k0 : Nat} {a1 : Int64} (h0 : k0 < shN (zg Z) 14) {R : Unit × St}    (s : St) (hF : F_X4_gain (zg Z) k0 a1  s = some R) : AW Z l iX4_gain (Pq (rU R)) 0 0 0 [(0, .ref (za Z 14 k0)), (1, .long a1)] [] s := by
  unfold F_X4_gain at hF
  refine a_aload_n dX4_gain_0 0 rfl rfl ?_
  refine a_ldc2 (v := (2000000000 : Int64)) kw_520 dX4_gain_1 ?_
  refine a_aload_n dX4_gain_4 0 rfl rfl ?_
  refine a_getI hZ.1 (s 14 k0 6) (hZ.2 14 k0 (by decide) h0) fl_X4_40 rfl rfl dX4_gain_5 ?_
  refine a_i2l dX4_gain_8 ?_
  refine a_lload_n dX4_gain_9 1 rfl rfl ?_
  refine a_ladd dX4_gain_10 ?_
  refine a_mminl kw_521 kw_522 kw_14 kw_523 ⟨by decide, Nat.le_of_ble_eq_true rfl, Nat.zero_le _, Nat.zero_le _⟩ dX4_gain_11 ?_
  refine a_l2i dX4_gain_14 ?_
  refine a_put hZ.1 (hZ.2 14 k0 (by decide) h0) fl_X4_40 rfl rfl rfl dX4_gain_15 ?_
  replace hF := Option.some.inj hF
  subst hF
  exact a_vret rfl (Nat.zero_le _) (Nat.zero_le _) dX4_gain_18 ⟨rfl, rfl⟩
theorem m_X4_gain {Z : ZE} {l : Launch} (hZ : OkX Z) {k0 : Nat} {a1 : Int64} (h0 : k0 < shN (zg Z) 14) {s : St} {R : Unit × St} (hF : F_X4_gain (zg Z) k0 a1 s = some R) : Sp Z l yX4_gain iX4_gain [.ref (za Z 14 k0), .long a1] s (rU R) :=
  Sp.of (by decide) rfl (Nat.le_of_ble_eq_true rfl) (w_X4_gain hZ h0 s hF)
-- X1_runMill
set_option maxRecDepth 100000 in
set_option maxHeartbeats 4000000 in
theorem w_X1_runMill {Z : ZE} {l : Launch} (hZ : OkX Z) {k1 : Nat} {a2 : Int32} (h1 : k1 < shN (zg Z) 14) {R : Unit × St}    (s : St) (hF : F_X1_runMill (zg Z) k1 a2  s = some R) : AW Z l iX1_runMill (Pq (rU R)) 0 0 0 [(0, .ref (za Z 4 0)), (1, .ref (za Z 14 k1)), (2, .int a2)] [] s := by
  unfold F_X1_runMill at hF
  refine a_aload_n dX1_runMill_0 1 rfl rfl ?_
  refine a_getI hZ.1 (s 14 k1 0) (hZ.2 14 k1 (by decide) h1) fl_X1_84 rfl rfl dX1_runMill_1 ?_
  refine a_aload_n dX1_runMill_4 1 rfl rfl ?_
  refine a_getR hZ.1 (hZ.2 14 k1 (by decide) h1) fl_X1_74 rfl k1 rfl dX1_runMill_5 ?_
  refine a_iload_n dX1_runMill_8 2 rfl rfl ?_
  obtain ⟨p1, hF⟩ := gd_some hF
  refine a_iald hZ.1 (s 15 k1 a2.toNatClampNeg) (hZ.2 15 k1 (by decide) h1) rfl rfl (inb_vp p1) rfl dX1_runMill_9 ?_
  refine a_mmin kw_502 kw_473 kw_14 kw_474 ⟨by decide, Nat.le_of_ble_eq_true rfl, Nat.zero_le _, Nat.zero_le _⟩ dX1_runMill_10 ?_
  refine a_istore_n [(3, .int (if (s 15 k1 a2.toNatClampNeg) < (s 14 k1 0) then (s 15 k1 a2.toNatClampNeg) else (s 14 k1 0))), (0, .ref (za Z 4 0)), (1, .ref (za Z 14 k1)), (2, .int a2)] dX1_runMill_13 rfl (by decide) rfl ?_
  refine a_aload_n dX1_runMill_14 2 rfl rfl ?_
  refine a_getI hZ.1 (s 14 k1 0) (hZ.2 14 k1 (by decide) h1) fl_X1_84 rfl rfl dX1_runMill_15 ?_
  refine a_iload_n dX1_runMill_18 0 rfl rfl ?_
  refine a_isub dX1_runMill_19 ?_
  refine a_istore [(4, .int ((s 14 k1 0) - (if (s 15 k1 a2.toNatClampNeg) < (s 14 k1 0) then (s 15 k1 a2.toNatClampNeg) else (s 14 k1 0)))), (3, .int (if (s 15 k1 a2.toNatClampNeg) < (s 14 k1 0) then (s 15 k1 a2.toNatClampNeg) else (s 14 k1 0))), (0, .ref (za Z 4 0)), (1, .ref (za Z 14 k1)), (2, .int a2)] dX1_runMill_20 (by decide) rfl ?_
  refine a_aload_n dX1_runMill_22 3 rfl rfl ?_
  refine a_getR hZ.1 (hZ.2 14 k1 (by decide) h1) fl_X1_74 rfl k1 rfl dX1_runMill_23 ?_
  refine a_iload_n dX1_runMill_26 4 rfl rfl ?_
  refine a_dup2 dX1_runMill_27 rfl rfl ?_
  obtain ⟨p2, hF⟩ := gd_some hF
  refine a_iald hZ.1 (s 15 k1 a2.toNatClampNeg) (hZ.2 15 k1 (by decide) h1) rfl rfl (inb_vp p2) rfl dX1_runMill_28 ?_
  refine a_iload_n dX1_runMill_29 1 rfl rfl ?_
  refine a_isub dX1_runMill_30 ?_
  obtain ⟨p3, hF⟩ := gd_some hF
  refine a_iast hZ.1 (hZ.2 15 k1 (by decide) h1) rfl rfl (inb_vp p3) dX1_runMill_31 ?_
  refine a_aload_n dX1_runMill_32 2 rfl rfl ?_
  refine a_getR hZ.1 (hZ.2 4 0 (by decide) Nat.one_pos) fl_X1_18 rfl 0 rfl dX1_runMill_33 ?_
  refine a_iload_n dX1_runMill_36 4 rfl rfl ?_
  refine a_dup2 dX1_runMill_37 rfl rfl ?_
  obtain ⟨p4, hF⟩ := gd_some hF
  refine a_iald hZ.1 (s 7 0 a2.toNatClampNeg) (hZ.2 7 0 (by decide) Nat.one_pos) rfl rfl (inb_vp p4) rfl dX1_runMill_38 ?_
  refine a_iload dX1_runMill_39 0 rfl ?_
  refine a_isub dX1_runMill_41 ?_
  obtain ⟨p5, hF⟩ := gd_some hF
  refine a_iast hZ.1 (hZ.2 7 0 (by decide) Nat.one_pos) rfl rfl (inb_vp p5) dX1_runMill_42 ?_
  refine a_aload_n dX1_runMill_43 3 rfl rfl ?_
  refine a_iload dX1_runMill_44 0 rfl ?_
  refine a_i2l dX1_runMill_46 ?_
  refine a_lneg dX1_runMill_47 ?_
  refine a_aload_n dX1_runMill_48 2 rfl rfl ?_
  refine a_getR hZ.1 (hZ.2 4 0 (by decide) Nat.one_pos) fl_X1_21 rfl 0 rfl dX1_runMill_49 ?_
  refine a_iload_n dX1_runMill_52 4 rfl rfl ?_
  obtain ⟨p6, hF⟩ := gd_some hF
  refine a_iald hZ.1 (s 8 0 a2.toNatClampNeg) (hZ.2 8 0 (by decide) Nat.one_pos) rfl rfl (inb_vp p6) rfl dX1_runMill_53 ?_
  refine a_i2l dX1_runMill_54 ?_
  refine a_lmul dX1_runMill_55 ?_
  obtain ⟨r56, s56, e56, hF⟩ := bd_some hF
  refine a_invV hZ.1 (As := [.long ((-(((s 14 k1 0) - (if (s 15 k1 a2.toNatClampNeg) < (s 14 k1 0) then (s 15 k1 a2.toNatClampNeg) else (s 14 k1 0))).toInt64)) * (s 8 0 a2.toNatClampNeg).toInt64)]) (rest := []) (hZ.2 14 k1 (by decide) h1) lk_X1_117 ⟨⟨by decide, by decide⟩, by decide, by decide⟩ rfl (Nat.le_of_ble_eq_true rfl) dX1_runMill_56 (m_X4_gain hZ h1 e56) ?_
  show AW Z l iX1_runMill (Pq (rU R)) 0 0 59 [(4, .int ((s 14 k1 0) - (if (s 15 k1 a2.toNatClampNeg) < (s 14 k1 0) then (s 15 k1 a2.toNatClampNeg) else (s 14 k1 0)))), (3, .int (if (s 15 k1 a2.toNatClampNeg) < (s 14 k1 0) then (s 15 k1 a2.toNatClampNeg) else (s 14 k1 0))), (0, .ref (za Z 4 0)), (1, .ref (za Z 14 k1)), (2, .int a2)] [] s56
  refine a_aload_n dX1_runMill_59 3 rfl rfl ?_
  refine a_aload_n dX1_runMill_60 3 rfl rfl ?_
  refine a_getI hZ.1 (s56 14 k1 0) (hZ.2 14 k1 (by decide) h1) fl_X1_84 rfl rfl dX1_runMill_61 ?_
  refine a_i2l dX1_runMill_64 ?_
  refine a_aload_n dX1_runMill_65 2 rfl rfl ?_
  refine a_getI hZ.1 (s56 4 0 4) (hZ.2 4 0 (by decide) Nat.one_pos) fl_X1_24 rfl rfl dX1_runMill_66 ?_
  refine a_i2l dX1_runMill_69 ?_
  refine a_lmul dX1_runMill_70 ?_
  obtain ⟨r71, s71, e71, hF⟩ := bd_some hF
  refine a_invV hZ.1 (As := [.long ((s56 14 k1 0).toInt64 * (s56 4 0 4).toInt64)]) (rest := []) (hZ.2 14 k1 (by decide) h1) lk_X1_117 ⟨⟨by decide, by decide⟩, by decide, by decide⟩ rfl (Nat.le_of_ble_eq_true rfl) dX1_runMill_71 (m_X4_gain hZ h1 e71) ?_
  show AW Z l iX1_runMill (Pq (rU R)) 0 0 74 [(4, .int ((s 14 k1 0) - (if (s 15 k1 a2.toNatClampNeg) < (s 14 k1 0) then (s 15 k1 a2.toNatClampNeg) else (s 14 k1 0)))), (3, .int (if (s 15 k1 a2.toNatClampNeg) < (s 14 k1 0) then (s 15 k1 a2.toNatClampNeg) else (s 14 k1 0))), (0, .ref (za Z 4 0)), (1, .ref (za Z 14 k1)), (2, .int a2)] [] s71
  refine a_aload_n dX1_runMill_74 3 rfl rfl ?_
  refine a_getR hZ.1 (hZ.2 14 k1 (by decide) h1) fl_X1_70 rfl k1 rfl dX1_runMill_75 ?_
  refine a_aload_n dX1_runMill_78 2 rfl rfl ?_
  refine a_getI hZ.1 (s71 4 0 13) (hZ.2 4 0 (by decide) Nat.one_pos) fl_X1_96 rfl rfl dX1_runMill_79 ?_
  refine a_iload_n dX1_runMill_82 4 rfl rfl ?_
  obtain ⟨p7, hF⟩ := gd_some hF
  refine a_iast hZ.1 (hZ.2 16 k1 (by decide) h1) rfl rfl (inb_vp p7) dX1_runMill_83 ?_
  refine a_aload_n dX1_runMill_84 3 rfl rfl ?_
  refine a_dup dX1_runMill_85 rfl ?_
  refine a_getI hZ.1 (s71 14 k1 7) (hZ.2 14 k1 (by decide) h1) fl_X1_121 rfl rfl dX1_runMill_86 ?_
  refine a_iconst (v := (1 : Int32)) dX1_runMill_89 (by decide) ?_
  refine a_iadd dX1_runMill_90 ?_
  refine a_put hZ.1 (hZ.2 14 k1 (by decide) h1) fl_X1_121 rfl rfl rfl dX1_runMill_91 ?_
  replace hF := Option.some.inj hF
  subst hF
  exact a_vret rfl (Nat.zero_le _) (Nat.zero_le _) dX1_runMill_94 ⟨rfl, rfl⟩
theorem m_X1_runMill {Z : ZE} {l : Launch} (hZ : OkX Z) {k1 : Nat} {a2 : Int32} (h1 : k1 < shN (zg Z) 14) {s : St} {R : Unit × St} (hF : F_X1_runMill (zg Z) k1 a2 s = some R) : Sp Z l yX1_runMill iX1_runMill [.ref (za Z 4 0), .ref (za Z 14 k1), .int a2] s (rU R) :=
  Sp.of (by decide) rfl (Nat.le_of_ble_eq_true rfl) (w_X1_runMill hZ h1 s hF)
-- X1_sellOut
set_option maxRecDepth 100000 in
set_option maxHeartbeats 4000000 in
theorem w_X1_sellOut_62 {Z : ZE} {l : Launch} (hZ : OkX Z) {k1 : Nat} (h1 : k1 < shN (zg Z) 14) {R : Unit × St} (h10_ : Int32 → St → Option (Unit × St)) (w10_ : ∀ (v2 : Int32)  (s : St), h10_ v2 s = some R → AW Z l iX1_sellOut (Pq (rU R)) 0 0 10 [(0, .ref (za Z 4 0)), (1, .ref (za Z 14 k1)), (2, .int v2)] [] s) (v2 : Int32)  (s : St) (hF : F_X1_sellOut_62 (zg Z) k1 h10_ v2 s = some R) : AW Z l iX1_sellOut (Pq (rU R)) 0 0 62 [(0, .ref (za Z 4 0)), (1, .ref (za Z 14 k1)), (2, .int v2)] [] s := by
  unfold F_X1_sellOut_62 at hF
  refine a_iinc [(2, .int (v2 + 1)), (0, .ref (za Z 4 0)), (1, .ref (za Z 14 k1))] dX1_sellOut_62 2 rfl rfl (by decide) rfl ?_
  refine a_goto 10 dX1_sellOut_65 (by decide) ?_
  refine a_loc [(0, .ref (za Z 4 0)), (1, .ref (za Z 14 k1)), (2, .int (v2 + 1))] [1, 2, 0] rfl ?_
  exact w10_ (v2 + 1)  _ hF
set_option maxRecDepth 100000 in
set_option maxHeartbeats 4000000 in
theorem w_X1_sellOut_10 {Z : ZE} {l : Launch} (hZ : OkX Z) {k1 : Nat} (h1 : k1 < shN (zg Z) 14) {R : Unit × St}  : ∀ (n_ : Nat) (v2 : Int32)  (s : St), F_X1_sellOut_10 (zg Z) k1 n_ v2 s = some R → AW Z l iX1_sellOut (Pq (rU R)) 0 0 10 [(0, .ref (za Z 4 0)), (1, .ref (za Z 14 k1)), (2, .int v2)] [] s := by
  intro n_
  induction n_ with
  | zero =>
    intro v2 s hF
    exact absurd hF (by rw [F_X1_sellOut_10]; exact fun q => by cases q)
  | succ n_ w10_ =>
    intro v2 s hF
    rw [F_X1_sellOut_10] at hF
    refine a_iload_n dX1_sellOut_10 2 rfl rfl ?_
    refine a_iconst (v := (4 : Int32)) dX1_sellOut_11 (by decide) ?_
    refine a_icmp_ge 68 dX1_sellOut_12 (by decide) (fun q1 => ?_) (fun q1 => ?_)
    · replace hF := (if_pos q1).symm.trans hF
      replace hF := Option.some.inj hF
      subst hF
      exact a_vret rfl (Nat.zero_le _) (Nat.zero_le _) dX1_sellOut_68 ⟨rfl, rfl⟩
    · replace hF := (if_neg q1).symm.trans hF
      refine a_aload_n dX1_sellOut_15 0 rfl rfl ?_
      refine a_getR hZ.1 (hZ.2 4 0 (by decide) Nat.one_pos) fl_X1_21 rfl 0 rfl dX1_sellOut_16 ?_
      refine a_iload_n dX1_sellOut_19 2 rfl rfl ?_
      obtain ⟨p2, hF⟩ := gd_some hF
      refine a_iald hZ.1 (s 8 0 v2.toNatClampNeg) (hZ.2 8 0 (by decide) Nat.one_pos) rfl rfl (inb_vp p2) rfl dX1_sellOut_20 ?_
      refine a_aload_n dX1_sellOut_21 1 rfl rfl ?_
      refine a_getI hZ.1 (s 14 k1 3) (hZ.2 14 k1 (by decide) h1) fl_X1_124 rfl rfl dX1_sellOut_22 ?_
      refine a_icmp_lt 62 dX1_sellOut_25 (by decide) (fun q3 => ?_) (fun q3 => ?_)
      · replace hF := (if_pos q3).symm.trans hF
        exact w_X1_sellOut_62 (l := l) hZ h1 (F_X1_sellOut_10 (zg Z) k1 n_) w10_ v2  _ hF
      · replace hF := (if_neg q3).symm.trans hF
        refine a_aload_n dX1_sellOut_28 1 rfl rfl ?_
        refine a_getR hZ.1 (hZ.2 14 k1 (by decide) h1) fl_X1_74 rfl k1 rfl dX1_sellOut_29 ?_
        refine a_iload_n dX1_sellOut_32 2 rfl rfl ?_
        refine a_iconst (v := (0 : Int32)) dX1_sellOut_33 (by decide) ?_
        obtain ⟨r34, s34, e34, hF⟩ := bd_some hF
        refine a_invN hZ.1 (As := [.ref (za Z 15 k1), .int v2, .int (0 : Int32)]) (rest := []) lk_X1_127 ⟨⟨by decide, by decide⟩, by decide, by decide⟩ rfl (Nat.le_of_ble_eq_true rfl) dX1_sellOut_34 (m_X10_changed hZ (hZ.2 15 k1 (by decide) h1) rfl rfl e34) ?_
        show AW Z l iX1_sellOut (Pq (rU R)) 0 0 37 [(0, .ref (za Z 4 0)), (1, .ref (za Z 14 k1)), (2, .int v2)] [.int r34] s34
        refine a_istore_n [(3, .int r34), (0, .ref (za Z 4 0)), (1, .ref (za Z 14 k1)), (2, .int v2)] dX1_sellOut_37 rfl (by decide) rfl ?_
        refine a_aload_n dX1_sellOut_38 1 rfl rfl ?_
        refine a_getR hZ.1 (hZ.2 4 0 (by decide) Nat.one_pos) fl_X1_18 rfl 0 rfl dX1_sellOut_39 ?_
        refine a_iload_n dX1_sellOut_42 3 rfl rfl ?_
        refine a_dup2 dX1_sellOut_43 rfl rfl ?_
        obtain ⟨p4, hF⟩ := gd_some hF
        refine a_iald hZ.1 (s34 7 0 v2.toNatClampNeg) (hZ.2 7 0 (by decide) Nat.one_pos) rfl rfl (inb_vp p4) rfl dX1_sellOut_44 ?_
        refine a_iload_n dX1_sellOut_45 0 rfl rfl ?_
        refine a_iadd dX1_sellOut_46 ?_
        obtain ⟨p5, hF⟩ := gd_some hF
        refine a_iast hZ.1 (hZ.2 7 0 (by decide) Nat.one_pos) rfl rfl (inb_vp p5) dX1_sellOut_47 ?_
        refine a_aload_n dX1_sellOut_48 2 rfl rfl ?_
        refine a_iload_n dX1_sellOut_49 0 rfl rfl ?_
        refine a_i2l dX1_sellOut_50 ?_
        refine a_aload_n dX1_sellOut_51 1 rfl rfl ?_
        refine a_getR hZ.1 (hZ.2 4 0 (by decide) Nat.one_pos) fl_X1_21 rfl 0 rfl dX1_sellOut_52 ?_
        refine a_iload_n dX1_sellOut_55 3 rfl rfl ?_
        obtain ⟨p6, hF⟩ := gd_some hF
        refine a_iald hZ.1 (s34 8 0 v2.toNatClampNeg) (hZ.2 8 0 (by decide) Nat.one_pos) rfl rfl (inb_vp p6) rfl dX1_sellOut_56 ?_
        refine a_i2l dX1_sellOut_57 ?_
        refine a_lmul dX1_sellOut_58 ?_
        obtain ⟨r59, s59, e59, hF⟩ := bd_some hF
        refine a_invV hZ.1 (As := [.long (r34.toInt64 * (s34 8 0 v2.toNatClampNeg).toInt64)]) (rest := []) (hZ.2 14 k1 (by decide) h1) lk_X1_117 ⟨⟨by decide, by decide⟩, by decide, by decide⟩ rfl (Nat.le_of_ble_eq_true rfl) dX1_sellOut_59 (m_X4_gain hZ h1 e59) ?_
        show AW Z l iX1_sellOut (Pq (rU R)) 0 0 62 [(3, .int r34), (0, .ref (za Z 4 0)), (1, .ref (za Z 14 k1)), (2, .int v2)] [] s59
        refine a_loc [(0, .ref (za Z 4 0)), (1, .ref (za Z 14 k1)), (2, .int v2)] [1, 2, 3] rfl ?_
        exact w_X1_sellOut_62 (l := l) hZ h1 (F_X1_sellOut_10 (zg Z) k1 n_) w10_ v2  _ hF
set_option maxRecDepth 100000 in
set_option maxHeartbeats 4000000 in
theorem w_X1_sellOut {Z : ZE} {l : Launch} (hZ : OkX Z) {k1 : Nat} (h1 : k1 < shN (zg Z) 14) {R : Unit × St}    (s : St) (hF : F_X1_sellOut (zg Z) k1  s = some R) : AW Z l iX1_sellOut (Pq (rU R)) 0 0 0 [(0, .ref (za Z 4 0)), (1, .ref (za Z 14 k1))] [] s := by
  unfold F_X1_sellOut at hF
  refine a_aload_n dX1_sellOut_0 1 rfl rfl ?_
  refine a_getI hZ.1 (s 14 k1 3) (hZ.2 14 k1 (by decide) h1) fl_X1_124 rfl rfl dX1_sellOut_1 ?_
  refine a_if_ne 8 dX1_sellOut_4 (by decide) (fun q1 => ?_) (fun q1 => ?_)
  · replace hF := (if_neg q1).symm.trans hF
    refine a_iconst (v := (0 : Int32)) dX1_sellOut_8 (by decide) ?_
    refine a_istore_n [(2, .int (0 : Int32)), (0, .ref (za Z 4 0)), (1, .ref (za Z 14 k1))] dX1_sellOut_9 rfl (by decide) rfl ?_
    refine a_loc [(0, .ref (za Z 4 0)), (1, .ref (za Z 14 k1)), (2, .int (0 : Int32))] [1, 2, 0] rfl ?_
    exact w_X1_sellOut_10 (l := l) hZ h1  fu (0 : Int32)  _ hF
  · replace hF := (if_pos q1).symm.trans hF
    replace hF := Option.some.inj hF
    subst hF
    exact a_vret rfl (Nat.zero_le _) (Nat.zero_le _) dX1_sellOut_7 ⟨rfl, rfl⟩
theorem m_X1_sellOut {Z : ZE} {l : Launch} (hZ : OkX Z) {k1 : Nat} (h1 : k1 < shN (zg Z) 14) {s : St} {R : Unit × St} (hF : F_X1_sellOut (zg Z) k1 s = some R) : Sp Z l yX1_sellOut iX1_sellOut [.ref (za Z 4 0), .ref (za Z 14 k1)] s (rU R) :=
  Sp.of (by decide) rfl (Nat.le_of_ble_eq_true rfl) (w_X1_sellOut hZ h1 s hF)
-- X1_workMills
set_option maxRecDepth 100000 in
set_option maxHeartbeats 4000000 in
theorem w_X1_workMills_61 {Z : ZE} {l : Launch} (hZ : OkX Z)   {R : Unit × St} (h2_ : Int32 → St → Option (Unit × St)) (w2_ : ∀ (v1 : Int32)  (s : St), h2_ v1 s = some R → AW Z l iX1_workMills (Pq (rU R)) 0 0 2 [(0, .ref (za Z 4 0)), (1, .int v1)] [] s) (v1 : Int32)  (s : St) (hF : F_X1_workMills_61 (zg Z)  h2_ v1 s = some R) : AW Z l iX1_workMills (Pq (rU R)) 0 0 61 [(0, .ref (za Z 4 0)), (1, .int v1)] [] s := by
  unfold F_X1_workMills_61 at hF
  refine a_iinc [(1, .int (v1 + 1)), (0, .ref (za Z 4 0))] dX1_workMills_61 1 rfl rfl (by decide) rfl ?_
  refine a_goto 2 dX1_workMills_64 (by decide) ?_
  refine a_loc [(0, .ref (za Z 4 0)), (1, .int (v1 + 1))] [1, 0] rfl ?_
  exact w2_ (v1 + 1)  _ hF
set_option maxRecDepth 100000 in
set_option maxHeartbeats 4000000 in
theorem w_X1_workMills_56 {Z : ZE} {l : Launch} (hZ : OkX Z)   {R : Unit × St} (h2_ : Int32 → St → Option (Unit × St)) (w2_ : ∀ (v1 : Int32)  (s : St), h2_ v1 s = some R → AW Z l iX1_workMills (Pq (rU R)) 0 0 2 [(0, .ref (za Z 4 0)), (1, .int v1)] [] s) (v1 : Int32) (k2 : Nat) (h2 : k2 < shN (zg Z) 14) (s : St) (hF : F_X1_workMills_56 (zg Z)  h2_ v1 k2 s = some R) : AW Z l iX1_workMills (Pq (rU R)) 0 0 56 [(0, .ref (za Z 4 0)), (1, .int v1), (2, .ref (za Z 14 k2))] [] s := by
  unfold F_X1_workMills_56 at hF
  refine a_aload_n dX1_workMills_56 0 rfl rfl ?_
  refine a_aload_n dX1_workMills_57 2 rfl rfl ?_
  obtain ⟨r58, s58, e58, hF⟩ := bd_some hF
  refine a_invV hZ.1 (As := [.ref (za Z 14 k2)]) (rest := []) (hZ.2 4 0 (by decide) Nat.one_pos) lk_X1_113 ⟨⟨by decide, by decide⟩, by decide, by decide⟩ rfl (Nat.le_of_ble_eq_true rfl) dX1_workMills_58 (m_X1_sellOut hZ h2 e58) ?_
  show AW Z l iX1_workMills (Pq (rU R)) 0 0 61 [(0, .ref (za Z 4 0)), (1, .int v1), (2, .ref (za Z 14 k2))] [] s58
  refine a_loc [(0, .ref (za Z 4 0)), (1, .int v1)] [0, 1] rfl ?_
  exact w_X1_workMills_61 (l := l) hZ  h2_ w2_ v1  _ hF
set_option maxRecDepth 100000 in
set_option maxHeartbeats 4000000 in
theorem w_X1_workMills_2 {Z : ZE} {l : Launch} (hZ : OkX Z)   {R : Unit × St}  : ∀ (n_ : Nat) (v1 : Int32)  (s : St), F_X1_workMills_2 (zg Z)  n_ v1 s = some R → AW Z l iX1_workMills (Pq (rU R)) 0 0 2 [(0, .ref (za Z 4 0)), (1, .int v1)] [] s := by
  intro n_
  induction n_ with
  | zero =>
    intro v1 s hF
    exact absurd hF (by rw [F_X1_workMills_2]; exact fun q => by cases q)
  | succ n_ w2_ =>
    intro v1 s hF
    rw [F_X1_workMills_2] at hF
    refine a_iload_n dX1_workMills_2 1 rfl rfl ?_
    refine a_aload_n dX1_workMills_3 0 rfl rfl ?_
    refine a_getI hZ.1 (s 4 0 12) (hZ.2 4 0 (by decide) Nat.one_pos) fl_X1_53 rfl rfl dX1_workMills_4 ?_
    refine a_icmp_ge 67 dX1_workMills_7 (by decide) (fun q1 => ?_) (fun q1 => ?_)
    · replace hF := (if_pos q1).symm.trans hF
      replace hF := Option.some.inj hF
      subst hF
      exact a_vret rfl (Nat.zero_le _) (Nat.zero_le _) dX1_workMills_67 ⟨rfl, rfl⟩
    · replace hF := (if_neg q1).symm.trans hF
      refine a_aload_n dX1_workMills_10 0 rfl rfl ?_
      refine a_getR hZ.1 (hZ.2 4 0 (by decide) Nat.one_pos) fl_X1_42 rfl 0 rfl dX1_workMills_11 ?_
      refine a_iload_n dX1_workMills_14 1 rfl rfl ?_
      obtain ⟨p2, hF⟩ := gd_some hF
      obtain ⟨p3, hF⟩ := gd_some hF
      refine a_aald hZ.1 (hZ.2 13 0 (by decide) Nat.one_pos) rfl rfl rfl rfl (inb_vp p2) (ltb_lt p3) dX1_workMills_15 ?_
      refine a_astore_n [(2, .ref (za Z 14 v1.toNatClampNeg)), (0, .ref (za Z 4 0)), (1, .int v1)] dX1_workMills_16 rfl (by decide) rfl ?_
      refine a_aload_n dX1_workMills_17 1 rfl rfl ?_
      refine a_aload_n dX1_workMills_18 0 rfl rfl ?_
      obtain ⟨r19, s19, e19, hF⟩ := bd_some hF
      refine a_invV hZ.1 (As := [.ref (za Z 14 v1.toNatClampNeg)]) (rest := []) (hZ.2 4 0 (by decide) Nat.one_pos) lk_X1_102 ⟨⟨by decide, by decide⟩, by decide, by decide⟩ rfl (Nat.le_of_ble_eq_true rfl) dX1_workMills_19 (m_X1_cheapestFor hZ (ltb_lt p3) e19) ?_
      show AW Z l iX1_workMills (Pq (rU R)) 0 0 22 [(2, .ref (za Z 14 v1.toNatClampNeg)), (0, .ref (za Z 4 0)), (1, .int v1)] [.int r19] s19
      refine a_istore_n [(3, .int r19), (2, .ref (za Z 14 v1.toNatClampNeg)), (0, .ref (za Z 4 0)), (1, .int v1)] dX1_workMills_22 rfl (by decide) rfl ?_
      refine a_iload_n dX1_workMills_23 0 rfl rfl ?_
      refine a_ldc (v := (-1000000)) kw_511 dX1_workMills_24 ?_
      refine a_icmp_eq 56 dX1_workMills_26 (by decide) (fun q4 => ?_) (fun q4 => ?_)
      · replace hF := (if_pos q4).symm.trans hF
        refine a_loc [(0, .ref (za Z 4 0)), (1, .int v1), (2, .ref (za Z 14 v1.toNatClampNeg))] [2, 3, 1] rfl ?_
        exact w_X1_workMills_56 (l := l) hZ  (F_X1_workMills_2 (zg Z)  n_) w2_ v1 v1.toNatClampNeg (ltb_lt p3) _ hF
      · replace hF := (if_neg q4).symm.trans hF
        refine a_aload_n dX1_workMills_29 2 rfl rfl ?_
        refine a_getI hZ.1 (s19 4 0 4) (hZ.2 4 0 (by decide) Nat.one_pos) fl_X1_24 rfl rfl dX1_workMills_30 ?_
        refine a_aload_n dX1_workMills_33 2 rfl rfl ?_
        refine a_getR hZ.1 (hZ.2 4 0 (by decide) Nat.one_pos) fl_X1_21 rfl 0 rfl dX1_workMills_34 ?_
        refine a_iload_n dX1_workMills_37 0 rfl rfl ?_
        obtain ⟨p5, hF⟩ := gd_some hF
        refine a_iald hZ.1 (s19 8 0 r19.toNatClampNeg) (hZ.2 8 0 (by decide) Nat.one_pos) rfl rfl (inb_vp p5) rfl dX1_workMills_38 ?_
        refine a_isub dX1_workMills_39 ?_
        refine a_aload_n dX1_workMills_40 1 rfl rfl ?_
        refine a_getI hZ.1 (s19 14 v1.toNatClampNeg 2) (hZ.2 14 v1.toNatClampNeg (by decide) (ltb_lt p3)) fl_X1_106 rfl rfl dX1_workMills_41 ?_
        refine a_icmp_lt 56 dX1_workMills_44 (by decide) (fun q6 => ?_) (fun q6 => ?_)
        · replace hF := (if_pos q6).symm.trans hF
          refine a_loc [(0, .ref (za Z 4 0)), (1, .int v1), (2, .ref (za Z 14 v1.toNatClampNeg))] [2, 3, 1] rfl ?_
          exact w_X1_workMills_56 (l := l) hZ  (F_X1_workMills_2 (zg Z)  n_) w2_ v1 v1.toNatClampNeg (ltb_lt p3) _ hF
        · replace hF := (if_neg q6).symm.trans hF
          refine a_aload_n dX1_workMills_47 2 rfl rfl ?_
          refine a_aload_n dX1_workMills_48 1 rfl rfl ?_
          refine a_iload_n dX1_workMills_49 0 rfl rfl ?_
          obtain ⟨r50, s50, e50, hF⟩ := bd_some hF
          refine a_invV hZ.1 (As := [.ref (za Z 14 v1.toNatClampNeg), .int r19]) (rest := []) (hZ.2 4 0 (by decide) Nat.one_pos) lk_X1_109 ⟨⟨by decide, by decide⟩, by decide, by decide⟩ rfl (Nat.le_of_ble_eq_true rfl) dX1_workMills_50 (m_X1_runMill hZ (ltb_lt p3) e50) ?_
          show AW Z l iX1_workMills (Pq (rU R)) 0 0 53 [(3, .int r19), (2, .ref (za Z 14 v1.toNatClampNeg)), (0, .ref (za Z 4 0)), (1, .int v1)] [] s50
          refine a_goto 61 dX1_workMills_53 (by decide) ?_
          refine a_loc [(0, .ref (za Z 4 0)), (1, .int v1)] [2, 3] rfl ?_
          exact w_X1_workMills_61 (l := l) hZ  (F_X1_workMills_2 (zg Z)  n_) w2_ v1  _ hF
set_option maxRecDepth 100000 in
set_option maxHeartbeats 4000000 in
theorem w_X1_workMills {Z : ZE} {l : Launch} (hZ : OkX Z)   {R : Unit × St}    (s : St) (hF : F_X1_workMills (zg Z)   s = some R) : AW Z l iX1_workMills (Pq (rU R)) 0 0 0 [(0, .ref (za Z 4 0))] [] s := by
  unfold F_X1_workMills at hF
  refine a_iconst (v := (0 : Int32)) dX1_workMills_0 (by decide) ?_
  refine a_istore_n [(1, .int (0 : Int32)), (0, .ref (za Z 4 0))] dX1_workMills_1 rfl (by decide) rfl ?_
  refine a_loc [(0, .ref (za Z 4 0)), (1, .int (0 : Int32))] [1, 0] rfl ?_
  exact w_X1_workMills_2 (l := l) hZ   fu (0 : Int32)  _ hF
theorem m_X1_workMills {Z : ZE} {l : Launch} (hZ : OkX Z)   {s : St} {R : Unit × St} (hF : F_X1_workMills (zg Z)  s = some R) : Sp Z l yX1_workMills iX1_workMills [.ref (za Z 4 0)] s (rU R) :=
  Sp.of (by decide) rfl (Nat.le_of_ble_eq_true rfl) (w_X1_workMills hZ  s hF)
-- X10_passWeek
set_option maxRecDepth 100000 in
set_option maxHeartbeats 4000000 in
theorem w_X10_passWeek {Z : ZE} {l : Launch} (hZ : OkX Z)   {R : Unit × St}    (s : St) (hF : F_X10_passWeek (zg Z)   s = some R) : AW Z l iX10_passWeek (Pq (rU R)) 0 0 0 [(0, .ref (za Z 0 0))] [] s := by
  unfold F_X10_passWeek at hF
  refine a_aload_n dX10_passWeek_0 0 rfl rfl ?_
  refine a_getR hZ.1 (hZ.2 0 0 (by decide) Nat.one_pos) fl_X10_18 rfl 0 rfl dX10_passWeek_1 ?_
  obtain ⟨r4, s4, e4, hF⟩ := bd_some hF
  refine a_invV hZ.1 (As := []) (rest := []) (hZ.2 4 0 (by decide) Nat.one_pos) lk_X10_320 ⟨⟨by decide, by decide⟩, by decide, by decide⟩ rfl (Nat.le_of_ble_eq_true rfl) dX10_passWeek_4 (m_X1_landShips hZ  e4) ?_
  show AW Z l iX10_passWeek (Pq (rU R)) 0 0 7 [(0, .ref (za Z 0 0))] [] s4
  refine a_aload_n dX10_passWeek_7 0 rfl rfl ?_
  refine a_getR hZ.1 (hZ.2 0 0 (by decide) Nat.one_pos) fl_X10_18 rfl 0 rfl dX10_passWeek_8 ?_
  obtain ⟨r11, s11, e11, hF⟩ := bd_some hF
  refine a_invV hZ.1 (As := []) (rest := []) (hZ.2 4 0 (by decide) Nat.one_pos) lk_X10_323 ⟨⟨by decide, by decide⟩, by decide, by decide⟩ rfl (Nat.le_of_ble_eq_true rfl) dX10_passWeek_11 (m_X1_fixPrices hZ  e11) ?_
  show AW Z l iX10_passWeek (Pq (rU R)) 0 0 14 [(0, .ref (za Z 0 0))] [] s11
  refine a_aload_n dX10_passWeek_14 0 rfl rfl ?_
  refine a_getR hZ.1 (hZ.2 0 0 (by decide) Nat.one_pos) fl_X10_18 rfl 0 rfl dX10_passWeek_15 ?_
  obtain ⟨r18, s18, e18, hF⟩ := bd_some hF
  refine a_invV hZ.1 (As := []) (rest := []) (hZ.2 4 0 (by decide) Nat.one_pos) lk_X10_326 ⟨⟨by decide, by decide⟩, by decide, by decide⟩ rfl (Nat.le_of_ble_eq_true rfl) dX10_passWeek_18 (m_X1_workMills hZ  e18) ?_
  show AW Z l iX10_passWeek (Pq (rU R)) 0 0 21 [(0, .ref (za Z 0 0))] [] s18
  refine a_aload_n dX10_passWeek_21 0 rfl rfl ?_
  obtain ⟨r22, s22, e22, hF⟩ := bd_some hF
  refine a_invV hZ.1 (As := []) (rest := []) (hZ.2 0 0 (by decide) Nat.one_pos) lk_X10_329 ⟨⟨by decide, by decide⟩, by decide, by decide⟩ rfl (Nat.le_of_ble_eq_true rfl) dX10_passWeek_22 (m_X10_liveHomes hZ  e22) ?_
  show AW Z l iX10_passWeek (Pq (rU R)) 0 0 25 [(0, .ref (za Z 0 0))] [] s22
  refine a_aload_n dX10_passWeek_25 0 rfl rfl ?_
  refine a_getR hZ.1 (hZ.2 0 0 (by decide) Nat.one_pos) fl_X10_18 rfl 0 rfl dX10_passWeek_26 ?_
  refine a_dup dX10_passWeek_29 rfl ?_
  refine a_getI hZ.1 (s22 4 0 13) (hZ.2 4 0 (by decide) Nat.one_pos) fl_X10_173 rfl rfl dX10_passWeek_30 ?_
  refine a_iconst (v := (1 : Int32)) dX10_passWeek_33 (by decide) ?_
  refine a_iadd dX10_passWeek_34 ?_
  refine a_put hZ.1 (hZ.2 4 0 (by decide) Nat.one_pos) fl_X10_173 rfl rfl rfl dX10_passWeek_35 ?_
  replace hF := Option.some.inj hF
  subst hF
  exact a_vret rfl (Nat.zero_le _) (Nat.zero_le _) dX10_passWeek_38 ⟨rfl, rfl⟩
theorem m_X10_passWeek {Z : ZE} {l : Launch} (hZ : OkX Z)   {s : St} {R : Unit × St} (hF : F_X10_passWeek (zg Z)  s = some R) : Sp Z l yX10_passWeek iX10_passWeek [.ref (za Z 0 0)] s (rU R) :=
  Sp.of (by decide) rfl (Nat.le_of_ble_eq_true rfl) (w_X10_passWeek hZ  s hF)
-- X10_price
set_option maxRecDepth 100000 in
set_option maxHeartbeats 4000000 in
theorem w_X10_price {Z : ZE} {l : Launch} (hZ : OkX Z) {a1 : Int32} {a2 : Int32}  {R : Int32 × St}    (s : St) (hF : F_X10_price (zg Z) a1 a2  s = some R) : AW Z l iX10_price (Pq (rI R)) 0 0 0 [(0, .ref (za Z 0 0)), (1, .int a1), (2, .int a2)] [] s := by
  unfold F_X10_price at hF
  refine a_iload_n dX10_price_0 1 rfl rfl ?_
  obtain ⟨r1, s1, e1, hF⟩ := bd_some hF
  refine a_invS hZ.1 (As := [.int a1]) (rest := []) lk_X10_145 ⟨⟨by decide, by decide⟩, by decide, by decide⟩ rfl (Nat.le_of_ble_eq_true rfl) dX10_price_1 (m_X10_isSort hZ  e1) ?_
  show AW Z l iX10_price (Pq (rI R)) 0 0 4 [(0, .ref (za Z 0 0)), (1, .int a1), (2, .int a2)] [.int r1] s1
  refine a_if_eq 16 dX10_price_4 (by decide) (fun q1 => ?_) (fun q1 => ?_)
  · replace hF := (if_pos q1).symm.trans hF
    refine a_ldc (v := (-1000001)) kw_324 dX10_price_16 ?_
    replace hF := Option.some.inj hF
    subst hF
    exact a_iret rfl (Nat.zero_le _) (Nat.zero_le _) dX10_price_18 ⟨rfl, rfl⟩
  · replace hF := (if_neg q1).symm.trans hF
    refine a_iload_n dX10_price_7 2 rfl rfl ?_
    refine a_iconst (v := (0 : Int32)) dX10_price_8 (by decide) ?_
    refine a_iconst (v := (1 : Int32)) dX10_price_9 (by decide) ?_
    obtain ⟨r10, s10, e10, hF⟩ := bd_some hF
    refine a_invS hZ.1 (As := [.int a2, .int (0 : Int32), .int (1 : Int32)]) (rest := []) lk_X10_75 ⟨⟨by decide, by decide⟩, by decide, by decide⟩ rfl (Nat.le_of_ble_eq_true rfl) dX10_price_10 (m_X10_within hZ  e10) ?_
    show AW Z l iX10_price (Pq (rI R)) 0 0 13 [(0, .ref (za Z 0 0)), (1, .int a1), (2, .int a2)] [.int r10] s10
    refine a_if_ne 19 dX10_price_13 (by decide) (fun q2 => ?_) (fun q2 => ?_)
    · replace hF := (if_neg q2).symm.trans hF
      refine a_iload_n dX10_price_19 2 rfl rfl ?_
      refine a_if_ne 32 dX10_price_20 (by decide) (fun q3 => ?_) (fun q3 => ?_)
      · replace hF := (if_neg q3).symm.trans hF
        refine a_aload_n dX10_price_32 0 rfl rfl ?_
        refine a_getR hZ.1 (hZ.2 0 0 (by decide) Nat.one_pos) fl_X10_18 rfl 0 rfl dX10_price_33 ?_
        refine a_getI hZ.1 (s10 4 0 13) (hZ.2 4 0 (by decide) Nat.one_pos) fl_X10_173 rfl rfl dX10_price_36 ?_
        refine a_if_ne 47 dX10_price_39 (by decide) (fun q4 => ?_) (fun q4 => ?_)
        · replace hF := (if_neg q4).symm.trans hF
          refine a_aload_n dX10_price_47 0 rfl rfl ?_
          refine a_getR hZ.1 (hZ.2 0 0 (by decide) Nat.one_pos) fl_X10_18 rfl 0 rfl dX10_price_48 ?_
          refine a_getR hZ.1 (hZ.2 4 0 (by decide) Nat.one_pos) fl_X10_191 rfl 0 rfl dX10_price_51 ?_
          refine a_iload_n dX10_price_54 1 rfl rfl ?_
          obtain ⟨p5, hF⟩ := gd_some hF
          refine a_iald hZ.1 (s10 8 0 a1.toNatClampNeg) (hZ.2 8 0 (by decide) Nat.one_pos) rfl rfl (inb_vp p5) rfl dX10_price_55 ?_
          replace hF := Option.some.inj hF
          subst hF
          exact a_iret rfl (Nat.zero_le _) (Nat.zero_le _) dX10_price_56 ⟨rfl, rfl⟩
        · replace hF := (if_pos q4).symm.trans hF
          refine a_ldc (v := (-1000000)) kw_553 dX10_price_42 ?_
          refine a_goto 56 dX10_price_44 (by decide) ?_
          replace hF := Option.some.inj hF
          subst hF
          exact a_iret rfl (Nat.zero_le _) (Nat.zero_le _) dX10_price_56 ⟨rfl, rfl⟩
      · replace hF := (if_pos q3).symm.trans hF
        refine a_aload_n dX10_price_23 0 rfl rfl ?_
        refine a_getR hZ.1 (hZ.2 0 0 (by decide) Nat.one_pos) fl_X10_18 rfl 0 rfl dX10_price_24 ?_
        refine a_iload_n dX10_price_27 1 rfl rfl ?_
        obtain ⟨r28, s28, e28, hF⟩ := bd_some hF
        refine a_invV hZ.1 (As := [.int a1]) (rest := []) (hZ.2 4 0 (by decide) Nat.one_pos) lk_X10_187 ⟨⟨by decide, by decide⟩, by decide, by decide⟩ rfl (Nat.le_of_ble_eq_true rfl) dX10_price_28 (m_X1_priceNow hZ  e28) ?_
        show AW Z l iX10_price (Pq (rI R)) 0 0 31 [(0, .ref (za Z 0 0)), (1, .int a1), (2, .int a2)] [.int r28] s28
        replace hF := Option.some.inj hF
        subst hF
        exact a_iret rfl (Nat.zero_le _) (Nat.zero_le _) dX10_price_31 ⟨rfl, rfl⟩
    · replace hF := (if_pos q2).symm.trans hF
      refine a_ldc (v := (-1000001)) kw_324 dX10_price_16 ?_
      replace hF := Option.some.inj hF
      subst hF
      exact a_iret rfl (Nat.zero_le _) (Nat.zero_le _) dX10_price_18 ⟨rfl, rfl⟩
theorem m_X10_price {Z : ZE} {l : Launch} (hZ : OkX Z) {a1 : Int32} {a2 : Int32}  {s : St} {R : Int32 × St} (hF : F_X10_price (zg Z) a1 a2 s = some R) : Sp Z l yX10_price iX10_price [.ref (za Z 0 0), .int a1, .int a2] s (rI R) :=
  Sp.of (by decide) rfl (Nat.le_of_ble_eq_true rfl) (w_X10_price hZ  s hF)
-- X10_ran
set_option maxRecDepth 100000 in
set_option maxHeartbeats 4000000 in
theorem w_X10_ran {Z : ZE} {l : Launch} (hZ : OkX Z) {a1 : Int32} {a2 : Int32}  {R : Int32 × St}    (s : St) (hF : F_X10_ran (zg Z) a1 a2  s = some R) : AW Z l iX10_ran (Pq (rI R)) 0 0 0 [(0, .ref (za Z 0 0)), (1, .int a1), (2, .int a2)] [] s := by
  unfold F_X10_ran at hF
  refine a_iload_n dX10_ran_0 1 rfl rfl ?_
  refine a_iconst (v := (0 : Int32)) dX10_ran_1 (by decide) ?_
  refine a_iconst (v := (5 : Int32)) dX10_ran_2 (by decide) ?_
  obtain ⟨r3, s3, e3, hF⟩ := bd_some hF
  refine a_invS hZ.1 (As := [.int a1, .int (0 : Int32), .int (5 : Int32)]) (rest := []) lk_X10_75 ⟨⟨by decide, by decide⟩, by decide, by decide⟩ rfl (Nat.le_of_ble_eq_true rfl) dX10_ran_3 (m_X10_within hZ  e3) ?_
  show AW Z l iX10_ran (Pq (rI R)) 0 0 6 [(0, .ref (za Z 0 0)), (1, .int a1), (2, .int a2)] [.int r3] s3
  refine a_if_eq 16 dX10_ran_6 (by decide) (fun q1 => ?_) (fun q1 => ?_)
  · replace hF := (if_pos q1).symm.trans hF
    refine a_ldc (v := (-1000001)) kw_324 dX10_ran_16 ?_
    replace hF := Option.some.inj hF
    subst hF
    exact a_iret rfl (Nat.zero_le _) (Nat.zero_le _) dX10_ran_18 ⟨rfl, rfl⟩
  · replace hF := (if_neg q1).symm.trans hF
    refine a_iload_n dX10_ran_9 2 rfl rfl ?_
    obtain ⟨r10, s10, e10, hF⟩ := bd_some hF
    refine a_invS hZ.1 (As := [.int a2]) (rest := []) lk_X10_142 ⟨⟨by decide, by decide⟩, by decide, by decide⟩ rfl (Nat.le_of_ble_eq_true rfl) dX10_ran_10 (m_X10_isWeek hZ  e10) ?_
    show AW Z l iX10_ran (Pq (rI R)) 0 0 13 [(0, .ref (za Z 0 0)), (1, .int a1), (2, .int a2)] [.int r10] s10
    refine a_if_ne 19 dX10_ran_13 (by decide) (fun q2 => ?_) (fun q2 => ?_)
    · replace hF := (if_neg q2).symm.trans hF
      refine a_aload_n dX10_ran_19 0 rfl rfl ?_
      refine a_getR hZ.1 (hZ.2 0 0 (by decide) Nat.one_pos) fl_X10_18 rfl 0 rfl dX10_ran_20 ?_
      refine a_iload_n dX10_ran_23 1 rfl rfl ?_
      refine a_iload_n dX10_ran_24 2 rfl rfl ?_
      obtain ⟨r25, s25, e25, hF⟩ := bd_some hF
      refine a_invV hZ.1 (As := [.int a1, .int a2]) (rest := []) (hZ.2 4 0 (by decide) Nat.one_pos) lk_X10_184 ⟨⟨by decide, by decide⟩, by decide, by decide⟩ rfl (Nat.le_of_ble_eq_true rfl) dX10_ran_25 (m_X1_sortRun hZ  e25) ?_
      show AW Z l iX10_ran (Pq (rI R)) 0 0 28 [(0, .ref (za Z 0 0)), (1, .int a1), (2, .int a2)] [.int r25] s25
      replace hF := Option.some.inj hF
      subst hF
      exact a_iret rfl (Nat.zero_le _) (Nat.zero_le _) dX10_ran_28 ⟨rfl, rfl⟩
    · replace hF := (if_pos q2).symm.trans hF
      refine a_ldc (v := (-1000001)) kw_324 dX10_ran_16 ?_
      replace hF := Option.some.inj hF
      subst hF
      exact a_iret rfl (Nat.zero_le _) (Nat.zero_le _) dX10_ran_18 ⟨rfl, rfl⟩
theorem m_X10_ran {Z : ZE} {l : Launch} (hZ : OkX Z) {a1 : Int32} {a2 : Int32}  {s : St} {R : Int32 × St} (hF : F_X10_ran (zg Z) a1 a2 s = some R) : Sp Z l yX10_ran iX10_ran [.ref (za Z 0 0), .int a1, .int a2] s (rI R) :=
  Sp.of (by decide) rfl (Nat.le_of_ble_eq_true rfl) (w_X10_ran hZ  s hF)
-- X7_put
set_option maxRecDepth 100000 in
set_option maxHeartbeats 4000000 in
theorem w_X7_put_44 {Z : ZE} {l : Launch} (hZ : OkX Z) {k0 : Nat} {a1 : Int32} {a2 : Int32} (h0 : k0 < shN (zg Z) 2) {R : Int32 × St}    (s : St) (hF : F_X7_put_44 (zg Z) k0 a1 a2  s = some R) : AW Z l iX7_put (Pq (rI R)) 0 0 44 [(0, .ref (za Z 2 k0)), (1, .int a1)] [] s := by
  unfold F_X7_put_44 at hF
  refine a_aload_n dX7_put_44 0 rfl rfl ?_
  refine a_getR hZ.1 (hZ.2 2 k0 (by decide) h0) fl_X7_9 rfl k0 rfl dX7_put_45 ?_
  refine a_iload_n dX7_put_48 1 rfl rfl ?_
  obtain ⟨p1, hF⟩ := gd_some hF
  refine a_iald hZ.1 (s 3 k0 a1.toNatClampNeg) (hZ.2 3 k0 (by decide) h0) rfl rfl (inb_vp p1) rfl dX7_put_49 ?_
  replace hF := Option.some.inj hF
  subst hF
  exact a_iret rfl (Nat.zero_le _) (Nat.zero_le _) dX7_put_50 ⟨rfl, rfl⟩
set_option maxRecDepth 100000 in
set_option maxHeartbeats 4000000 in
theorem w_X7_put {Z : ZE} {l : Launch} (hZ : OkX Z) {k0 : Nat} {a1 : Int32} {a2 : Int32} (h0 : k0 < shN (zg Z) 2) {R : Int32 × St}    (s : St) (hF : F_X7_put (zg Z) k0 a1 a2  s = some R) : AW Z l iX7_put (Pq (rI R)) 0 0 0 [(0, .ref (za Z 2 k0)), (1, .int a1), (2, .int a2)] [] s := by
  unfold F_X7_put at hF
  refine a_aload_n dX7_put_0 0 rfl rfl ?_
  refine a_getI hZ.1 (s 2 k0 2) (hZ.2 2 k0 (by decide) h0) fl_X7_25 rfl rfl dX7_put_1 ?_
  refine a_if_ne 18 dX7_put_4 (by decide) (fun q1 => ?_) (fun q1 => ?_)
  · replace hF := (if_neg q1).symm.trans hF
    refine a_aload_n dX7_put_18 0 rfl rfl ?_
    refine a_getI hZ.1 (s 2 k0 2) (hZ.2 2 k0 (by decide) h0) fl_X7_25 rfl rfl dX7_put_19 ?_
    refine a_iconst (v := (1 : Int32)) dX7_put_22 (by decide) ?_
    refine a_icmp_ne 37 dX7_put_23 (by decide) (fun q2 => ?_) (fun q2 => ?_)
    · replace hF := (if_neg q2).symm.trans hF
      refine a_aload_n dX7_put_37 0 rfl rfl ?_
      refine a_getR hZ.1 (hZ.2 2 k0 (by decide) h0) fl_X7_9 rfl k0 rfl dX7_put_38 ?_
      refine a_iload_n dX7_put_41 1 rfl rfl ?_
      refine a_iload_n dX7_put_42 2 rfl rfl ?_
      obtain ⟨p3, hF⟩ := gd_some hF
      refine a_iast hZ.1 (hZ.2 3 k0 (by decide) h0) rfl rfl (inb_vp p3) dX7_put_43 ?_
      refine a_loc [(0, .ref (za Z 2 k0)), (1, .int a1)] [0, 1] rfl ?_
      exact w_X7_put_44 (l := l) hZ h0    _ hF
    · replace hF := (if_pos q2).symm.trans hF
      refine a_aload_n dX7_put_26 0 rfl rfl ?_
      refine a_getR hZ.1 (hZ.2 2 k0 (by decide) h0) fl_X7_9 rfl k0 rfl dX7_put_27 ?_
      refine a_iload_n dX7_put_30 1 rfl rfl ?_
      refine a_iload_n dX7_put_31 2 rfl rfl ?_
      refine a_i2s dX7_put_32 ?_
      obtain ⟨p4, hF⟩ := gd_some hF
      refine a_iast hZ.1 (hZ.2 3 k0 (by decide) h0) rfl rfl (inb_vp p4) dX7_put_33 ?_
      refine a_goto 44 dX7_put_34 (by decide) ?_
      refine a_loc [(0, .ref (za Z 2 k0)), (1, .int a1)] [0, 1] rfl ?_
      exact w_X7_put_44 (l := l) hZ h0    _ hF
  · replace hF := (if_pos q1).symm.trans hF
    refine a_aload_n dX7_put_7 0 rfl rfl ?_
    refine a_getR hZ.1 (hZ.2 2 k0 (by decide) h0) fl_X7_9 rfl k0 rfl dX7_put_8 ?_
    refine a_iload_n dX7_put_11 1 rfl rfl ?_
    refine a_iload_n dX7_put_12 2 rfl rfl ?_
    refine a_i2b dX7_put_13 ?_
    obtain ⟨p5, hF⟩ := gd_some hF
    refine a_iast hZ.1 (hZ.2 3 k0 (by decide) h0) rfl rfl (inb_vp p5) dX7_put_14 ?_
    refine a_goto 44 dX7_put_15 (by decide) ?_
    refine a_loc [(0, .ref (za Z 2 k0)), (1, .int a1)] [0, 1] rfl ?_
    exact w_X7_put_44 (l := l) hZ h0    _ hF
theorem m_X7_put {Z : ZE} {l : Launch} (hZ : OkX Z) {k0 : Nat} {a1 : Int32} {a2 : Int32} (h0 : k0 < shN (zg Z) 2) {s : St} {R : Int32 × St} (hF : F_X7_put (zg Z) k0 a1 a2 s = some R) : Sp Z l yX7_put iX7_put [.ref (za Z 2 k0), .int a1, .int a2] s (rI R) :=
  Sp.of (by decide) rfl (Nat.le_of_ble_eq_true rfl) (w_X7_put hZ h0 s hF)
-- X10_set
set_option maxRecDepth 100000 in
set_option maxHeartbeats 4000000 in
theorem w_X10_set {Z : ZE} {l : Launch} (hZ : OkX Z) {a1 : Int32} {a2 : Int32} {a3 : Int32}  {R : Int32 × St}    (s : St) (hF : F_X10_set (zg Z) a1 a2 a3  s = some R) : AW Z l iX10_set (Pq (rI R)) 0 0 0 [(0, .ref (za Z 0 0)), (1, .int a1), (2, .int a2), (3, .int a3)] [] s := by
  unfold F_X10_set at hF
  refine a_iload_n dX10_set_0 1 rfl rfl ?_
  obtain ⟨r1, s1, e1, hF⟩ := bd_some hF
  refine a_invS hZ.1 (As := [.int a1]) (rest := []) lk_X10_71 ⟨⟨by decide, by decide⟩, by decide, by decide⟩ rfl (Nat.le_of_ble_eq_true rfl) dX10_set_1 (m_X10_isSheet hZ  e1) ?_
  show AW Z l iX10_set (Pq (rI R)) 0 0 4 [(0, .ref (za Z 0 0)), (1, .int a1), (2, .int a2), (3, .int a3)] [.int r1] s1
  refine a_if_ne 10 dX10_set_4 (by decide) (fun q1 => ?_) (fun q1 => ?_)
  · replace hF := (if_neg q1).symm.trans hF
    refine a_aload_n dX10_set_10 0 rfl rfl ?_
    refine a_getR hZ.1 (hZ.2 0 0 (by decide) Nat.one_pos) fl_X10_11 rfl 0 rfl dX10_set_11 ?_
    refine a_iload_n dX10_set_14 1 rfl rfl ?_
    obtain ⟨p2, hF⟩ := gd_some hF
    refine a_aald hZ.1 (hZ.2 1 0 (by decide) Nat.one_pos) rfl rfl rfl rfl (inb_vp p2) (inb_lt p2) dX10_set_15 ?_
    refine a_astore [(4, .ref (za Z 2 a1.toNatClampNeg)), (0, .ref (za Z 0 0)), (1, .int a1), (2, .int a2), (3, .int a3)] dX10_set_16 (by decide) rfl ?_
    refine a_aload dX10_set_18 0 rfl ?_
    refine a_iload_n dX10_set_20 3 rfl rfl ?_
    refine a_iconst (v := (1 : Int32)) dX10_set_21 (by decide) ?_
    obtain ⟨r22, s22, e22, hF⟩ := bd_some hF
    refine a_invV hZ.1 (As := [.int a2, .int (1 : Int32)]) (rest := []) (hZ.2 2 a1.toNatClampNeg (by decide) (inb_lt p2)) lk_X10_91 ⟨⟨by decide, by decide⟩, by decide, by decide⟩ rfl (Nat.le_of_ble_eq_true rfl) dX10_set_22 (m_X7_findingAt hZ (inb_lt p2) e22) ?_
    show AW Z l iX10_set (Pq (rI R)) 0 0 25 [(4, .ref (za Z 2 a1.toNatClampNeg)), (0, .ref (za Z 0 0)), (1, .int a1), (2, .int a2), (3, .int a3)] [.int r22] s22
    refine a_istore [(5, .int r22), (4, .ref (za Z 2 a1.toNatClampNeg)), (0, .ref (za Z 0 0)), (1, .int a1), (2, .int a2), (3, .int a3)] dX10_set_25 (by decide) rfl ?_
    refine a_iload dX10_set_27 0 rfl ?_
    refine a_if_eq 41 dX10_set_29 (by decide) (fun q3 => ?_) (fun q3 => ?_)
    · replace hF := (if_pos q3).symm.trans hF
      refine a_aload_n dX10_set_41 2 rfl rfl ?_
      refine a_aload dX10_set_42 1 rfl ?_
      refine a_iload_n dX10_set_44 4 rfl rfl ?_
      refine a_iload_n dX10_set_45 5 rfl rfl ?_
      obtain ⟨r46, s46, e46, hF⟩ := bd_some hF
      refine a_invV hZ.1 (As := [.int a2, .int a3]) (rest := [.ref (za Z 0 0)]) (hZ.2 2 a1.toNatClampNeg (by decide) (inb_lt p2)) lk_X10_95 ⟨⟨by decide, by decide⟩, by decide, by decide⟩ rfl (Nat.le_of_ble_eq_true rfl) dX10_set_46 (m_X7_put hZ (inb_lt p2) e46) ?_
      show AW Z l iX10_set (Pq (rI R)) 0 0 49 [(5, .int r22), (4, .ref (za Z 2 a1.toNatClampNeg)), (0, .ref (za Z 0 0)), (1, .int a1), (2, .int a2), (3, .int a3)] [.int r46, .ref (za Z 0 0)] s46
      obtain ⟨r49, s49, e49, hF⟩ := bd_some hF
      refine a_invV hZ.1 (As := [.int r46]) (rest := []) (hZ.2 0 0 (by decide) Nat.one_pos) lk_X10_88 ⟨⟨by decide, by decide⟩, by decide, by decide⟩ rfl (Nat.le_of_ble_eq_true rfl) dX10_set_49 (m_X10_unfound hZ  e49) ?_
      show AW Z l iX10_set (Pq (rI R)) 0 0 52 [(5, .int r22), (4, .ref (za Z 2 a1.toNatClampNeg)), (0, .ref (za Z 0 0)), (1, .int a1), (2, .int a2), (3, .int a3)] [.int r49] s49
      replace hF := Option.some.inj hF
      subst hF
      exact a_iret rfl (Nat.zero_le _) (Nat.zero_le _) dX10_set_52 ⟨rfl, rfl⟩
    · replace hF := (if_neg q3).symm.trans hF
      refine a_aload_n dX10_set_32 2 rfl rfl ?_
      refine a_iload dX10_set_33 0 rfl ?_
      obtain ⟨r35, s35, e35, hF⟩ := bd_some hF
      refine a_invV hZ.1 (As := [.int r22]) (rest := []) (hZ.2 0 0 (by decide) Nat.one_pos) lk_X10_80 ⟨⟨by decide, by decide⟩, by decide, by decide⟩ rfl (Nat.le_of_ble_eq_true rfl) dX10_set_35 (m_X10_found hZ  e35) ?_
      show AW Z l iX10_set (Pq (rI R)) 0 0 38 [(5, .int r22), (4, .ref (za Z 2 a1.toNatClampNeg)), (0, .ref (za Z 0 0)), (1, .int a1), (2, .int a2), (3, .int a3)] [.int r35] s35
      refine a_goto 52 dX10_set_38 (by decide) ?_
      replace hF := Option.some.inj hF
      subst hF
      exact a_iret rfl (Nat.zero_le _) (Nat.zero_le _) dX10_set_52 ⟨rfl, rfl⟩
  · replace hF := (if_pos q1).symm.trans hF
    refine a_ldc (v := (-1000001)) kw_324 dX10_set_7 ?_
    replace hF := Option.some.inj hF
    subst hF
    exact a_iret rfl (Nat.zero_le _) (Nat.zero_le _) dX10_set_9 ⟨rfl, rfl⟩
theorem m_X10_set {Z : ZE} {l : Launch} (hZ : OkX Z) {a1 : Int32} {a2 : Int32} {a3 : Int32}  {s : St} {R : Int32 × St} (hF : F_X10_set (zg Z) a1 a2 a3 s = some R) : Sp Z l yX10_set iX10_set [.ref (za Z 0 0), .int a1, .int a2, .int a3] s (rI R) :=
  Sp.of (by decide) rfl (Nat.le_of_ble_eq_true rfl) (w_X10_set hZ  s hF)
-- J7_fill_53178
set_option maxRecDepth 100000 in
set_option maxHeartbeats 4000000 in
theorem w_J7_fill_53178_5 {Z : ZE} {l : Launch} (hZ : OkX Z) {t0 : Nat} {k0 : Nat} {a1 : Int32} (hx0 : zx Z t0 k0) (ho0 : shO t0 = none) (ha0 : shA t0 = some (lna t0)) {R : Unit × St}  : ∀ (n_ : Nat) (v2 : Int32) (v3 : Int32)  (s : St), F_J7_fill_53178_5 (zg Z) t0 k0 a1 n_ v2 v3 s = some R → AW Z l iJ7_fill_53178 (Pq (rU R)) 0 0 5 [(0, .ref (za Z t0 k0)), (1, .int a1), (2, .int v2), (3, .int v3)] [] s := by
  intro n_
  induction n_ with
  | zero =>
    intro v2 v3 s hF
    exact absurd hF (by rw [F_J7_fill_53178_5]; exact fun q => by cases q)
  | succ n_ w5_ =>
    intro v2 v3 s hF
    rw [F_J7_fill_53178_5] at hF
    refine a_iload_n dJ7_fill_53178_5 2 rfl rfl ?_
    refine a_iload_n dJ7_fill_53178_6 3 rfl rfl ?_
    refine a_icmp_ge 20 dJ7_fill_53178_7 (by decide) (fun q1 => ?_) (fun q1 => ?_)
    · replace hF := (if_pos q1).symm.trans hF
      replace hF := Option.some.inj hF
      subst hF
      exact a_vret rfl (Nat.zero_le _) (Nat.zero_le _) dJ7_fill_53178_20 ⟨rfl, rfl⟩
    · replace hF := (if_neg q1).symm.trans hF
      refine a_aload_n dJ7_fill_53178_10 0 rfl rfl ?_
      refine a_iload_n dJ7_fill_53178_11 2 rfl rfl ?_
      refine a_iload_n dJ7_fill_53178_12 1 rfl rfl ?_
      obtain ⟨p2, hF⟩ := gd_some hF
      refine a_iast hZ.1 hx0 ho0 ha0 (inb_vp p2) dJ7_fill_53178_13 ?_
      refine a_iinc [(2, .int (v2 + 1)), (0, .ref (za Z t0 k0)), (1, .int a1), (3, .int v3)] dJ7_fill_53178_14 2 rfl rfl (by decide) rfl ?_
      refine a_goto 5 dJ7_fill_53178_17 (by decide) ?_
      refine a_loc [(0, .ref (za Z t0 k0)), (1, .int a1), (2, .int (v2 + 1)), (3, .int v3)] [1, 2, 0, 3] rfl ?_
      exact w5_ (v2 + 1) v3  _ hF
set_option maxRecDepth 100000 in
set_option maxHeartbeats 4000000 in
theorem w_J7_fill_53178 {Z : ZE} {l : Launch} (hZ : OkX Z) {t0 : Nat} {k0 : Nat} {a1 : Int32} (hx0 : zx Z t0 k0) (ho0 : shO t0 = none) (ha0 : shA t0 = some (lna t0)) {R : Unit × St}    (s : St) (hF : F_J7_fill_53178 (zg Z) t0 k0 a1  s = some R) : AW Z l iJ7_fill_53178 (Pq (rU R)) 0 0 0 [(0, .ref (za Z t0 k0)), (1, .int a1)] [] s := by
  unfold F_J7_fill_53178 at hF
  refine a_iconst (v := (0 : Int32)) dJ7_fill_53178_0 (by decide) ?_
  refine a_istore_n [(2, .int (0 : Int32)), (0, .ref (za Z t0 k0)), (1, .int a1)] dJ7_fill_53178_1 rfl (by decide) rfl ?_
  refine a_aload_n dJ7_fill_53178_2 1 rfl rfl ?_
  refine a_alen hZ.1 hx0 ho0 ha0 rfl dJ7_fill_53178_3 ?_
  refine a_istore_n [(3, .int (Int32.ofNat (lna t0))), (2, .int (0 : Int32)), (0, .ref (za Z t0 k0)), (1, .int a1)] dJ7_fill_53178_4 rfl (by decide) rfl ?_
  refine a_loc [(0, .ref (za Z t0 k0)), (1, .int a1), (2, .int (0 : Int32)), (3, .int (Int32.ofNat (lna t0)))] [2, 3, 1, 0] rfl ?_
  exact w_J7_fill_53178_5 (l := l) hZ hx0 ho0 ha0  fu (0 : Int32) (Int32.ofNat (lna t0))  _ hF
theorem m_J7_fill_53178 {Z : ZE} {l : Launch} (hZ : OkX Z) {t0 : Nat} {k0 : Nat} {a1 : Int32} (hx0 : zx Z t0 k0) (ho0 : shO t0 = none) (ha0 : shA t0 = some (lna t0)) {s : St} {R : Unit × St} (hF : F_J7_fill_53178 (zg Z) t0 k0 a1 s = some R) : Sp Z l yJ7_fill_53178 iJ7_fill_53178 [.ref (za Z t0 k0), .int a1] s (rU R) :=
  Sp.of (by decide) rfl (Nat.le_of_ble_eq_true rfl) (w_J7_fill_53178 hZ hx0 ho0 ha0 s hF)
-- X7_begin
set_option maxRecDepth 100000 in
set_option maxHeartbeats 4000000 in
theorem w_X7_begin {Z : ZE} {l : Launch} (hZ : OkX Z) {k0 : Nat} {a1 : Int32} {a2 : Int32} (h0 : k0 < shN (zg Z) 2) {R : Unit × St}    (s : St) (hF : F_X7_begin (zg Z) k0 a1 a2  s = some R) : AW Z l iX7_begin (Pq (rU R)) 0 0 0 [(0, .ref (za Z 2 k0)), (1, .int a1), (2, .int a2)] [] s := by
  unfold F_X7_begin at hF
  refine a_aload_n dX7_begin_0 0 rfl rfl ?_
  refine a_getR hZ.1 (hZ.2 2 k0 (by decide) h0) fl_X7_9 rfl k0 rfl dX7_begin_1 ?_
  refine a_iconst (v := (0 : Int32)) dX7_begin_4 (by decide) ?_
  obtain ⟨r5, s5, e5, hF⟩ := bd_some hF
  refine a_invS hZ.1 (As := [.ref (za Z 3 k0), .int (0 : Int32)]) (rest := []) lk_X7_19 ⟨⟨by decide, by decide⟩, by decide, by decide⟩ rfl (Nat.le_of_ble_eq_true rfl) dX7_begin_5 (m_J7_fill_53178 hZ (hZ.2 3 k0 (by decide) h0) rfl rfl e5) ?_
  show AW Z l iX7_begin (Pq (rU R)) 0 0 8 [(0, .ref (za Z 2 k0)), (1, .int a1), (2, .int a2)] [] s5
  refine a_aload_n dX7_begin_8 0 rfl rfl ?_
  refine a_iconst (v := (0 : Int32)) dX7_begin_9 (by decide) ?_
  refine a_put hZ.1 (hZ.2 2 k0 (by decide) h0) fl_X7_15 rfl rfl rfl dX7_begin_10 ?_
  refine a_aload_n dX7_begin_13 0 rfl rfl ?_
  refine a_iload_n dX7_begin_14 1 rfl rfl ?_
  refine a_put hZ.1 (hZ.2 2 k0 (by decide) h0) fl_X7_25 rfl rfl rfl dX7_begin_15 ?_
  refine a_aload_n dX7_begin_18 0 rfl rfl ?_
  refine a_iload_n dX7_begin_19 2 rfl rfl ?_
  refine a_put hZ.1 (hZ.2 2 k0 (by decide) h0) fl_X7_29 rfl rfl rfl dX7_begin_20 ?_
  replace hF := Option.some.inj hF
  subst hF
  exact a_vret rfl (Nat.zero_le _) (Nat.zero_le _) dX7_begin_23 ⟨rfl, rfl⟩
theorem m_X7_begin {Z : ZE} {l : Launch} (hZ : OkX Z) {k0 : Nat} {a1 : Int32} {a2 : Int32} (h0 : k0 < shN (zg Z) 2) {s : St} {R : Unit × St} (hF : F_X7_begin (zg Z) k0 a1 a2 s = some R) : Sp Z l yX7_begin iX7_begin [.ref (za Z 2 k0), .int a1, .int a2] s (rU R) :=
  Sp.of (by decide) rfl (Nat.le_of_ble_eq_true rfl) (w_X7_begin hZ h0 s hF)
-- X10_sheet
set_option maxRecDepth 100000 in
set_option maxHeartbeats 4000000 in
theorem w_X10_sheet {Z : ZE} {l : Launch} (hZ : OkX Z) {a1 : Int32} {a2 : Int32} {a3 : Int32}  {R : Int32 × St}    (s : St) (hF : F_X10_sheet (zg Z) a1 a2 a3  s = some R) : AW Z l iX10_sheet (Pq (rI R)) 0 0 0 [(0, .ref (za Z 0 0)), (1, .int a1), (2, .int a2), (3, .int a3)] [] s := by
  unfold F_X10_sheet at hF
  refine a_iload_n dX10_sheet_0 1 rfl rfl ?_
  obtain ⟨r1, s1, e1, hF⟩ := bd_some hF
  refine a_invS hZ.1 (As := [.int a1]) (rest := []) lk_X10_71 ⟨⟨by decide, by decide⟩, by decide, by decide⟩ rfl (Nat.le_of_ble_eq_true rfl) dX10_sheet_1 (m_X10_isSheet hZ  e1) ?_
  show AW Z l iX10_sheet (Pq (rI R)) 0 0 4 [(0, .ref (za Z 0 0)), (1, .int a1), (2, .int a2), (3, .int a3)] [.int r1] s1
  refine a_if_eq 22 dX10_sheet_4 (by decide) (fun q1 => ?_) (fun q1 => ?_)
  · replace hF := (if_pos q1).symm.trans hF
    refine a_ldc (v := (-1000001)) kw_324 dX10_sheet_22 ?_
    replace hF := Option.some.inj hF
    subst hF
    exact a_iret rfl (Nat.zero_le _) (Nat.zero_le _) dX10_sheet_24 ⟨rfl, rfl⟩
  · replace hF := (if_neg q1).symm.trans hF
    refine a_iload_n dX10_sheet_7 2 rfl rfl ?_
    refine a_iconst (v := (0 : Int32)) dX10_sheet_8 (by decide) ?_
    refine a_iconst (v := (2 : Int32)) dX10_sheet_9 (by decide) ?_
    obtain ⟨r10, s10, e10, hF⟩ := bd_some hF
    refine a_invS hZ.1 (As := [.int a2, .int (0 : Int32), .int (2 : Int32)]) (rest := []) lk_X10_75 ⟨⟨by decide, by decide⟩, by decide, by decide⟩ rfl (Nat.le_of_ble_eq_true rfl) dX10_sheet_10 (m_X10_within hZ  e10) ?_
    show AW Z l iX10_sheet (Pq (rI R)) 0 0 13 [(0, .ref (za Z 0 0)), (1, .int a1), (2, .int a2), (3, .int a3)] [.int r10] s10
    refine a_if_eq 22 dX10_sheet_13 (by decide) (fun q2 => ?_) (fun q2 => ?_)
    · replace hF := (if_pos q2).symm.trans hF
      refine a_ldc (v := (-1000001)) kw_324 dX10_sheet_22 ?_
      replace hF := Option.some.inj hF
      subst hF
      exact a_iret rfl (Nat.zero_le _) (Nat.zero_le _) dX10_sheet_24 ⟨rfl, rfl⟩
    · replace hF := (if_neg q2).symm.trans hF
      refine a_iload_n dX10_sheet_16 3 rfl rfl ?_
      refine a_bipush (v := (80 : Int32)) dX10_sheet_17 (by decide) ?_
      refine a_icmp_le 25 dX10_sheet_19 (by decide) (fun q3 => ?_) (fun q3 => ?_)
      · replace hF := (if_pos q3).symm.trans hF
        refine a_iload_n dX10_sheet_25 3 rfl rfl ?_
        refine a_if_ge 35 dX10_sheet_26 (by decide) (fun q4 => ?_) (fun q4 => ?_)
        · replace hF := (if_pos q4).symm.trans hF
          refine a_aload_n dX10_sheet_35 0 rfl rfl ?_
          refine a_getR hZ.1 (hZ.2 0 0 (by decide) Nat.one_pos) fl_X10_11 rfl 0 rfl dX10_sheet_36 ?_
          refine a_iload_n dX10_sheet_39 1 rfl rfl ?_
          obtain ⟨p5, hF⟩ := gd_some hF
          refine a_aald hZ.1 (hZ.2 1 0 (by decide) Nat.one_pos) rfl rfl rfl rfl (inb_vp p5) (inb_lt p5) dX10_sheet_40 ?_
          refine a_iload_n dX10_sheet_41 2 rfl rfl ?_
          refine a_iload_n dX10_sheet_42 3 rfl rfl ?_
          obtain ⟨r43, s43, e43, hF⟩ := bd_some hF
          refine a_invV hZ.1 (As := [.int a2, .int a3]) (rest := []) (hZ.2 2 a1.toNatClampNeg (by decide) (inb_lt p5)) lk_X10_84 ⟨⟨by decide, by decide⟩, by decide, by decide⟩ rfl (Nat.le_of_ble_eq_true rfl) dX10_sheet_43 (m_X7_begin hZ (inb_lt p5) e43) ?_
          show AW Z l iX10_sheet (Pq (rI R)) 0 0 46 [(0, .ref (za Z 0 0)), (1, .int a1), (2, .int a2), (3, .int a3)] [] s43
          refine a_aload_n dX10_sheet_46 0 rfl rfl ?_
          refine a_iload_n dX10_sheet_47 3 rfl rfl ?_
          obtain ⟨r48, s48, e48, hF⟩ := bd_some hF
          refine a_invV hZ.1 (As := [.int a3]) (rest := []) (hZ.2 0 0 (by decide) Nat.one_pos) lk_X10_88 ⟨⟨by decide, by decide⟩, by decide, by decide⟩ rfl (Nat.le_of_ble_eq_true rfl) dX10_sheet_48 (m_X10_unfound hZ  e48) ?_
          show AW Z l iX10_sheet (Pq (rI R)) 0 0 51 [(0, .ref (za Z 0 0)), (1, .int a1), (2, .int a2), (3, .int a3)] [.int r48] s48
          replace hF := Option.some.inj hF
          subst hF
          exact a_iret rfl (Nat.zero_le _) (Nat.zero_le _) dX10_sheet_51 ⟨rfl, rfl⟩
        · replace hF := (if_neg q4).symm.trans hF
          refine a_aload_n dX10_sheet_29 0 rfl rfl ?_
          refine a_iconst (v := (4 : Int32)) dX10_sheet_30 (by decide) ?_
          obtain ⟨r31, s31, e31, hF⟩ := bd_some hF
          refine a_invV hZ.1 (As := [.int (4 : Int32)]) (rest := []) (hZ.2 0 0 (by decide) Nat.one_pos) lk_X10_80 ⟨⟨by decide, by decide⟩, by decide, by decide⟩ rfl (Nat.le_of_ble_eq_true rfl) dX10_sheet_31 (m_X10_found hZ  e31) ?_
          show AW Z l iX10_sheet (Pq (rI R)) 0 0 34 [(0, .ref (za Z 0 0)), (1, .int a1), (2, .int a2), (3, .int a3)] [.int r31] s31
          replace hF := Option.some.inj hF
          subst hF
          exact a_iret rfl (Nat.zero_le _) (Nat.zero_le _) dX10_sheet_34 ⟨rfl, rfl⟩
      · replace hF := (if_neg q3).symm.trans hF
        refine a_ldc (v := (-1000001)) kw_324 dX10_sheet_22 ?_
        replace hF := Option.some.inj hF
        subst hF
        exact a_iret rfl (Nat.zero_le _) (Nat.zero_le _) dX10_sheet_24 ⟨rfl, rfl⟩
theorem m_X10_sheet {Z : ZE} {l : Launch} (hZ : OkX Z) {a1 : Int32} {a2 : Int32} {a3 : Int32}  {s : St} {R : Int32 × St} (hF : F_X10_sheet (zg Z) a1 a2 a3 s = some R) : Sp Z l yX10_sheet iX10_sheet [.ref (za Z 0 0), .int a1, .int a2, .int a3] s (rI R) :=
  Sp.of (by decide) rfl (Nat.le_of_ble_eq_true rfl) (w_X10_sheet hZ  s hF)
-- X1_addShip
set_option maxRecDepth 100000 in
set_option maxHeartbeats 4000000 in
theorem w_X1_addShip {Z : ZE} {l : Launch} (hZ : OkX Z) {a1 : Int32} {a2 : Int32} {a3 : Int32} {a4 : Int32}  {R : Int32 × St}    (s : St) (hF : F_X1_addShip (zg Z) a1 a2 a3 a4  s = some R) : AW Z l iX1_addShip (Pq (rI R)) 0 0 0 [(0, .ref (za Z 4 0)), (1, .int a1), (2, .int a2), (3, .int a3), (4, .int a4)] [] s := by
  unfold F_X1_addShip at hF
  refine a_aload_n dX1_addShip_0 0 rfl rfl ?_
  refine a_getI hZ.1 (s 4 0 10) (hZ.2 4 0 (by decide) Nat.one_pos) fl_X1_49 rfl rfl dX1_addShip_1 ?_
  refine a_bipush (v := (30 : Int32)) dX1_addShip_4 (by decide) ?_
  refine a_icmp_lt 12 dX1_addShip_6 (by decide) (fun q1 => ?_) (fun q1 => ?_)
  · replace hF := (if_pos q1).symm.trans hF
    refine a_aload_n dX1_addShip_12 0 rfl rfl ?_
    refine a_getR hZ.1 (hZ.2 4 0 (by decide) Nat.one_pos) fl_X1_28 rfl 0 rfl dX1_addShip_13 ?_
    refine a_aload_n dX1_addShip_16 0 rfl rfl ?_
    refine a_getI hZ.1 (s 4 0 10) (hZ.2 4 0 (by decide) Nat.one_pos) fl_X1_49 rfl rfl dX1_addShip_17 ?_
    refine a_iload_n dX1_addShip_20 1 rfl rfl ?_
    obtain ⟨p2, hF⟩ := gd_some hF
    refine a_iast hZ.1 (hZ.2 9 0 (by decide) Nat.one_pos) rfl rfl (inb_vp p2) dX1_addShip_21 ?_
    refine a_aload_n dX1_addShip_22 0 rfl rfl ?_
    refine a_getR hZ.1 (hZ.2 4 0 (by decide) Nat.one_pos) fl_X1_31 rfl 0 rfl dX1_addShip_23 ?_
    refine a_aload_n dX1_addShip_26 0 rfl rfl ?_
    refine a_getI hZ.1 (s 4 0 10) (hZ.2 4 0 (by decide) Nat.one_pos) fl_X1_49 rfl rfl dX1_addShip_27 ?_
    refine a_iload_n dX1_addShip_30 2 rfl rfl ?_
    obtain ⟨p3, hF⟩ := gd_some hF
    refine a_iast hZ.1 (hZ.2 10 0 (by decide) Nat.one_pos) rfl rfl (inb_vp p3) dX1_addShip_31 ?_
    refine a_aload_n dX1_addShip_32 0 rfl rfl ?_
    refine a_getR hZ.1 (hZ.2 4 0 (by decide) Nat.one_pos) fl_X1_34 rfl 0 rfl dX1_addShip_33 ?_
    refine a_aload_n dX1_addShip_36 0 rfl rfl ?_
    refine a_getI hZ.1 (s 4 0 10) (hZ.2 4 0 (by decide) Nat.one_pos) fl_X1_49 rfl rfl dX1_addShip_37 ?_
    refine a_iload_n dX1_addShip_40 3 rfl rfl ?_
    obtain ⟨p4, hF⟩ := gd_some hF
    refine a_iast hZ.1 (hZ.2 11 0 (by decide) Nat.one_pos) rfl rfl (inb_vp p4) dX1_addShip_41 ?_
    refine a_aload_n dX1_addShip_42 0 rfl rfl ?_
    refine a_getR hZ.1 (hZ.2 4 0 (by decide) Nat.one_pos) fl_X1_37 rfl 0 rfl dX1_addShip_43 ?_
    refine a_aload_n dX1_addShip_46 0 rfl rfl ?_
    refine a_getI hZ.1 (s 4 0 10) (hZ.2 4 0 (by decide) Nat.one_pos) fl_X1_49 rfl rfl dX1_addShip_47 ?_
    refine a_iload dX1_addShip_50 4 rfl ?_
    obtain ⟨p5, hF⟩ := gd_some hF
    refine a_iast hZ.1 (hZ.2 12 0 (by decide) Nat.one_pos) rfl rfl (inb_vp p5) dX1_addShip_52 ?_
    refine a_aload_n dX1_addShip_53 0 rfl rfl ?_
    refine a_dup dX1_addShip_54 rfl ?_
    refine a_getI hZ.1 (s 4 0 10) (hZ.2 4 0 (by decide) Nat.one_pos) fl_X1_49 rfl rfl dX1_addShip_55 ?_
    refine a_iconst (v := (1 : Int32)) dX1_addShip_58 (by decide) ?_
    refine a_iadd dX1_addShip_59 ?_
    refine a_put hZ.1 (hZ.2 4 0 (by decide) Nat.one_pos) fl_X1_49 rfl rfl rfl dX1_addShip_60 ?_
    refine a_aload_n dX1_addShip_63 0 rfl rfl ?_
    refine a_getI hZ.1 ((s 4 0 10) + (1 : Int32)) (hZ.2 4 0 (by decide) Nat.one_pos) fl_X1_49 rfl (by simp [up]) dX1_addShip_64 ?_
    replace hF := Option.some.inj hF
    subst hF
    exact a_iret rfl (Nat.zero_le _) (Nat.zero_le _) dX1_addShip_67 ⟨rfl, rfl⟩
  · replace hF := (if_neg q1).symm.trans hF
    refine a_ldc (v := (-1000003)) kw_401 dX1_addShip_9 ?_
    replace hF := Option.some.inj hF
    subst hF
    exact a_iret rfl (Nat.zero_le _) (Nat.zero_le _) dX1_addShip_11 ⟨rfl, rfl⟩
theorem m_X1_addShip {Z : ZE} {l : Launch} (hZ : OkX Z) {a1 : Int32} {a2 : Int32} {a3 : Int32} {a4 : Int32}  {s : St} {R : Int32 × St} (hF : F_X1_addShip (zg Z) a1 a2 a3 a4 s = some R) : Sp Z l yX1_addShip iX1_addShip [.ref (za Z 4 0), .int a1, .int a2, .int a3, .int a4] s (rI R) :=
  Sp.of (by decide) rfl (Nat.le_of_ble_eq_true rfl) (w_X1_addShip hZ  s hF)
-- X10_ship
set_option maxRecDepth 100000 in
set_option maxHeartbeats 4000000 in
theorem w_X10_ship {Z : ZE} {l : Launch} (hZ : OkX Z) {a1 : Int32} {a2 : Int32} {a3 : Int32} {a4 : Int32}  {R : Int32 × St}    (s : St) (hF : F_X10_ship (zg Z) a1 a2 a3 a4  s = some R) : AW Z l iX10_ship (Pq (rI R)) 0 0 0 [(0, .ref (za Z 0 0)), (1, .int a1), (2, .int a2), (3, .int a3), (4, .int a4)] [] s := by
  unfold F_X10_ship at hF
  refine a_iload_n dX10_ship_0 1 rfl rfl ?_
  obtain ⟨r1, s1, e1, hF⟩ := bd_some hF
  refine a_invS hZ.1 (As := [.int a1]) (rest := []) lk_X10_142 ⟨⟨by decide, by decide⟩, by decide, by decide⟩ rfl (Nat.le_of_ble_eq_true rfl) dX10_ship_1 (m_X10_isWeek hZ  e1) ?_
  show AW Z l iX10_ship (Pq (rI R)) 0 0 4 [(0, .ref (za Z 0 0)), (1, .int a1), (2, .int a2), (3, .int a3), (4, .int a4)] [.int r1] s1
  refine a_if_eq 35 dX10_ship_4 (by decide) (fun q1 => ?_) (fun q1 => ?_)
  · replace hF := (if_pos q1).symm.trans hF
    refine a_ldc (v := (-1000001)) kw_324 dX10_ship_35 ?_
    replace hF := Option.some.inj hF
    subst hF
    exact a_iret rfl (Nat.zero_le _) (Nat.zero_le _) dX10_ship_37 ⟨rfl, rfl⟩
  · replace hF := (if_neg q1).symm.trans hF
    refine a_iload_n dX10_ship_7 2 rfl rfl ?_
    obtain ⟨r8, s8, e8, hF⟩ := bd_some hF
    refine a_invS hZ.1 (As := [.int a2]) (rest := []) lk_X10_145 ⟨⟨by decide, by decide⟩, by decide, by decide⟩ rfl (Nat.le_of_ble_eq_true rfl) dX10_ship_8 (m_X10_isSort hZ  e8) ?_
    show AW Z l iX10_ship (Pq (rI R)) 0 0 11 [(0, .ref (za Z 0 0)), (1, .int a1), (2, .int a2), (3, .int a3), (4, .int a4)] [.int r8] s8
    refine a_if_eq 35 dX10_ship_11 (by decide) (fun q2 => ?_) (fun q2 => ?_)
    · replace hF := (if_pos q2).symm.trans hF
      refine a_ldc (v := (-1000001)) kw_324 dX10_ship_35 ?_
      replace hF := Option.some.inj hF
      subst hF
      exact a_iret rfl (Nat.zero_le _) (Nat.zero_le _) dX10_ship_37 ⟨rfl, rfl⟩
    · replace hF := (if_neg q2).symm.trans hF
      refine a_iload_n dX10_ship_14 3 rfl rfl ?_
      refine a_iconst (v := (1 : Int32)) dX10_ship_15 (by decide) ?_
      refine a_sipush (v := (500 : Int32)) dX10_ship_16 (by decide) ?_
      obtain ⟨r19, s19, e19, hF⟩ := bd_some hF
      refine a_invS hZ.1 (As := [.int a3, .int (1 : Int32), .int (500 : Int32)]) (rest := []) lk_X10_75 ⟨⟨by decide, by decide⟩, by decide, by decide⟩ rfl (Nat.le_of_ble_eq_true rfl) dX10_ship_19 (m_X10_within hZ  e19) ?_
      show AW Z l iX10_ship (Pq (rI R)) 0 0 22 [(0, .ref (za Z 0 0)), (1, .int a1), (2, .int a2), (3, .int a3), (4, .int a4)] [.int r19] s19
      refine a_if_eq 35 dX10_ship_22 (by decide) (fun q3 => ?_) (fun q3 => ?_)
      · replace hF := (if_pos q3).symm.trans hF
        refine a_ldc (v := (-1000001)) kw_324 dX10_ship_35 ?_
        replace hF := Option.some.inj hF
        subst hF
        exact a_iret rfl (Nat.zero_le _) (Nat.zero_le _) dX10_ship_37 ⟨rfl, rfl⟩
      · replace hF := (if_neg q3).symm.trans hF
        refine a_iload dX10_ship_25 4 rfl ?_
        refine a_iconst (v := (0 : Int32)) dX10_ship_27 (by decide) ?_
        refine a_iconst (v := (1 : Int32)) dX10_ship_28 (by decide) ?_
        obtain ⟨r29, s29, e29, hF⟩ := bd_some hF
        refine a_invS hZ.1 (As := [.int a4, .int (0 : Int32), .int (1 : Int32)]) (rest := []) lk_X10_75 ⟨⟨by decide, by decide⟩, by decide, by decide⟩ rfl (Nat.le_of_ble_eq_true rfl) dX10_ship_29 (m_X10_within hZ  e29) ?_
        show AW Z l iX10_ship (Pq (rI R)) 0 0 32 [(0, .ref (za Z 0 0)), (1, .int a1), (2, .int a2), (3, .int a3), (4, .int a4)] [.int r29] s29
        refine a_if_ne 38 dX10_ship_32 (by decide) (fun q4 => ?_) (fun q4 => ?_)
        · replace hF := (if_neg q4).symm.trans hF
          refine a_aload_n dX10_ship_38 0 rfl rfl ?_
          refine a_getR hZ.1 (hZ.2 0 0 (by decide) Nat.one_pos) fl_X10_18 rfl 0 rfl dX10_ship_39 ?_
          refine a_iload_n dX10_ship_42 1 rfl rfl ?_
          refine a_iload_n dX10_ship_43 2 rfl rfl ?_
          refine a_iload_n dX10_ship_44 3 rfl rfl ?_
          refine a_iload dX10_ship_45 4 rfl ?_
          obtain ⟨r47, s47, e47, hF⟩ := bd_some hF
          refine a_invV hZ.1 (As := [.int a1, .int a2, .int a3, .int a4]) (rest := []) (hZ.2 4 0 (by decide) Nat.one_pos) lk_X10_148 ⟨⟨by decide, by decide⟩, by decide, by decide⟩ rfl (Nat.le_of_ble_eq_true rfl) dX10_ship_47 (m_X1_addShip hZ  e47) ?_
          show AW Z l iX10_ship (Pq (rI R)) 0 0 50 [(0, .ref (za Z 0 0)), (1, .int a1), (2, .int a2), (3, .int a3), (4, .int a4)] [.int r47] s47
          replace hF := Option.some.inj hF
          subst hF
          exact a_iret rfl (Nat.zero_le _) (Nat.zero_le _) dX10_ship_50 ⟨rfl, rfl⟩
        · replace hF := (if_pos q4).symm.trans hF
          refine a_ldc (v := (-1000001)) kw_324 dX10_ship_35 ?_
          replace hF := Option.some.inj hF
          subst hF
          exact a_iret rfl (Nat.zero_le _) (Nat.zero_le _) dX10_ship_37 ⟨rfl, rfl⟩
theorem m_X10_ship {Z : ZE} {l : Launch} (hZ : OkX Z) {a1 : Int32} {a2 : Int32} {a3 : Int32} {a4 : Int32}  {s : St} {R : Int32 × St} (hF : F_X10_ship (zg Z) a1 a2 a3 a4 s = some R) : Sp Z l yX10_ship iX10_ship [.ref (za Z 0 0), .int a1, .int a2, .int a3, .int a4] s (rI R) :=
  Sp.of (by decide) rfl (Nat.le_of_ble_eq_true rfl) (w_X10_ship hZ  s hF)
-- X10_status
set_option maxRecDepth 100000 in
set_option maxHeartbeats 4000000 in
theorem w_X10_status {Z : ZE} {l : Launch} (hZ : OkX Z)   {R : Int32 × St}    (s : St) (hF : F_X10_status (zg Z)   s = some R) : AW Z l iX10_status (Pq (rI R)) 0 0 0 [(0, .ref (za Z 0 0))] [] s := by
  unfold F_X10_status at hF
  refine a_aload_n dX10_status_0 0 rfl rfl ?_
  refine a_getI hZ.1 (s 0 0 10) (hZ.2 0 0 (by decide) Nat.one_pos) fl_X10_313 rfl rfl dX10_status_1 ?_
  replace hF := Option.some.inj hF
  subst hF
  exact a_iret rfl (Nat.zero_le _) (Nat.zero_le _) dX10_status_4 ⟨rfl, rfl⟩
theorem m_X10_status {Z : ZE} {l : Launch} (hZ : OkX Z)   {s : St} {R : Int32 × St} (hF : F_X10_status (zg Z)  s = some R) : Sp Z l yX10_status iX10_status [.ref (za Z 0 0)] s (rI R) :=
  Sp.of (by decide) rfl (Nat.le_of_ble_eq_true rfl) (w_X10_status hZ  s hF)
-- X10_step
set_option maxRecDepth 100000 in
set_option maxHeartbeats 4000000 in
theorem w_X10_step_30 {Z : ZE} {l : Launch} (hZ : OkX Z) {a1 : Int32}  {R : Int32 × St}  : ∀ (n_ : Nat) (v2 : Int32) (v3 : Int32)  (s : St), F_X10_step_30 (zg Z) a1 n_ v2 v3 s = some R → AW Z l iX10_step (Pq (rI R)) 0 0 30 [(0, .ref (za Z 0 0)), (2, .int v2), (3, .int v3)] [] s := by
  intro n_
  induction n_ with
  | zero =>
    intro v2 v3 s hF
    exact absurd hF (by rw [F_X10_step_30]; exact fun q => by cases q)
  | succ n_ w30_ =>
    intro v2 v3 s hF
    rw [F_X10_step_30] at hF
    refine a_iload_n dX10_step_30 2 rfl rfl ?_
    refine a_iload_n dX10_step_31 1 rfl rfl ?_
    refine a_icmp_ge 45 dX10_step_32 (by decide) (fun q1 => ?_) (fun q1 => ?_)
    · replace hF := (if_pos q1).symm.trans hF
      refine a_iload_n dX10_step_45 1 rfl rfl ?_
      replace hF := Option.some.inj hF
      subst hF
      exact a_iret rfl (Nat.zero_le _) (Nat.zero_le _) dX10_step_46 ⟨rfl, rfl⟩
    · replace hF := (if_neg q1).symm.trans hF
      refine a_aload_n dX10_step_35 0 rfl rfl ?_
      obtain ⟨r36, s36, e36, hF⟩ := bd_some hF
      refine a_invV hZ.1 (As := []) (rest := []) (hZ.2 0 0 (by decide) Nat.one_pos) lk_X10_181 ⟨⟨by decide, by decide⟩, by decide, by decide⟩ rfl (Nat.le_of_ble_eq_true rfl) dX10_step_36 (m_X10_passWeek hZ  e36) ?_
      show AW Z l iX10_step (Pq (rI R)) 0 0 39 [(0, .ref (za Z 0 0)), (2, .int v2), (3, .int v3)] [] s36
      refine a_iinc [(3, .int (v3 + 1)), (0, .ref (za Z 0 0)), (2, .int v2)] dX10_step_39 2 rfl rfl (by decide) rfl ?_
      refine a_goto 30 dX10_step_42 (by decide) ?_
      refine a_loc [(0, .ref (za Z 0 0)), (2, .int v2), (3, .int (v3 + 1))] [1, 2, 0] rfl ?_
      exact w30_ v2 (v3 + 1)  _ hF
set_option maxRecDepth 100000 in
set_option maxHeartbeats 4000000 in
theorem w_X10_step {Z : ZE} {l : Launch} (hZ : OkX Z) {a1 : Int32}  {R : Int32 × St}    (s : St) (hF : F_X10_step (zg Z) a1  s = some R) : AW Z l iX10_step (Pq (rI R)) 0 0 0 [(0, .ref (za Z 0 0)), (1, .int a1)] [] s := by
  unfold F_X10_step at hF
  refine a_iload_n dX10_step_0 1 rfl rfl ?_
  refine a_iconst (v := (1 : Int32)) dX10_step_1 (by decide) ?_
  refine a_bipush (v := (20 : Int32)) dX10_step_2 (by decide) ?_
  obtain ⟨r4, s4, e4, hF⟩ := bd_some hF
  refine a_invS hZ.1 (As := [.int a1, .int (1 : Int32), .int (20 : Int32)]) (rest := []) lk_X10_75 ⟨⟨by decide, by decide⟩, by decide, by decide⟩ rfl (Nat.le_of_ble_eq_true rfl) dX10_step_4 (m_X10_within hZ  e4) ?_
  show AW Z l iX10_step (Pq (rI R)) 0 0 7 [(0, .ref (za Z 0 0)), (1, .int a1)] [.int r4] s4
  refine a_if_ne 13 dX10_step_7 (by decide) (fun q1 => ?_) (fun q1 => ?_)
  · replace hF := (if_neg q1).symm.trans hF
    refine a_iload_n dX10_step_13 1 rfl rfl ?_
    refine a_bipush (v := (100 : Int32)) dX10_step_14 (by decide) ?_
    refine a_aload_n dX10_step_16 0 rfl rfl ?_
    refine a_getR hZ.1 (hZ.2 0 0 (by decide) Nat.one_pos) fl_X10_18 rfl 0 rfl dX10_step_17 ?_
    refine a_getI hZ.1 (s4 4 0 13) (hZ.2 4 0 (by decide) Nat.one_pos) fl_X10_173 rfl rfl dX10_step_20 ?_
    refine a_isub dX10_step_23 ?_
    refine a_mmin kw_472 kw_473 kw_14 kw_474 ⟨by decide, Nat.le_of_ble_eq_true rfl, Nat.zero_le _, Nat.zero_le _⟩ dX10_step_24 ?_
    refine a_istore_n [(2, .int (if ((100 : Int32) - (s4 4 0 13)) < a1 then ((100 : Int32) - (s4 4 0 13)) else a1)), (0, .ref (za Z 0 0)), (1, .int a1)] dX10_step_27 rfl (by decide) rfl ?_
    refine a_iconst (v := (0 : Int32)) dX10_step_28 (by decide) ?_
    refine a_istore_n [(3, .int (0 : Int32)), (2, .int (if ((100 : Int32) - (s4 4 0 13)) < a1 then ((100 : Int32) - (s4 4 0 13)) else a1)), (0, .ref (za Z 0 0)), (1, .int a1)] dX10_step_29 rfl (by decide) rfl ?_
    refine a_loc [(0, .ref (za Z 0 0)), (2, .int (if ((100 : Int32) - (s4 4 0 13)) < a1 then ((100 : Int32) - (s4 4 0 13)) else a1)), (3, .int (0 : Int32))] [2, 1, 0] rfl ?_
    exact w_X10_step_30 (l := l) hZ   fu (if ((100 : Int32) - (s4 4 0 13)) < a1 then ((100 : Int32) - (s4 4 0 13)) else a1) (0 : Int32)  _ hF
  · replace hF := (if_pos q1).symm.trans hF
    refine a_ldc (v := (-1000001)) kw_324 dX10_step_10 ?_
    replace hF := Option.some.inj hF
    subst hF
    exact a_iret rfl (Nat.zero_le _) (Nat.zero_le _) dX10_step_12 ⟨rfl, rfl⟩
theorem m_X10_step {Z : ZE} {l : Launch} (hZ : OkX Z) {a1 : Int32}  {s : St} {R : Int32 × St} (hF : F_X10_step (zg Z) a1 s = some R) : Sp Z l yX10_step iX10_step [.ref (za Z 0 0), .int a1] s (rI R) :=
  Sp.of (by decide) rfl (Nat.le_of_ble_eq_true rfl) (w_X10_step hZ  s hF)
-- X10_stock
set_option maxRecDepth 100000 in
set_option maxHeartbeats 4000000 in
theorem w_X10_stock {Z : ZE} {l : Launch} (hZ : OkX Z) {a1 : Int32} {a2 : Int32} {a3 : Int32}  {R : Int32 × St}    (s : St) (hF : F_X10_stock (zg Z) a1 a2 a3  s = some R) : AW Z l iX10_stock (Pq (rI R)) 0 0 0 [(0, .ref (za Z 0 0)), (1, .int a1), (2, .int a2), (3, .int a3)] [] s := by
  unfold F_X10_stock at hF
  refine a_aload_n dX10_stock_0 0 rfl rfl ?_
  refine a_getR hZ.1 (hZ.2 0 0 (by decide) Nat.one_pos) fl_X10_18 rfl 0 rfl dX10_stock_1 ?_
  refine a_iload_n dX10_stock_4 1 rfl rfl ?_
  obtain ⟨r5, s5, e5, hF⟩ := bd_some hF
  refine a_invV hZ.1 (As := [.int a1]) (rest := []) (hZ.2 4 0 (by decide) Nat.one_pos) lk_X10_155 ⟨⟨by decide, by decide⟩, by decide, by decide⟩ rfl (Nat.le_of_ble_eq_true rfl) dX10_stock_5 (m_X1_hasMill hZ  e5) ?_
  show AW Z l iX10_stock (Pq (rI R)) 0 0 8 [(0, .ref (za Z 0 0)), (1, .int a1), (2, .int a2), (3, .int a3)] [.int r5] s5
  refine a_if_eq 29 dX10_stock_8 (by decide) (fun q1 => ?_) (fun q1 => ?_)
  · replace hF := (if_pos q1).symm.trans hF
    refine a_ldc (v := (-1000001)) kw_324 dX10_stock_29 ?_
    replace hF := Option.some.inj hF
    subst hF
    exact a_iret rfl (Nat.zero_le _) (Nat.zero_le _) dX10_stock_31 ⟨rfl, rfl⟩
  · replace hF := (if_neg q1).symm.trans hF
    refine a_iload_n dX10_stock_11 2 rfl rfl ?_
    obtain ⟨r12, s12, e12, hF⟩ := bd_some hF
    refine a_invS hZ.1 (As := [.int a2]) (rest := []) lk_X10_145 ⟨⟨by decide, by decide⟩, by decide, by decide⟩ rfl (Nat.le_of_ble_eq_true rfl) dX10_stock_12 (m_X10_isSort hZ  e12) ?_
    show AW Z l iX10_stock (Pq (rI R)) 0 0 15 [(0, .ref (za Z 0 0)), (1, .int a1), (2, .int a2), (3, .int a3)] [.int r12] s12
    refine a_if_eq 29 dX10_stock_15 (by decide) (fun q2 => ?_) (fun q2 => ?_)
    · replace hF := (if_pos q2).symm.trans hF
      refine a_ldc (v := (-1000001)) kw_324 dX10_stock_29 ?_
      replace hF := Option.some.inj hF
      subst hF
      exact a_iret rfl (Nat.zero_le _) (Nat.zero_le _) dX10_stock_31 ⟨rfl, rfl⟩
    · replace hF := (if_neg q2).symm.trans hF
      refine a_iload_n dX10_stock_18 3 rfl rfl ?_
      refine a_iconst (v := (0 : Int32)) dX10_stock_19 (by decide) ?_
      refine a_sipush (v := (9999 : Int32)) dX10_stock_20 (by decide) ?_
      obtain ⟨r23, s23, e23, hF⟩ := bd_some hF
      refine a_invS hZ.1 (As := [.int a3, .int (0 : Int32), .int (9999 : Int32)]) (rest := []) lk_X10_75 ⟨⟨by decide, by decide⟩, by decide, by decide⟩ rfl (Nat.le_of_ble_eq_true rfl) dX10_stock_23 (m_X10_within hZ  e23) ?_
      show AW Z l iX10_stock (Pq (rI R)) 0 0 26 [(0, .ref (za Z 0 0)), (1, .int a1), (2, .int a2), (3, .int a3)] [.int r23] s23
      refine a_if_ne 32 dX10_stock_26 (by decide) (fun q3 => ?_) (fun q3 => ?_)
      · replace hF := (if_neg q3).symm.trans hF
        refine a_aload_n dX10_stock_32 0 rfl rfl ?_
        refine a_getR hZ.1 (hZ.2 0 0 (by decide) Nat.one_pos) fl_X10_18 rfl 0 rfl dX10_stock_33 ?_
        refine a_getR hZ.1 (hZ.2 4 0 (by decide) Nat.one_pos) fl_X10_158 rfl 0 rfl dX10_stock_36 ?_
        refine a_iload_n dX10_stock_39 1 rfl rfl ?_
        obtain ⟨p4, hF⟩ := gd_some hF
        obtain ⟨p5, hF⟩ := gd_some hF
        refine a_aald hZ.1 (hZ.2 13 0 (by decide) Nat.one_pos) rfl rfl rfl rfl (inb_vp p4) (ltb_lt p5) dX10_stock_40 ?_
        refine a_getR hZ.1 (hZ.2 14 a1.toNatClampNeg (by decide) (ltb_lt p5)) fl_X10_162 rfl a1.toNatClampNeg rfl dX10_stock_41 ?_
        refine a_iload_n dX10_stock_44 2 rfl rfl ?_
        refine a_iload_n dX10_stock_45 3 rfl rfl ?_
        obtain ⟨r46, s46, e46, hF⟩ := bd_some hF
        refine a_invS hZ.1 (As := [.ref (za Z 15 a1.toNatClampNeg), .int a2, .int a3]) (rest := []) lk_X10_167 ⟨⟨by decide, by decide⟩, by decide, by decide⟩ rfl (Nat.le_of_ble_eq_true rfl) dX10_stock_46 (m_X10_changed hZ (hZ.2 15 a1.toNatClampNeg (by decide) (ltb_lt p5)) rfl rfl e46) ?_
        show AW Z l iX10_stock (Pq (rI R)) 0 0 49 [(0, .ref (za Z 0 0)), (1, .int a1), (2, .int a2), (3, .int a3)] [.int r46] s46
        replace hF := Option.some.inj hF
        subst hF
        exact a_iret rfl (Nat.zero_le _) (Nat.zero_le _) dX10_stock_49 ⟨rfl, rfl⟩
      · replace hF := (if_pos q3).symm.trans hF
        refine a_ldc (v := (-1000001)) kw_324 dX10_stock_29 ?_
        replace hF := Option.some.inj hF
        subst hF
        exact a_iret rfl (Nat.zero_le _) (Nat.zero_le _) dX10_stock_31 ⟨rfl, rfl⟩
theorem m_X10_stock {Z : ZE} {l : Launch} (hZ : OkX Z) {a1 : Int32} {a2 : Int32} {a3 : Int32}  {s : St} {R : Int32 × St} (hF : F_X10_stock (zg Z) a1 a2 a3 s = some R) : Sp Z l yX10_stock iX10_stock [.ref (za Z 0 0), .int a1, .int a2, .int a3] s (rI R) :=
  Sp.of (by decide) rfl (Nat.le_of_ble_eq_true rfl) (w_X10_stock hZ  s hF)
-- X1_changeCloth
set_option maxRecDepth 100000 in
set_option maxHeartbeats 4000000 in
theorem w_X1_changeCloth {Z : ZE} {l : Launch} (hZ : OkX Z) {a1 : Int32}  {R : Int32 × St}    (s : St) (hF : F_X1_changeCloth (zg Z) a1  s = some R) : AW Z l iX1_changeCloth (Pq (rI R)) 0 0 0 [(0, .ref (za Z 4 0)), (1, .int a1)] [] s := by
  unfold F_X1_changeCloth at hF
  refine a_aload_n dX1_changeCloth_0 0 rfl rfl ?_
  refine a_getI hZ.1 (s 4 0 4) (hZ.2 4 0 (by decide) Nat.one_pos) fl_X1_24 rfl rfl dX1_changeCloth_1 ?_
  refine a_istore_n [(2, .int (s 4 0 4)), (0, .ref (za Z 4 0)), (1, .int a1)] dX1_changeCloth_4 rfl (by decide) rfl ?_
  refine a_aload_n dX1_changeCloth_5 1 rfl rfl ?_
  refine a_iload_n dX1_changeCloth_6 2 rfl rfl ?_
  refine a_put hZ.1 (hZ.2 4 0 (by decide) Nat.one_pos) fl_X1_24 rfl rfl rfl dX1_changeCloth_7 ?_
  refine a_iload_n dX1_changeCloth_10 0 rfl rfl ?_
  replace hF := Option.some.inj hF
  subst hF
  exact a_iret rfl (Nat.zero_le _) (Nat.zero_le _) dX1_changeCloth_11 ⟨rfl, rfl⟩
theorem m_X1_changeCloth {Z : ZE} {l : Launch} (hZ : OkX Z) {a1 : Int32}  {s : St} {R : Int32 × St} (hF : F_X1_changeCloth (zg Z) a1 s = some R) : Sp Z l yX1_changeCloth iX1_changeCloth [.ref (za Z 4 0), .int a1] s (rI R) :=
  Sp.of (by decide) rfl (Nat.le_of_ble_eq_true rfl) (w_X1_changeCloth hZ  s hF)
-- X1_changeFear
set_option maxRecDepth 100000 in
set_option maxHeartbeats 4000000 in
theorem w_X1_changeFear {Z : ZE} {l : Launch} (hZ : OkX Z) {a1 : Int32}  {R : Int32 × St}    (s : St) (hF : F_X1_changeFear (zg Z) a1  s = some R) : AW Z l iX1_changeFear (Pq (rI R)) 0 0 0 [(0, .ref (za Z 4 0)), (1, .int a1)] [] s := by
  unfold F_X1_changeFear at hF
  refine a_aload_n dX1_changeFear_0 0 rfl rfl ?_
  refine a_getI hZ.1 (s 4 0 5) (hZ.2 4 0 (by decide) Nat.one_pos) fl_X1_46 rfl rfl dX1_changeFear_1 ?_
  refine a_istore_n [(2, .int (s 4 0 5)), (0, .ref (za Z 4 0)), (1, .int a1)] dX1_changeFear_4 rfl (by decide) rfl ?_
  refine a_aload_n dX1_changeFear_5 1 rfl rfl ?_
  refine a_iload_n dX1_changeFear_6 2 rfl rfl ?_
  refine a_put hZ.1 (hZ.2 4 0 (by decide) Nat.one_pos) fl_X1_46 rfl rfl rfl dX1_changeFear_7 ?_
  refine a_iload_n dX1_changeFear_10 0 rfl rfl ?_
  replace hF := Option.some.inj hF
  subst hF
  exact a_iret rfl (Nat.zero_le _) (Nat.zero_le _) dX1_changeFear_11 ⟨rfl, rfl⟩
theorem m_X1_changeFear {Z : ZE} {l : Launch} (hZ : OkX Z) {a1 : Int32}  {s : St} {R : Int32 × St} (hF : F_X1_changeFear (zg Z) a1 s = some R) : Sp Z l yX1_changeFear iX1_changeFear [.ref (za Z 4 0), .int a1] s (rI R) :=
  Sp.of (by decide) rfl (Nat.le_of_ble_eq_true rfl) (w_X1_changeFear hZ  s hF)
