-- X11_isWeek
def F_X11_isWeek (g : Nat × Nat) (a0 : Int32)   (s : St) : Option (Int32 × St) := (bd (F_X11_in g a0.toInt64 (0 : Int64) (99 : Int64) s) (fun r6 s6 => (gd (isb r6) (some (r6, s6)))))
set_option maxRecDepth 100000 in
set_option maxHeartbeats 4000000 in
theorem w_X11_isWeek {Z : ZE} {l : Launch} (hZ : OkM Z) {a0 : Int32}  {R : Int32 × St}    (s : St) (hF : F_X11_isWeek (zg Z) a0  s = some R) : AW Z l iX11_isWeek (Pq (rI R)) 0 0 0 [(0, .int a0)] [] s := by
  unfold F_X11_isWeek at hF
  refine a_iload_n dX11_isWeek_0 0 rfl rfl ?_
  refine a_i2l dX11_isWeek_1 ?_
  refine a_lconst (v := (0 : Int64)) dX11_isWeek_2 (by decide) ?_
  refine a_ldc2 (v := (99 : Int64)) kw_1164 dX11_isWeek_3 ?_
  obtain ⟨r6, s6, e6, hF⟩ := bd_some hF
  refine a_invS hZ.1 (As := [.long a0.toInt64, .long (0 : Int64), .long (99 : Int64)]) (rest := []) lk_X11_126 ⟨⟨by decide, by decide⟩, by decide, by decide⟩ rfl (Nat.le_of_ble_eq_true rfl) dX11_isWeek_6 (m_X11_in hZ  e6) ?_
  show AW Z l iX11_isWeek (Pq (rI R)) 0 0 9 [(0, .int a0)] [.int r6] s6
  obtain ⟨b1, hF⟩ := gd_some hF
  replace hF := Option.some.inj hF
  subst hF
  exact a_zret rfl (isb_n b1) (Nat.zero_le _) (Nat.zero_le _) dX11_isWeek_9 ⟨rfl, rfl⟩
theorem m_X11_isWeek {Z : ZE} {l : Launch} (hZ : OkM Z) {a0 : Int32}  {s : St} {R : Int32 × St} (hF : F_X11_isWeek (zg Z) a0 s = some R) : Sp Z l yX11_isWeek iX11_isWeek [.int a0] s (rI R) :=
  Sp.of (by decide) rfl (Nat.le_of_ble_eq_true rfl) (w_X11_isWeek hZ  s hF)
-- X11_first
def F_X11_first (g : Nat × Nat) (a1 : Int32) (a2 : Int32)   (s : St) : Option (Int32 × St) := (bd (F_X11_isWeek g a1 (up s 60 0 0 (0 : Int32))) (fun r6 s6 => (if r6 = 0 then (some ((-1000001), s6)) else (bd (F_X11_findFirst g a1 s6) (fun r17 s17 => (bd (F_X11_in g a2.toInt64 (0 : Int64) (((s17 60 0 40) - (1 : Int32)).toInt64) s17) (fun r31 s31 => (if r31 = 0 then (some ((-1000000), s31)) else (gd (inb a2 4) (some ((s31 83 0 a2.toNatClampNeg), s31)))))))))))
set_option maxRecDepth 100000 in
set_option maxHeartbeats 4000000 in
theorem w_X11_first {Z : ZE} {l : Launch} (hZ : OkM Z) {a1 : Int32} {a2 : Int32}  {R : Int32 × St}    (s : St) (hF : F_X11_first (zg Z) a1 a2  s = some R) : AW Z l iX11_first (Pq (rI R)) 0 0 0 [(0, .ref (za Z 60 0)), (1, .int a1), (2, .int a2)] [] s := by
  unfold F_X11_first at hF
  refine a_aload_n dX11_first_0 0 rfl rfl ?_
  refine a_iconst (v := (0 : Int32)) dX11_first_1 (by decide) ?_
  refine a_put hZ.1 (hZ.2 60 0 (by decide) (by decide) Nat.one_pos) fl_X11_1 rfl rfl rfl dX11_first_2 ?_
  refine a_iload_n dX11_first_5 1 rfl rfl ?_
  obtain ⟨r6, s6, e6, hF⟩ := bd_some hF
  refine a_invS hZ.1 (As := [.int a1]) (rest := []) lk_X11_164 ⟨⟨by decide, by decide⟩, by decide, by decide⟩ rfl (Nat.le_of_ble_eq_true rfl) dX11_first_6 (m_X11_isWeek hZ  e6) ?_
  show AW Z l iX11_first (Pq (rI R)) 0 0 9 [(0, .ref (za Z 60 0)), (1, .int a1), (2, .int a2)] [.int r6] s6
  refine a_if_ne 15 dX11_first_9 (by decide) (fun c1 => ?_) (fun c1 => ?_)
  · replace hF := (if_neg c1).symm.trans hF
    refine a_aload_n dX11_first_15 0 rfl rfl ?_
    refine a_iload_n dX11_first_16 1 rfl rfl ?_
    obtain ⟨r17, s17, e17, hF⟩ := bd_some hF
    refine a_invV hZ.1 (As := [.int a1]) (rest := []) (hZ.2 60 0 (by decide) (by decide) Nat.one_pos) lk_X11_305 ⟨⟨by decide, by decide⟩, by decide, by decide⟩ rfl (Nat.le_of_ble_eq_true rfl) dX11_first_17 (m_X11_findFirst hZ  e17) ?_
    show AW Z l iX11_first (Pq (rI R)) 0 0 20 [(0, .ref (za Z 60 0)), (1, .int a1), (2, .int a2)] [.int r17] s17
    refine a_istore_n [(3, .int r17), (0, .ref (za Z 60 0)), (1, .int a1), (2, .int a2)] dX11_first_20 rfl (by decide) rfl ?_
    refine a_iload_n dX11_first_21 3 rfl rfl ?_
    refine a_i2l dX11_first_22 ?_
    refine a_lconst (v := (0 : Int64)) dX11_first_23 (by decide) ?_
    refine a_aload_n dX11_first_24 1 rfl rfl ?_
    refine a_getI hZ.1 (s17 60 0 40) (hZ.2 60 0 (by decide) (by decide) Nat.one_pos) fl_X11_302 rfl rfl dX11_first_25 ?_
    refine a_iconst (v := (1 : Int32)) dX11_first_28 (by decide) ?_
    refine a_isub dX11_first_29 ?_
    refine a_i2l dX11_first_30 ?_
    obtain ⟨r31, s31, e31, hF⟩ := bd_some hF
    refine a_invS hZ.1 (As := [.long a2.toInt64, .long (0 : Int64), .long ((s17 60 0 40) - (1 : Int32)).toInt64]) (rest := []) lk_X11_126 ⟨⟨by decide, by decide⟩, by decide, by decide⟩ rfl (Nat.le_of_ble_eq_true rfl) dX11_first_31 (m_X11_in hZ  e31) ?_
    show AW Z l iX11_first (Pq (rI R)) 0 0 34 [(3, .int r17), (0, .ref (za Z 60 0)), (1, .int a1), (2, .int a2)] [.int r31] s31
    refine a_if_eq 46 dX11_first_34 (by decide) (fun c2 => ?_) (fun c2 => ?_)
    · replace hF := (if_pos c2).symm.trans hF
      refine a_ldc (v := (-1000000)) kw_951 dX11_first_46 ?_
      replace hF := Option.some.inj hF
      subst hF
      exact a_iret rfl (Nat.zero_le _) (Nat.zero_le _) dX11_first_48 ⟨rfl, rfl⟩
    · replace hF := (if_neg c2).symm.trans hF
      refine a_aload_n dX11_first_37 1 rfl rfl ?_
      refine a_getR hZ.1 (hZ.2 60 0 (by decide) (by decide) Nat.one_pos) fl_X11_88 rfl 0 rfl dX11_first_38 ?_
      refine a_iload_n dX11_first_41 3 rfl rfl ?_
      obtain ⟨b3, hF⟩ := gd_some hF
      refine a_iald hZ.1 (s31 83 0 a2.toNatClampNeg) (hZ.2 83 0 (by decide) (by decide) Nat.one_pos) rfl rfl (inb_vp b3) rfl dX11_first_42 ?_
      refine a_goto 48 dX11_first_43 (by decide) ?_
      replace hF := Option.some.inj hF
      subst hF
      exact a_iret rfl (Nat.zero_le _) (Nat.zero_le _) dX11_first_48 ⟨rfl, rfl⟩
  · replace hF := (if_pos c1).symm.trans hF
    refine a_ldc (v := (-1000001)) kw_1136 dX11_first_12 ?_
    replace hF := Option.some.inj hF
    subst hF
    exact a_iret rfl (Nat.zero_le _) (Nat.zero_le _) dX11_first_14 ⟨rfl, rfl⟩
theorem m_X11_first {Z : ZE} {l : Launch} (hZ : OkM Z) {a1 : Int32} {a2 : Int32}  {s : St} {R : Int32 × St} (hF : F_X11_first (zg Z) a1 a2 s = some R) : Sp Z l yX11_first iX11_first [.ref (za Z 60 0), .int a1, .int a2] s (rI R) :=
  Sp.of (by decide) rfl (Nat.le_of_ble_eq_true rfl) (w_X11_first hZ  s hF)
-- X11_holds
def F_X11_holds (g : Nat × Nat) (a1 : Int32) (a2 : Int32)   (s : St) : Option (Int32 × St) := (bd (F_X11_isWeek g a1 (up s 60 0 0 (0 : Int32))) (fun r6 s6 => (if r6 = 0 then (some ((-1000001), s6)) else (bd (F_X11_in g a2.toInt64 (0 : Int64) (3 : Int64) s6) (fun r21 s21 => (if r21 = 0 then (if a2 = (4 : Int32) then (bd (F_X11_numberFor g a1 (1 : Int32) (0 : Int32) s21) (fun r46 s46 => (some (r46, s46)))) else (if a2 = (5 : Int32) then (bd (F_X11_numberFor g a1 (2 : Int32) (0 : Int32) s21) (fun r61 s61 => (some (r61, s61)))) else (if a2 = (6 : Int32) then (bd (F_X11_numberFor g a1 (3 : Int32) (0 : Int32) s21) (fun r77 s77 => (some (r77, s77)))) else (if a2 = (7 : Int32) then (bd (F_X11_findFirst g a1 s21) (fun r91 s91 => (some (r91, s91)))) else (bd (F_X11_in g a2.toInt64 (10 : Int64) (13 : Int64) s21) (fun r105 s105 => (if r105 = 0 then (some ((-1000001), s105)) else (bd (F_X11_earnOn g (a2 - (10 : Int32)) a1 s105) (fun r117 s117 => (some (r117, s117))))))))))) else (bd (F_X11_numberFor g a1 (0 : Int32) a2 s21) (fun r31 s31 => (some (r31, s31))))))))))
set_option maxRecDepth 100000 in
set_option maxHeartbeats 4000000 in
theorem w_X11_holds {Z : ZE} {l : Launch} (hZ : OkM Z) {a1 : Int32} {a2 : Int32}  {R : Int32 × St}    (s : St) (hF : F_X11_holds (zg Z) a1 a2  s = some R) : AW Z l iX11_holds (Pq (rI R)) 0 0 0 [(0, .ref (za Z 60 0)), (1, .int a1), (2, .int a2)] [] s := by
  unfold F_X11_holds at hF
  refine a_aload_n dX11_holds_0 0 rfl rfl ?_
  refine a_iconst (v := (0 : Int32)) dX11_holds_1 (by decide) ?_
  refine a_put hZ.1 (hZ.2 60 0 (by decide) (by decide) Nat.one_pos) fl_X11_1 rfl rfl rfl dX11_holds_2 ?_
  refine a_iload_n dX11_holds_5 1 rfl rfl ?_
  obtain ⟨r6, s6, e6, hF⟩ := bd_some hF
  refine a_invS hZ.1 (As := [.int a1]) (rest := []) lk_X11_164 ⟨⟨by decide, by decide⟩, by decide, by decide⟩ rfl (Nat.le_of_ble_eq_true rfl) dX11_holds_6 (m_X11_isWeek hZ  e6) ?_
  show AW Z l iX11_holds (Pq (rI R)) 0 0 9 [(0, .ref (za Z 60 0)), (1, .int a1), (2, .int a2)] [.int r6] s6
  refine a_if_ne 15 dX11_holds_9 (by decide) (fun c1 => ?_) (fun c1 => ?_)
  · replace hF := (if_neg c1).symm.trans hF
    refine a_iload_n dX11_holds_15 2 rfl rfl ?_
    refine a_i2l dX11_holds_16 ?_
    refine a_lconst (v := (0 : Int64)) dX11_holds_17 (by decide) ?_
    refine a_ldc2 (v := (3 : Int64)) kw_1162 dX11_holds_18 ?_
    obtain ⟨r21, s21, e21, hF⟩ := bd_some hF
    refine a_invS hZ.1 (As := [.long a2.toInt64, .long (0 : Int64), .long (3 : Int64)]) (rest := []) lk_X11_126 ⟨⟨by decide, by decide⟩, by decide, by decide⟩ rfl (Nat.le_of_ble_eq_true rfl) dX11_holds_21 (m_X11_in hZ  e21) ?_
    show AW Z l iX11_holds (Pq (rI R)) 0 0 24 [(0, .ref (za Z 60 0)), (1, .int a1), (2, .int a2)] [.int r21] s21
    refine a_if_eq 37 dX11_holds_24 (by decide) (fun c2 => ?_) (fun c2 => ?_)
    · replace hF := (if_pos c2).symm.trans hF
      refine a_iload_n dX11_holds_37 2 rfl rfl ?_
      refine a_iconst (v := (4 : Int32)) dX11_holds_38 (by decide) ?_
      refine a_icmp_ne 52 dX11_holds_39 (by decide) (fun c3 => ?_) (fun c3 => ?_)
      · replace hF := (if_neg c3).symm.trans hF
        refine a_iload_n dX11_holds_52 2 rfl rfl ?_
        refine a_iconst (v := (5 : Int32)) dX11_holds_53 (by decide) ?_
        refine a_icmp_ne 67 dX11_holds_54 (by decide) (fun c4 => ?_) (fun c4 => ?_)
        · replace hF := (if_neg c4).symm.trans hF
          refine a_iload_n dX11_holds_67 2 rfl rfl ?_
          refine a_bipush (v := (6 : Int32)) dX11_holds_68 (by decide) ?_
          refine a_icmp_ne 83 dX11_holds_70 (by decide) (fun c5 => ?_) (fun c5 => ?_)
          · replace hF := (if_neg c5).symm.trans hF
            refine a_iload_n dX11_holds_83 2 rfl rfl ?_
            refine a_bipush (v := (7 : Int32)) dX11_holds_84 (by decide) ?_
            refine a_icmp_ne 97 dX11_holds_86 (by decide) (fun c6 => ?_) (fun c6 => ?_)
            · replace hF := (if_neg c6).symm.trans hF
              refine a_iload_n dX11_holds_97 2 rfl rfl ?_
              refine a_i2l dX11_holds_98 ?_
              refine a_ldc2 (v := (10 : Int64)) kw_1315 dX11_holds_99 ?_
              refine a_ldc2 (v := (13 : Int64)) kw_1316 dX11_holds_102 ?_
              obtain ⟨r105, s105, e105, hF⟩ := bd_some hF
              refine a_invS hZ.1 (As := [.long a2.toInt64, .long (10 : Int64), .long (13 : Int64)]) (rest := []) lk_X11_126 ⟨⟨by decide, by decide⟩, by decide, by decide⟩ rfl (Nat.le_of_ble_eq_true rfl) dX11_holds_105 (m_X11_in hZ  e105) ?_
              show AW Z l iX11_holds (Pq (rI R)) 0 0 108 [(0, .ref (za Z 60 0)), (1, .int a1), (2, .int a2)] [.int r105] s105
              refine a_if_eq 123 dX11_holds_108 (by decide) (fun c7 => ?_) (fun c7 => ?_)
              · replace hF := (if_pos c7).symm.trans hF
                refine a_ldc (v := (-1000001)) kw_1136 dX11_holds_123 ?_
                replace hF := Option.some.inj hF
                subst hF
                exact a_iret rfl (Nat.zero_le _) (Nat.zero_le _) dX11_holds_125 ⟨rfl, rfl⟩
              · replace hF := (if_neg c7).symm.trans hF
                refine a_aload_n dX11_holds_111 0 rfl rfl ?_
                refine a_iload_n dX11_holds_112 2 rfl rfl ?_
                refine a_bipush (v := (10 : Int32)) dX11_holds_113 (by decide) ?_
                refine a_isub dX11_holds_115 ?_
                refine a_iload_n dX11_holds_116 1 rfl rfl ?_
                obtain ⟨r117, s117, e117, hF⟩ := bd_some hF
                refine a_invV hZ.1 (As := [.int (a2 - (10 : Int32)), .int a1]) (rest := []) (hZ.2 60 0 (by decide) (by decide) Nat.one_pos) lk_X11_312 ⟨⟨by decide, by decide⟩, by decide, by decide⟩ rfl (Nat.le_of_ble_eq_true rfl) dX11_holds_117 (m_X11_earnOn hZ  e117) ?_
                show AW Z l iX11_holds (Pq (rI R)) 0 0 120 [(0, .ref (za Z 60 0)), (1, .int a1), (2, .int a2)] [.int r117] s117
                refine a_goto 125 dX11_holds_120 (by decide) ?_
                replace hF := Option.some.inj hF
                subst hF
                exact a_iret rfl (Nat.zero_le _) (Nat.zero_le _) dX11_holds_125 ⟨rfl, rfl⟩
            · replace hF := (if_pos c6).symm.trans hF
              refine a_aload_n dX11_holds_89 0 rfl rfl ?_
              refine a_iload_n dX11_holds_90 1 rfl rfl ?_
              obtain ⟨r91, s91, e91, hF⟩ := bd_some hF
              refine a_invV hZ.1 (As := [.int a1]) (rest := []) (hZ.2 60 0 (by decide) (by decide) Nat.one_pos) lk_X11_305 ⟨⟨by decide, by decide⟩, by decide, by decide⟩ rfl (Nat.le_of_ble_eq_true rfl) dX11_holds_91 (m_X11_findFirst hZ  e91) ?_
              show AW Z l iX11_holds (Pq (rI R)) 0 0 94 [(0, .ref (za Z 60 0)), (1, .int a1), (2, .int a2)] [.int r91] s91
              refine a_goto 125 dX11_holds_94 (by decide) ?_
              replace hF := Option.some.inj hF
              subst hF
              exact a_iret rfl (Nat.zero_le _) (Nat.zero_le _) dX11_holds_125 ⟨rfl, rfl⟩
          · replace hF := (if_pos c5).symm.trans hF
            refine a_aload_n dX11_holds_73 0 rfl rfl ?_
            refine a_iload_n dX11_holds_74 1 rfl rfl ?_
            refine a_iconst (v := (3 : Int32)) dX11_holds_75 (by decide) ?_
            refine a_iconst (v := (0 : Int32)) dX11_holds_76 (by decide) ?_
            obtain ⟨r77, s77, e77, hF⟩ := bd_some hF
            refine a_invV hZ.1 (As := [.int a1, .int (3 : Int32), .int (0 : Int32)]) (rest := []) (hZ.2 60 0 (by decide) (by decide) Nat.one_pos) lk_X11_298 ⟨⟨by decide, by decide⟩, by decide, by decide⟩ rfl (Nat.le_of_ble_eq_true rfl) dX11_holds_77 (m_X11_numberFor hZ  e77) ?_
            show AW Z l iX11_holds (Pq (rI R)) 0 0 80 [(0, .ref (za Z 60 0)), (1, .int a1), (2, .int a2)] [.int r77] s77
            refine a_goto 125 dX11_holds_80 (by decide) ?_
            replace hF := Option.some.inj hF
            subst hF
            exact a_iret rfl (Nat.zero_le _) (Nat.zero_le _) dX11_holds_125 ⟨rfl, rfl⟩
        · replace hF := (if_pos c4).symm.trans hF
          refine a_aload_n dX11_holds_57 0 rfl rfl ?_
          refine a_iload_n dX11_holds_58 1 rfl rfl ?_
          refine a_iconst (v := (2 : Int32)) dX11_holds_59 (by decide) ?_
          refine a_iconst (v := (0 : Int32)) dX11_holds_60 (by decide) ?_
          obtain ⟨r61, s61, e61, hF⟩ := bd_some hF
          refine a_invV hZ.1 (As := [.int a1, .int (2 : Int32), .int (0 : Int32)]) (rest := []) (hZ.2 60 0 (by decide) (by decide) Nat.one_pos) lk_X11_298 ⟨⟨by decide, by decide⟩, by decide, by decide⟩ rfl (Nat.le_of_ble_eq_true rfl) dX11_holds_61 (m_X11_numberFor hZ  e61) ?_
          show AW Z l iX11_holds (Pq (rI R)) 0 0 64 [(0, .ref (za Z 60 0)), (1, .int a1), (2, .int a2)] [.int r61] s61
          refine a_goto 125 dX11_holds_64 (by decide) ?_
          replace hF := Option.some.inj hF
          subst hF
          exact a_iret rfl (Nat.zero_le _) (Nat.zero_le _) dX11_holds_125 ⟨rfl, rfl⟩
      · replace hF := (if_pos c3).symm.trans hF
        refine a_aload_n dX11_holds_42 0 rfl rfl ?_
        refine a_iload_n dX11_holds_43 1 rfl rfl ?_
        refine a_iconst (v := (1 : Int32)) dX11_holds_44 (by decide) ?_
        refine a_iconst (v := (0 : Int32)) dX11_holds_45 (by decide) ?_
        obtain ⟨r46, s46, e46, hF⟩ := bd_some hF
        refine a_invV hZ.1 (As := [.int a1, .int (1 : Int32), .int (0 : Int32)]) (rest := []) (hZ.2 60 0 (by decide) (by decide) Nat.one_pos) lk_X11_298 ⟨⟨by decide, by decide⟩, by decide, by decide⟩ rfl (Nat.le_of_ble_eq_true rfl) dX11_holds_46 (m_X11_numberFor hZ  e46) ?_
        show AW Z l iX11_holds (Pq (rI R)) 0 0 49 [(0, .ref (za Z 60 0)), (1, .int a1), (2, .int a2)] [.int r46] s46
        refine a_goto 125 dX11_holds_49 (by decide) ?_
        replace hF := Option.some.inj hF
        subst hF
        exact a_iret rfl (Nat.zero_le _) (Nat.zero_le _) dX11_holds_125 ⟨rfl, rfl⟩
    · replace hF := (if_neg c2).symm.trans hF
      refine a_aload_n dX11_holds_27 0 rfl rfl ?_
      refine a_iload_n dX11_holds_28 1 rfl rfl ?_
      refine a_iconst (v := (0 : Int32)) dX11_holds_29 (by decide) ?_
      refine a_iload_n dX11_holds_30 2 rfl rfl ?_
      obtain ⟨r31, s31, e31, hF⟩ := bd_some hF
      refine a_invV hZ.1 (As := [.int a1, .int (0 : Int32), .int a2]) (rest := []) (hZ.2 60 0 (by decide) (by decide) Nat.one_pos) lk_X11_298 ⟨⟨by decide, by decide⟩, by decide, by decide⟩ rfl (Nat.le_of_ble_eq_true rfl) dX11_holds_31 (m_X11_numberFor hZ  e31) ?_
      show AW Z l iX11_holds (Pq (rI R)) 0 0 34 [(0, .ref (za Z 60 0)), (1, .int a1), (2, .int a2)] [.int r31] s31
      refine a_goto 125 dX11_holds_34 (by decide) ?_
      replace hF := Option.some.inj hF
      subst hF
      exact a_iret rfl (Nat.zero_le _) (Nat.zero_le _) dX11_holds_125 ⟨rfl, rfl⟩
  · replace hF := (if_pos c1).symm.trans hF
    refine a_ldc (v := (-1000001)) kw_1136 dX11_holds_12 ?_
    replace hF := Option.some.inj hF
    subst hF
    exact a_iret rfl (Nat.zero_le _) (Nat.zero_le _) dX11_holds_14 ⟨rfl, rfl⟩
theorem m_X11_holds {Z : ZE} {l : Launch} (hZ : OkM Z) {a1 : Int32} {a2 : Int32}  {s : St} {R : Int32 × St} (hF : F_X11_holds (zg Z) a1 a2 s = some R) : Sp Z l yX11_holds iX11_holds [.ref (za Z 60 0), .int a1, .int a2] s (rI R) :=
  Sp.of (by decide) rfl (Nat.le_of_ble_eq_true rfl) (w_X11_holds hZ  s hF)
-- X11_lookItems
def F_X11_lookItems_35 (g : Nat × Nat) (a1 : Int32) (a2 : Int32) (a3 : Int32)   (s : St) : Option (Int32 × St) := (bd (F_X11_finding g (2 : Int32) s) (fun r37 s37 => (some (r37, s37))))
set_option maxRecDepth 100000 in
set_option maxHeartbeats 4000000 in
theorem w_X11_lookItems_35 {Z : ZE} {l : Launch} (hZ : OkM Z) {a1 : Int32} {a2 : Int32} {a3 : Int32}  {R : Int32 × St}    (s : St) (hF : F_X11_lookItems_35 (zg Z) a1 a2 a3  s = some R) : AW Z l iX11_lookItems (Pq (rI R)) 0 0 35 [(0, .ref (za Z 60 0))] [] s := by
  unfold F_X11_lookItems_35 at hF
  refine a_aload_n dX11_lookItems_35 0 rfl rfl ?_
  refine a_iconst (v := (2 : Int32)) dX11_lookItems_36 (by decide) ?_
  obtain ⟨r37, s37, e37, hF⟩ := bd_some hF
  refine a_invV hZ.1 (As := [.int (2 : Int32)]) (rest := []) (hZ.2 60 0 (by decide) (by decide) Nat.one_pos) lk_X11_137 ⟨⟨by decide, by decide⟩, by decide, by decide⟩ rfl (Nat.le_of_ble_eq_true rfl) dX11_lookItems_37 (m_X11_finding hZ  e37) ?_
  show AW Z l iX11_lookItems (Pq (rI R)) 0 0 40 [(0, .ref (za Z 60 0))] [.int r37] s37
  refine a_goto 44 dX11_lookItems_40 (by decide) ?_
  replace hF := Option.some.inj hF
  subst hF
  exact a_iret rfl (Nat.zero_le _) (Nat.zero_le _) dX11_lookItems_44 ⟨rfl, rfl⟩
def F_X11_lookItems (g : Nat × Nat) (a1 : Int32) (a2 : Int32) (a3 : Int32)   (s : St) : Option (Int32 × St) := (gd (inb a1 8) (if 0 ≤ (s 61 0 a1.toNatClampNeg) then (if a2 < 0 then (F_X11_lookItems_35 g a1 a2 a3   s) else (gd (inb a1 8) (if (lg_cmp (a2.toInt64 + a3.toInt64) (s 62 0 a1.toNatClampNeg).toInt64) ≤ 0 then (some ((0 : Int32), s)) else (F_X11_lookItems_35 g a1 a2 a3   s)))) else (bd (F_X11_finding g (1 : Int32) s) (fun r11 s11 => (some (r11, s11))))))
set_option maxRecDepth 100000 in
set_option maxHeartbeats 4000000 in
theorem w_X11_lookItems {Z : ZE} {l : Launch} (hZ : OkM Z) {a1 : Int32} {a2 : Int32} {a3 : Int32}  {R : Int32 × St}    (s : St) (hF : F_X11_lookItems (zg Z) a1 a2 a3  s = some R) : AW Z l iX11_lookItems (Pq (rI R)) 0 0 0 [(0, .ref (za Z 60 0)), (1, .int a1), (2, .int a2), (3, .int a3)] [] s := by
  unfold F_X11_lookItems at hF
  refine a_aload_n dX11_lookItems_0 0 rfl rfl ?_
  refine a_getR hZ.1 (hZ.2 60 0 (by decide) (by decide) Nat.one_pos) fl_X11_17 rfl 0 rfl dX11_lookItems_1 ?_
  refine a_iload_n dX11_lookItems_4 1 rfl rfl ?_
  obtain ⟨b1, hF⟩ := gd_some hF
  refine a_iald hZ.1 (s 61 0 a1.toNatClampNeg) (hZ.2 61 0 (by decide) (by decide) Nat.one_pos) rfl rfl (inb_vp b1) rfl dX11_lookItems_5 ?_
  refine a_if_ge 15 dX11_lookItems_6 (by decide) (fun c2 => ?_) (fun c2 => ?_)
  · replace hF := (if_pos c2).symm.trans hF
    refine a_iload_n dX11_lookItems_15 2 rfl rfl ?_
    refine a_if_lt 35 dX11_lookItems_16 (by decide) (fun c3 => ?_) (fun c3 => ?_)
    · replace hF := (if_pos c3).symm.trans hF
      refine a_loc [(0, .ref (za Z 60 0))] [0] rfl ?_
      exact w_X11_lookItems_35 (l := l) hZ     _ hF
    · replace hF := (if_neg c3).symm.trans hF
      refine a_iload_n dX11_lookItems_19 2 rfl rfl ?_
      refine a_i2l dX11_lookItems_20 ?_
      refine a_iload_n dX11_lookItems_21 3 rfl rfl ?_
      refine a_i2l dX11_lookItems_22 ?_
      refine a_ladd dX11_lookItems_23 ?_
      refine a_aload_n dX11_lookItems_24 0 rfl rfl ?_
      refine a_getR hZ.1 (hZ.2 60 0 (by decide) (by decide) Nat.one_pos) fl_X11_21 rfl 0 rfl dX11_lookItems_25 ?_
      refine a_iload_n dX11_lookItems_28 1 rfl rfl ?_
      obtain ⟨b4, hF⟩ := gd_some hF
      refine a_iald hZ.1 (s 62 0 a1.toNatClampNeg) (hZ.2 62 0 (by decide) (by decide) Nat.one_pos) rfl rfl (inb_vp b4) rfl dX11_lookItems_29 ?_
      refine a_i2l dX11_lookItems_30 ?_
      refine a_lcmp dX11_lookItems_31 ?_
      refine a_if_le 43 dX11_lookItems_32 (by decide) (fun c5 => ?_) (fun c5 => ?_)
      · replace hF := (if_pos c5).symm.trans hF
        refine a_iconst (v := (0 : Int32)) dX11_lookItems_43 (by decide) ?_
        replace hF := Option.some.inj hF
        subst hF
        exact a_iret rfl (Nat.zero_le _) (Nat.zero_le _) dX11_lookItems_44 ⟨rfl, rfl⟩
      · replace hF := (if_neg c5).symm.trans hF
        refine a_loc [(0, .ref (za Z 60 0))] [0] rfl ?_
        exact w_X11_lookItems_35 (l := l) hZ     _ hF
  · replace hF := (if_neg c2).symm.trans hF
    refine a_aload_n dX11_lookItems_9 0 rfl rfl ?_
    refine a_iconst (v := (1 : Int32)) dX11_lookItems_10 (by decide) ?_
    obtain ⟨r11, s11, e11, hF⟩ := bd_some hF
    refine a_invV hZ.1 (As := [.int (1 : Int32)]) (rest := []) (hZ.2 60 0 (by decide) (by decide) Nat.one_pos) lk_X11_137 ⟨⟨by decide, by decide⟩, by decide, by decide⟩ rfl (Nat.le_of_ble_eq_true rfl) dX11_lookItems_11 (m_X11_finding hZ  e11) ?_
    show AW Z l iX11_lookItems (Pq (rI R)) 0 0 14 [(0, .ref (za Z 60 0)), (1, .int a1), (2, .int a2), (3, .int a3)] [.int r11] s11
    replace hF := Option.some.inj hF
    subst hF
    exact a_iret rfl (Nat.zero_le _) (Nat.zero_le _) dX11_lookItems_14 ⟨rfl, rfl⟩
theorem m_X11_lookItems {Z : ZE} {l : Launch} (hZ : OkM Z) {a1 : Int32} {a2 : Int32} {a3 : Int32}  {s : St} {R : Int32 × St} (hF : F_X11_lookItems (zg Z) a1 a2 a3 s = some R) : Sp Z l yX11_lookItems iX11_lookItems [.ref (za Z 60 0), .int a1, .int a2, .int a3] s (rI R) :=
  Sp.of (by decide) rfl (Nat.le_of_ble_eq_true rfl) (w_X11_lookItems hZ  s hF)
-- X11_home
def F_X11_home_276 (g : Nat × Nat) (a1 : Int32) (a2 : Int32)   (s : St) : Option (Int32 × St) := (some ((((s 60 0 42) + (1 : Int32)) - (1 : Int32)), (up s 60 0 42 ((s 60 0 42) + (1 : Int32)))))
set_option maxRecDepth 100000 in
set_option maxHeartbeats 4000000 in
theorem w_X11_home_276 {Z : ZE} {l : Launch} (hZ : OkM Z) {a1 : Int32} {a2 : Int32}  {R : Int32 × St}    (s : St) (hF : F_X11_home_276 (zg Z) a1 a2  s = some R) : AW Z l iX11_home (Pq (rI R)) 0 0 276 [(0, .ref (za Z 60 0))] [] s := by
  unfold F_X11_home_276 at hF
  refine a_aload_n dX11_home_276 0 rfl rfl ?_
  refine a_dup dX11_home_277 rfl ?_
  refine a_getI hZ.1 (s 60 0 42) (hZ.2 60 0 (by decide) (by decide) Nat.one_pos) fl_X11_202 rfl rfl dX11_home_278 ?_
  refine a_iconst (v := (1 : Int32)) dX11_home_281 (by decide) ?_
  refine a_iadd dX11_home_282 ?_
  refine a_put hZ.1 (hZ.2 60 0 (by decide) (by decide) Nat.one_pos) fl_X11_202 rfl rfl rfl dX11_home_283 ?_
  refine a_aload_n dX11_home_286 0 rfl rfl ?_
  refine a_getI hZ.1 ((s 60 0 42) + (1 : Int32)) (hZ.2 60 0 (by decide) (by decide) Nat.one_pos) fl_X11_202 rfl (by simp [up]) dX11_home_287 ?_
  refine a_iconst (v := (1 : Int32)) dX11_home_290 (by decide) ?_
  refine a_isub dX11_home_291 ?_
  replace hF := Option.some.inj hF
  subst hF
  exact a_iret rfl (Nat.zero_le _) (Nat.zero_le _) dX11_home_292 ⟨rfl, rfl⟩
def F_X11_home_269 (g : Nat × Nat) (a1 : Int32) (a2 : Int32) (h227_ : Int32 → Int32 → St → Option (Int32 × St)) (h276_ : St → Option (Int32 × St)) (v4 : Int32) (v6 : Int32) (x1 : Int32) (x2 : Int32) (s : St) : Option (Int32 × St) := (gd (inb x1 132) (h227_ v4 (v6 + 1) (up s 84 0 x1.toNatClampNeg x2)))
set_option maxRecDepth 100000 in
set_option maxHeartbeats 4000000 in
theorem w_X11_home_269 {Z : ZE} {l : Launch} (hZ : OkM Z) {a1 : Int32} {a2 : Int32}  {R : Int32 × St} (h227_ : Int32 → Int32 → St → Option (Int32 × St)) (w227_ : ∀ (v4 : Int32) (v6 : Int32)  (s : St), h227_ v4 v6 s = some R → AW Z l iX11_home (Pq (rI R)) 0 0 227 [(0, .ref (za Z 60 0)), (4, .int v4), (6, .int v6)] [] s) (h276_ : St → Option (Int32 × St)) (w276_ : ∀   (s : St), h276_  s = some R → AW Z l iX11_home (Pq (rI R)) 0 0 276 [(0, .ref (za Z 60 0))] [] s) (v4 : Int32) (v6 : Int32) (x1 : Int32) (x2 : Int32)  (s : St) (hF : F_X11_home_269 (zg Z) a1 a2 h227_ h276_ v4 v6 x1 x2 s = some R) : AW Z l iX11_home (Pq (rI R)) 0 0 269 [(0, .ref (za Z 60 0)), (4, .int v4), (6, .int v6)] [.int x2, .int x1, .ref (za Z 84 0)] s := by
  unfold F_X11_home_269 at hF
  obtain ⟨b1, hF⟩ := gd_some hF
  refine a_iast hZ.1 (hZ.2 84 0 (by decide) (by decide) Nat.one_pos) rfl rfl (inb_vp b1) dX11_home_269 ?_
  refine a_iinc [(6, .int (v6 + 1)), (0, .ref (za Z 60 0)), (4, .int v4)] dX11_home_270 2 rfl rfl (by decide) rfl ?_
  refine a_goto 227 dX11_home_273 (by decide) ?_
  refine a_loc [(0, .ref (za Z 60 0)), (4, .int v4), (6, .int (v6 + 1))] [1, 2, 0] rfl ?_
  exact w227_ v4 (v6 + 1)  _ hF
def F_X11_home_227 (g : Nat × Nat) (a1 : Int32) (a2 : Int32) (h276_ : St → Option (Int32 × St)) : Nat → Int32 → Int32 → St → Option (Int32 × St)
  | 0, _, _, _ => none
  | n_ + 1, v4, v6, s => (if (11 : Int32) ≤ v6 then (h276_  s) else (if (9 : Int32) ≤ v6 then (F_X11_home_269 g a1 a2 (F_X11_home_227 g a1 a2 h276_ n_) h276_ v4 v6 (((11 : Int32) * (s 60 0 42)) + v6) (0 : Int32) s) else (gd (inb (v4 + v6) 640) (F_X11_home_269 g a1 a2 (F_X11_home_227 g a1 a2 h276_ n_) h276_ v4 v6 (((11 : Int32) * (s 60 0 42)) + v6) (s 63 0 (v4 + v6).toNatClampNeg) s))))
set_option maxRecDepth 100000 in
set_option maxHeartbeats 4000000 in
theorem w_X11_home_227 {Z : ZE} {l : Launch} (hZ : OkM Z) {a1 : Int32} {a2 : Int32}  {R : Int32 × St} (h276_ : St → Option (Int32 × St)) (w276_ : ∀   (s : St), h276_  s = some R → AW Z l iX11_home (Pq (rI R)) 0 0 276 [(0, .ref (za Z 60 0))] [] s) : ∀ (n_ : Nat) (v4 : Int32) (v6 : Int32)  (s : St), F_X11_home_227 (zg Z) a1 a2 h276_ n_ v4 v6 s = some R → AW Z l iX11_home (Pq (rI R)) 0 0 227 [(0, .ref (za Z 60 0)), (4, .int v4), (6, .int v6)] [] s := by
  intro n_
  induction n_ with
  | zero =>
    intro v4 v6 s hF
    exact absurd hF (by rw [F_X11_home_227]; exact fun q => by cases q)
  | succ n_ w227_ =>
    intro v4 v6 s hF
    rw [F_X11_home_227] at hF
    refine a_iload dX11_home_227 2 rfl ?_
    refine a_bipush (v := (11 : Int32)) dX11_home_229 (by decide) ?_
    refine a_icmp_ge 276 dX11_home_231 (by decide) (fun c1 => ?_) (fun c1 => ?_)
    · replace hF := (if_pos c1).symm.trans hF
      refine a_loc [(0, .ref (za Z 60 0))] [0] rfl ?_
      exact w276_   _ hF
    · replace hF := (if_neg c1).symm.trans hF
      refine a_aload_n dX11_home_234 0 rfl rfl ?_
      refine a_getR hZ.1 (hZ.2 60 0 (by decide) (by decide) Nat.one_pos) fl_X11_91 rfl 0 rfl dX11_home_235 ?_
      refine a_bipush (v := (11 : Int32)) dX11_home_238 (by decide) ?_
      refine a_aload_n dX11_home_240 0 rfl rfl ?_
      refine a_getI hZ.1 (s 60 0 42) (hZ.2 60 0 (by decide) (by decide) Nat.one_pos) fl_X11_202 rfl rfl dX11_home_241 ?_
      refine a_imul dX11_home_244 ?_
      refine a_iload dX11_home_245 2 rfl ?_
      refine a_iadd dX11_home_247 ?_
      refine a_iload dX11_home_248 2 rfl ?_
      refine a_bipush (v := (9 : Int32)) dX11_home_250 (by decide) ?_
      refine a_icmp_ge 268 dX11_home_252 (by decide) (fun c2 => ?_) (fun c2 => ?_)
      · replace hF := (if_pos c2).symm.trans hF
        refine a_iconst (v := (0 : Int32)) dX11_home_268 (by decide) ?_
        exact w_X11_home_269 (l := l) hZ  (F_X11_home_227 (zg Z) a1 a2 h276_ n_) w227_ h276_ w276_ v4 v6 (((11 : Int32) * (s 60 0 42)) + v6) (0 : Int32)  _ hF
      · replace hF := (if_neg c2).symm.trans hF
        refine a_aload_n dX11_home_255 0 rfl rfl ?_
        refine a_getR hZ.1 (hZ.2 60 0 (by decide) (by decide) Nat.one_pos) fl_X11_24 rfl 0 rfl dX11_home_256 ?_
        refine a_iload dX11_home_259 1 rfl ?_
        refine a_iload dX11_home_261 2 rfl ?_
        refine a_iadd dX11_home_263 ?_
        obtain ⟨b3, hF⟩ := gd_some hF
        refine a_iald hZ.1 (s 63 0 (v4 + v6).toNatClampNeg) (hZ.2 63 0 (by decide) (by decide) Nat.one_pos) rfl rfl (inb_vp b3) rfl dX11_home_264 ?_
        refine a_goto 269 dX11_home_265 (by decide) ?_
        exact w_X11_home_269 (l := l) hZ  (F_X11_home_227 (zg Z) a1 a2 h276_ n_) w227_ h276_ w276_ v4 v6 (((11 : Int32) * (s 60 0 42)) + v6) (s 63 0 (v4 + v6).toNatClampNeg)  _ hF
def F_X11_home_211 (g : Nat × Nat) (a1 : Int32) (a2 : Int32)  (v4 : Int32) (v5 : Int32) (s : St) : Option (Int32 × St) := (if v5 = 0 then (some ((-1000001), s)) else ((F_X11_home_227 g a1 a2 (F_X11_home_276 g a1 a2 ) fu) v4 (0 : Int32) (up s 60 0 1 (0 : Int32))))
set_option maxRecDepth 100000 in
set_option maxHeartbeats 4000000 in
theorem w_X11_home_211 {Z : ZE} {l : Launch} (hZ : OkM Z) {a1 : Int32} {a2 : Int32}  {R : Int32 × St}  (v4 : Int32) (v5 : Int32)  (s : St) (hF : F_X11_home_211 (zg Z) a1 a2 v4 v5 s = some R) : AW Z l iX11_home (Pq (rI R)) 0 0 211 [(0, .ref (za Z 60 0)), (4, .int v4), (5, .int v5)] [] s := by
  unfold F_X11_home_211 at hF
  refine a_iload dX11_home_211 2 rfl ?_
  refine a_if_ne 219 dX11_home_213 (by decide) (fun c1 => ?_) (fun c1 => ?_)
  · replace hF := (if_neg c1).symm.trans hF
    refine a_aload_n dX11_home_219 0 rfl rfl ?_
    refine a_iconst (v := (0 : Int32)) dX11_home_220 (by decide) ?_
    refine a_put hZ.1 (hZ.2 60 0 (by decide) (by decide) Nat.one_pos) fl_X11_7 rfl rfl rfl dX11_home_221 ?_
    refine a_iconst (v := (0 : Int32)) dX11_home_224 (by decide) ?_
    refine a_istore [(6, .int (0 : Int32)), (0, .ref (za Z 60 0)), (4, .int v4), (5, .int v5)] dX11_home_225 (by decide) rfl ?_
    refine a_loc [(0, .ref (za Z 60 0)), (4, .int v4), (6, .int (0 : Int32))] [1, 2, 0] rfl ?_
    exact w_X11_home_227 (l := l) hZ  (F_X11_home_276 (zg Z) a1 a2 ) (w_X11_home_276 (l := l) hZ  ) fu v4 (0 : Int32)  _ hF
  · replace hF := (if_pos c1).symm.trans hF
    refine a_ldc (v := (-1000001)) kw_1136 dX11_home_216 ?_
    replace hF := Option.some.inj hF
    subst hF
    exact a_iret rfl (Nat.zero_le _) (Nat.zero_le _) dX11_home_218 ⟨rfl, rfl⟩
def F_X11_home_203 (g : Nat × Nat) (a1 : Int32) (a2 : Int32) (h165_ : Int32 → Int32 → Int32 → St → Option (Int32 × St)) (h211_ : Int32 → Int32 → St → Option (Int32 × St)) (v4 : Int32) (v6 : Int32) (x0 : Int32) (s : St) : Option (Int32 × St) := (h165_ v4 x0 (v6 + 1) s)
set_option maxRecDepth 100000 in
set_option maxHeartbeats 4000000 in
theorem w_X11_home_203 {Z : ZE} {l : Launch} (hZ : OkM Z) {a1 : Int32} {a2 : Int32}  {R : Int32 × St} (h165_ : Int32 → Int32 → Int32 → St → Option (Int32 × St)) (w165_ : ∀ (v4 : Int32) (v5 : Int32) (v6 : Int32)  (s : St), h165_ v4 v5 v6 s = some R → AW Z l iX11_home (Pq (rI R)) 0 0 165 [(0, .ref (za Z 60 0)), (4, .int v4), (5, .int v5), (6, .int v6)] [] s) (h211_ : Int32 → Int32 → St → Option (Int32 × St)) (w211_ : ∀ (v4 : Int32) (v5 : Int32)  (s : St), h211_ v4 v5 s = some R → AW Z l iX11_home (Pq (rI R)) 0 0 211 [(0, .ref (za Z 60 0)), (4, .int v4), (5, .int v5)] [] s) (v4 : Int32) (v6 : Int32) (x0 : Int32)  (s : St) (hF : F_X11_home_203 (zg Z) a1 a2 h165_ h211_ v4 v6 x0 s = some R) : AW Z l iX11_home (Pq (rI R)) 0 0 203 [(0, .ref (za Z 60 0)), (4, .int v4), (6, .int v6)] [.int x0] s := by
  unfold F_X11_home_203 at hF
  refine a_istore [(5, .int x0), (0, .ref (za Z 60 0)), (4, .int v4), (6, .int v6)] dX11_home_203 (by decide) rfl ?_
  refine a_iinc [(6, .int (v6 + 1)), (5, .int x0), (0, .ref (za Z 60 0)), (4, .int v4)] dX11_home_205 3 rfl rfl (by decide) rfl ?_
  refine a_goto 165 dX11_home_208 (by decide) ?_
  refine a_loc [(0, .ref (za Z 60 0)), (4, .int v4), (5, .int x0), (6, .int (v6 + 1))] [2, 3, 1, 0] rfl ?_
  exact w165_ v4 x0 (v6 + 1)  _ hF
def F_X11_home_202 (g : Nat × Nat) (a1 : Int32) (a2 : Int32) (h165_ : Int32 → Int32 → Int32 → St → Option (Int32 × St)) (h211_ : Int32 → Int32 → St → Option (Int32 × St)) (v4 : Int32) (v6 : Int32) (s : St) : Option (Int32 × St) := (F_X11_home_203 g a1 a2 h165_ h211_ v4 v6 (0 : Int32) s)
set_option maxRecDepth 100000 in
set_option maxHeartbeats 4000000 in
theorem w_X11_home_202 {Z : ZE} {l : Launch} (hZ : OkM Z) {a1 : Int32} {a2 : Int32}  {R : Int32 × St} (h165_ : Int32 → Int32 → Int32 → St → Option (Int32 × St)) (w165_ : ∀ (v4 : Int32) (v5 : Int32) (v6 : Int32)  (s : St), h165_ v4 v5 v6 s = some R → AW Z l iX11_home (Pq (rI R)) 0 0 165 [(0, .ref (za Z 60 0)), (4, .int v4), (5, .int v5), (6, .int v6)] [] s) (h211_ : Int32 → Int32 → St → Option (Int32 × St)) (w211_ : ∀ (v4 : Int32) (v5 : Int32)  (s : St), h211_ v4 v5 s = some R → AW Z l iX11_home (Pq (rI R)) 0 0 211 [(0, .ref (za Z 60 0)), (4, .int v4), (5, .int v5)] [] s) (v4 : Int32) (v6 : Int32)  (s : St) (hF : F_X11_home_202 (zg Z) a1 a2 h165_ h211_ v4 v6 s = some R) : AW Z l iX11_home (Pq (rI R)) 0 0 202 [(0, .ref (za Z 60 0)), (4, .int v4), (6, .int v6)] [] s := by
  unfold F_X11_home_202 at hF
  refine a_iconst (v := (0 : Int32)) dX11_home_202 (by decide) ?_
  exact w_X11_home_203 (l := l) hZ  h165_ w165_ h211_ w211_ v4 v6 (0 : Int32)  _ hF
def F_X11_home_165 (g : Nat × Nat) (a1 : Int32) (a2 : Int32) (h211_ : Int32 → Int32 → St → Option (Int32 × St)) : Nat → Int32 → Int32 → Int32 → St → Option (Int32 × St)
  | 0, _, _, _, _ => none
  | n_ + 1, v4, v5, v6, s => (if (9 : Int32) ≤ v6 then (h211_ v4 v5 s) else (if v5 = 0 then (F_X11_home_202 g a1 a2 (F_X11_home_165 g a1 a2 h211_ n_) h211_ v4 v6 s) else (gd (inb (v4 + v6) 640) (bd (F_X11_in g ((s 63 0 (v4 + v6).toNatClampNeg).toInt64) (0 : Int64) (999 : Int64) s) (fun r192 s192 => (if r192 = 0 then (F_X11_home_202 g a1 a2 (F_X11_home_165 g a1 a2 h211_ n_) h211_ v4 v6 s192) else (F_X11_home_203 g a1 a2 (F_X11_home_165 g a1 a2 h211_ n_) h211_ v4 v6 (1 : Int32) s192)))))))
set_option maxRecDepth 100000 in
set_option maxHeartbeats 4000000 in
theorem w_X11_home_165 {Z : ZE} {l : Launch} (hZ : OkM Z) {a1 : Int32} {a2 : Int32}  {R : Int32 × St} (h211_ : Int32 → Int32 → St → Option (Int32 × St)) (w211_ : ∀ (v4 : Int32) (v5 : Int32)  (s : St), h211_ v4 v5 s = some R → AW Z l iX11_home (Pq (rI R)) 0 0 211 [(0, .ref (za Z 60 0)), (4, .int v4), (5, .int v5)] [] s) : ∀ (n_ : Nat) (v4 : Int32) (v5 : Int32) (v6 : Int32)  (s : St), F_X11_home_165 (zg Z) a1 a2 h211_ n_ v4 v5 v6 s = some R → AW Z l iX11_home (Pq (rI R)) 0 0 165 [(0, .ref (za Z 60 0)), (4, .int v4), (5, .int v5), (6, .int v6)] [] s := by
  intro n_
  induction n_ with
  | zero =>
    intro v4 v5 v6 s hF
    exact absurd hF (by rw [F_X11_home_165]; exact fun q => by cases q)
  | succ n_ w165_ =>
    intro v4 v5 v6 s hF
    rw [F_X11_home_165] at hF
    refine a_iload dX11_home_165 3 rfl ?_
    refine a_bipush (v := (9 : Int32)) dX11_home_167 (by decide) ?_
    refine a_icmp_ge 211 dX11_home_169 (by decide) (fun c1 => ?_) (fun c1 => ?_)
    · replace hF := (if_pos c1).symm.trans hF
      refine a_loc [(0, .ref (za Z 60 0)), (4, .int v4), (5, .int v5)] [0, 1, 2] rfl ?_
      exact w211_ v4 v5  _ hF
    · replace hF := (if_neg c1).symm.trans hF
      refine a_iload dX11_home_172 2 rfl ?_
      refine a_if_eq 202 dX11_home_174 (by decide) (fun c2 => ?_) (fun c2 => ?_)
      · replace hF := (if_pos c2).symm.trans hF
        refine a_loc [(0, .ref (za Z 60 0)), (4, .int v4), (6, .int v6)] [0, 1, 3] rfl ?_
        exact w_X11_home_202 (l := l) hZ  (F_X11_home_165 (zg Z) a1 a2 h211_ n_) w165_ h211_ w211_ v4 v6  _ hF
      · replace hF := (if_neg c2).symm.trans hF
        refine a_aload_n dX11_home_177 0 rfl rfl ?_
        refine a_getR hZ.1 (hZ.2 60 0 (by decide) (by decide) Nat.one_pos) fl_X11_24 rfl 0 rfl dX11_home_178 ?_
        refine a_iload dX11_home_181 1 rfl ?_
        refine a_iload dX11_home_183 3 rfl ?_
        refine a_iadd dX11_home_185 ?_
        obtain ⟨b3, hF⟩ := gd_some hF
        refine a_iald hZ.1 (s 63 0 (v4 + v6).toNatClampNeg) (hZ.2 63 0 (by decide) (by decide) Nat.one_pos) rfl rfl (inb_vp b3) rfl dX11_home_186 ?_
        refine a_i2l dX11_home_187 ?_
        refine a_lconst (v := (0 : Int64)) dX11_home_188 (by decide) ?_
        refine a_ldc2 (v := (999 : Int64)) kw_1330 dX11_home_189 ?_
        obtain ⟨r192, s192, e192, hF⟩ := bd_some hF
        refine a_invS hZ.1 (As := [.long (s 63 0 (v4 + v6).toNatClampNeg).toInt64, .long (0 : Int64), .long (999 : Int64)]) (rest := []) lk_X11_126 ⟨⟨by decide, by decide⟩, by decide, by decide⟩ rfl (Nat.le_of_ble_eq_true rfl) dX11_home_192 (m_X11_in hZ  e192) ?_
        show AW Z l iX11_home (Pq (rI R)) 0 0 195 [(0, .ref (za Z 60 0)), (4, .int v4), (5, .int v5), (6, .int v6)] [.int r192] s192
        refine a_if_eq 202 dX11_home_195 (by decide) (fun c4 => ?_) (fun c4 => ?_)
        · replace hF := (if_pos c4).symm.trans hF
          refine a_loc [(0, .ref (za Z 60 0)), (4, .int v4), (6, .int v6)] [0, 1, 3] rfl ?_
          exact w_X11_home_202 (l := l) hZ  (F_X11_home_165 (zg Z) a1 a2 h211_ n_) w165_ h211_ w211_ v4 v6  _ hF
        · replace hF := (if_neg c4).symm.trans hF
          refine a_iconst (v := (1 : Int32)) dX11_home_198 (by decide) ?_
          refine a_goto 203 dX11_home_199 (by decide) ?_
          refine a_loc [(0, .ref (za Z 60 0)), (4, .int v4), (6, .int v6)] [0, 1, 3] rfl ?_
          exact w_X11_home_203 (l := l) hZ  (F_X11_home_165 (zg Z) a1 a2 h211_ n_) w165_ h211_ w211_ v4 v6 (1 : Int32)  _ hF
def F_X11_home_160 (g : Nat × Nat) (a1 : Int32) (a2 : Int32)  (v4 : Int32) (x0 : Int32) (s : St) : Option (Int32 × St) := ((F_X11_home_165 g a1 a2 (F_X11_home_211 g a1 a2 ) fu) v4 x0 (5 : Int32) s)
set_option maxRecDepth 100000 in
set_option maxHeartbeats 4000000 in
theorem w_X11_home_160 {Z : ZE} {l : Launch} (hZ : OkM Z) {a1 : Int32} {a2 : Int32}  {R : Int32 × St}  (v4 : Int32) (x0 : Int32)  (s : St) (hF : F_X11_home_160 (zg Z) a1 a2 v4 x0 s = some R) : AW Z l iX11_home (Pq (rI R)) 0 0 160 [(0, .ref (za Z 60 0)), (4, .int v4)] [.int x0] s := by
  unfold F_X11_home_160 at hF
  refine a_istore [(5, .int x0), (0, .ref (za Z 60 0)), (4, .int v4)] dX11_home_160 (by decide) rfl ?_
  refine a_iconst (v := (5 : Int32)) dX11_home_162 (by decide) ?_
  refine a_istore [(6, .int (5 : Int32)), (5, .int x0), (0, .ref (za Z 60 0)), (4, .int v4)] dX11_home_163 (by decide) rfl ?_
  refine a_loc [(0, .ref (za Z 60 0)), (4, .int v4), (5, .int x0), (6, .int (5 : Int32))] [2, 3, 1, 0] rfl ?_
  exact w_X11_home_165 (l := l) hZ  (F_X11_home_211 (zg Z) a1 a2 ) (w_X11_home_211 (l := l) hZ  ) fu v4 x0 (5 : Int32)  _ hF
def F_X11_home_159 (g : Nat × Nat) (a1 : Int32) (a2 : Int32)  (v4 : Int32) (s : St) : Option (Int32 × St) := (F_X11_home_160 g a1 a2  v4 (0 : Int32) s)
set_option maxRecDepth 100000 in
set_option maxHeartbeats 4000000 in
theorem w_X11_home_159 {Z : ZE} {l : Launch} (hZ : OkM Z) {a1 : Int32} {a2 : Int32}  {R : Int32 × St}  (v4 : Int32)  (s : St) (hF : F_X11_home_159 (zg Z) a1 a2 v4 s = some R) : AW Z l iX11_home (Pq (rI R)) 0 0 159 [(0, .ref (za Z 60 0)), (4, .int v4)] [] s := by
  unfold F_X11_home_159 at hF
  refine a_iconst (v := (0 : Int32)) dX11_home_159 (by decide) ?_
  exact w_X11_home_160 (l := l) hZ   v4 (0 : Int32)  _ hF
def F_X11_home (g : Nat × Nat) (a1 : Int32) (a2 : Int32)   (s : St) : Option (Int32 × St) := (bd (F_X11_isSheet g a1 (up s 60 0 0 (0 : Int32))) (fun r6 s6 => (if r6 = 0 then (some ((-1000001), s6)) else (if (s6 60 0 42) = (12 : Int32) then (some ((-1000003), s6)) else (bd (F_X11_lookItems g a1 a2 (9 : Int32) s6) (fun r32 s32 => (if 0 ≤ r32 then (gd (inb (((80 : Int32) * a1) + a2) 640) (bd (F_X11_in g ((s32 63 0 (((80 : Int32) * a1) + a2).toNatClampNeg).toInt64) (0 : Int64) (5 : Int64) s32) (fun r62 s62 => (if r62 = 0 then (F_X11_home_159 g a1 a2  (((80 : Int32) * a1) + a2) s62) else (gd (inb ((((80 : Int32) * a1) + a2) + (1 : Int32)) 640) (bd (F_X11_in g ((s62 63 0 ((((80 : Int32) * a1) + a2) + (1 : Int32)).toNatClampNeg).toInt64) (1 : Int64) (12 : Int64) s62) (fun r82 s82 => (if r82 = 0 then (F_X11_home_159 g a1 a2  (((80 : Int32) * a1) + a2) s82) else (gd (inb ((((80 : Int32) * a1) + a2) + (2 : Int32)) 640) (gd (inb ((((80 : Int32) * a1) + a2) + (1 : Int32)) 640) (bd (F_X11_in g ((s82 63 0 ((((80 : Int32) * a1) + a2) + (2 : Int32)).toNatClampNeg).toInt64) (0 : Int64) ((s82 63 0 ((((80 : Int32) * a1) + a2) + (1 : Int32)).toNatClampNeg).toInt64) s82) (fun r109 s109 => (if r109 = 0 then (F_X11_home_159 g a1 a2  (((80 : Int32) * a1) + a2) s109) else (gd (inb ((((80 : Int32) * a1) + a2) + (3 : Int32)) 640) (bd (F_X11_in g ((s109 63 0 ((((80 : Int32) * a1) + a2) + (3 : Int32)).toNatClampNeg).toInt64) (0 : Int64) (9999 : Int64) s109) (fun r129 s129 => (if r129 = 0 then (F_X11_home_159 g a1 a2  (((80 : Int32) * a1) + a2) s129) else (gd (inb ((((80 : Int32) * a1) + a2) + (4 : Int32)) 640) (bd (F_X11_in g ((s129 63 0 ((((80 : Int32) * a1) + a2) + (4 : Int32)).toNatClampNeg).toInt64) (0 : Int64) (99 : Int64) s129) (fun r149 s149 => (if r149 = 0 then (F_X11_home_159 g a1 a2  (((80 : Int32) * a1) + a2) s149) else (F_X11_home_160 g a1 a2  (((80 : Int32) * a1) + a2) (1 : Int32) s149)))))))))))))))))))))) else (some (r32, s32)))))))))
set_option maxRecDepth 100000 in
set_option maxHeartbeats 4000000 in
theorem w_X11_home {Z : ZE} {l : Launch} (hZ : OkM Z) {a1 : Int32} {a2 : Int32}  {R : Int32 × St}    (s : St) (hF : F_X11_home (zg Z) a1 a2  s = some R) : AW Z l iX11_home (Pq (rI R)) 0 0 0 [(0, .ref (za Z 60 0)), (1, .int a1), (2, .int a2)] [] s := by
  unfold F_X11_home at hF
  refine a_aload_n dX11_home_0 0 rfl rfl ?_
  refine a_iconst (v := (0 : Int32)) dX11_home_1 (by decide) ?_
  refine a_put hZ.1 (hZ.2 60 0 (by decide) (by decide) Nat.one_pos) fl_X11_1 rfl rfl rfl dX11_home_2 ?_
  refine a_iload_n dX11_home_5 1 rfl rfl ?_
  obtain ⟨r6, s6, e6, hF⟩ := bd_some hF
  refine a_invS hZ.1 (As := [.int a1]) (rest := []) lk_X11_130 ⟨⟨by decide, by decide⟩, by decide, by decide⟩ rfl (Nat.le_of_ble_eq_true rfl) dX11_home_6 (m_X11_isSheet hZ  e6) ?_
  show AW Z l iX11_home (Pq (rI R)) 0 0 9 [(0, .ref (za Z 60 0)), (1, .int a1), (2, .int a2)] [.int r6] s6
  refine a_if_ne 15 dX11_home_9 (by decide) (fun c1 => ?_) (fun c1 => ?_)
  · replace hF := (if_neg c1).symm.trans hF
    refine a_aload_n dX11_home_15 0 rfl rfl ?_
    refine a_getI hZ.1 (s6 60 0 42) (hZ.2 60 0 (by decide) (by decide) Nat.one_pos) fl_X11_202 rfl rfl dX11_home_16 ?_
    refine a_bipush (v := (12 : Int32)) dX11_home_19 (by decide) ?_
    refine a_icmp_ne 27 dX11_home_21 (by decide) (fun c2 => ?_) (fun c2 => ?_)
    · replace hF := (if_neg c2).symm.trans hF
      refine a_aload_n dX11_home_27 0 rfl rfl ?_
      refine a_iload_n dX11_home_28 1 rfl rfl ?_
      refine a_iload_n dX11_home_29 2 rfl rfl ?_
      refine a_bipush (v := (9 : Int32)) dX11_home_30 (by decide) ?_
      obtain ⟨r32, s32, e32, hF⟩ := bd_some hF
      refine a_invV hZ.1 (As := [.int a1, .int a2, .int (9 : Int32)]) (rest := []) (hZ.2 60 0 (by decide) (by decide) Nat.one_pos) lk_X11_316 ⟨⟨by decide, by decide⟩, by decide, by decide⟩ rfl (Nat.le_of_ble_eq_true rfl) dX11_home_32 (m_X11_lookItems hZ  e32) ?_
      show AW Z l iX11_home (Pq (rI R)) 0 0 35 [(0, .ref (za Z 60 0)), (1, .int a1), (2, .int a2)] [.int r32] s32
      refine a_istore_n [(3, .int r32), (0, .ref (za Z 60 0)), (1, .int a1), (2, .int a2)] dX11_home_35 rfl (by decide) rfl ?_
      refine a_iload_n dX11_home_36 0 rfl rfl ?_
      refine a_if_ge 42 dX11_home_37 (by decide) (fun c3 => ?_) (fun c3 => ?_)
      · replace hF := (if_pos c3).symm.trans hF
        refine a_bipush (v := (80 : Int32)) dX11_home_42 (by decide) ?_
        refine a_iload_n dX11_home_44 2 rfl rfl ?_
        refine a_imul dX11_home_45 ?_
        refine a_iload_n dX11_home_46 3 rfl rfl ?_
        refine a_iadd dX11_home_47 ?_
        refine a_istore [(4, .int (((80 : Int32) * a1) + a2)), (3, .int r32), (0, .ref (za Z 60 0)), (1, .int a1), (2, .int a2)] dX11_home_48 (by decide) rfl ?_
        refine a_aload_n dX11_home_50 2 rfl rfl ?_
        refine a_getR hZ.1 (hZ.2 60 0 (by decide) (by decide) Nat.one_pos) fl_X11_24 rfl 0 rfl dX11_home_51 ?_
        refine a_iload dX11_home_54 0 rfl ?_
        obtain ⟨b4, hF⟩ := gd_some hF
        refine a_iald hZ.1 (s32 63 0 (((80 : Int32) * a1) + a2).toNatClampNeg) (hZ.2 63 0 (by decide) (by decide) Nat.one_pos) rfl rfl (inb_vp b4) rfl dX11_home_56 ?_
        refine a_i2l dX11_home_57 ?_
        refine a_lconst (v := (0 : Int64)) dX11_home_58 (by decide) ?_
        refine a_ldc2 (v := (5 : Int64)) kw_1247 dX11_home_59 ?_
        obtain ⟨r62, s62, e62, hF⟩ := bd_some hF
        refine a_invS hZ.1 (As := [.long (s32 63 0 (((80 : Int32) * a1) + a2).toNatClampNeg).toInt64, .long (0 : Int64), .long (5 : Int64)]) (rest := []) lk_X11_126 ⟨⟨by decide, by decide⟩, by decide, by decide⟩ rfl (Nat.le_of_ble_eq_true rfl) dX11_home_62 (m_X11_in hZ  e62) ?_
        show AW Z l iX11_home (Pq (rI R)) 0 0 65 [(4, .int (((80 : Int32) * a1) + a2)), (3, .int r32), (0, .ref (za Z 60 0)), (1, .int a1), (2, .int a2)] [.int r62] s62
        refine a_if_eq 159 dX11_home_65 (by decide) (fun c5 => ?_) (fun c5 => ?_)
        · replace hF := (if_pos c5).symm.trans hF
          refine a_loc [(0, .ref (za Z 60 0)), (4, .int (((80 : Int32) * a1) + a2))] [2, 0] rfl ?_
          exact w_X11_home_159 (l := l) hZ   (((80 : Int32) * a1) + a2)  _ hF
        · replace hF := (if_neg c5).symm.trans hF
          refine a_aload_n dX11_home_68 2 rfl rfl ?_
          refine a_getR hZ.1 (hZ.2 60 0 (by decide) (by decide) Nat.one_pos) fl_X11_24 rfl 0 rfl dX11_home_69 ?_
          refine a_iload dX11_home_72 0 rfl ?_
          refine a_iconst (v := (1 : Int32)) dX11_home_74 (by decide) ?_
          refine a_iadd dX11_home_75 ?_
          obtain ⟨b6, hF⟩ := gd_some hF
          refine a_iald hZ.1 (s62 63 0 ((((80 : Int32) * a1) + a2) + (1 : Int32)).toNatClampNeg) (hZ.2 63 0 (by decide) (by decide) Nat.one_pos) rfl rfl (inb_vp b6) rfl dX11_home_76 ?_
          refine a_i2l dX11_home_77 ?_
          refine a_lconst (v := (1 : Int64)) dX11_home_78 (by decide) ?_
          refine a_ldc2 (v := (12 : Int64)) kw_1329 dX11_home_79 ?_
          obtain ⟨r82, s82, e82, hF⟩ := bd_some hF
          refine a_invS hZ.1 (As := [.long (s62 63 0 ((((80 : Int32) * a1) + a2) + (1 : Int32)).toNatClampNeg).toInt64, .long (1 : Int64), .long (12 : Int64)]) (rest := []) lk_X11_126 ⟨⟨by decide, by decide⟩, by decide, by decide⟩ rfl (Nat.le_of_ble_eq_true rfl) dX11_home_82 (m_X11_in hZ  e82) ?_
          show AW Z l iX11_home (Pq (rI R)) 0 0 85 [(4, .int (((80 : Int32) * a1) + a2)), (3, .int r32), (0, .ref (za Z 60 0)), (1, .int a1), (2, .int a2)] [.int r82] s82
          refine a_if_eq 159 dX11_home_85 (by decide) (fun c7 => ?_) (fun c7 => ?_)
          · replace hF := (if_pos c7).symm.trans hF
            refine a_loc [(0, .ref (za Z 60 0)), (4, .int (((80 : Int32) * a1) + a2))] [2, 0] rfl ?_
            exact w_X11_home_159 (l := l) hZ   (((80 : Int32) * a1) + a2)  _ hF
          · replace hF := (if_neg c7).symm.trans hF
            refine a_aload_n dX11_home_88 2 rfl rfl ?_
            refine a_getR hZ.1 (hZ.2 60 0 (by decide) (by decide) Nat.one_pos) fl_X11_24 rfl 0 rfl dX11_home_89 ?_
            refine a_iload dX11_home_92 0 rfl ?_
            refine a_iconst (v := (2 : Int32)) dX11_home_94 (by decide) ?_
            refine a_iadd dX11_home_95 ?_
            obtain ⟨b8, hF⟩ := gd_some hF
            refine a_iald hZ.1 (s82 63 0 ((((80 : Int32) * a1) + a2) + (2 : Int32)).toNatClampNeg) (hZ.2 63 0 (by decide) (by decide) Nat.one_pos) rfl rfl (inb_vp b8) rfl dX11_home_96 ?_
            refine a_i2l dX11_home_97 ?_
            refine a_lconst (v := (0 : Int64)) dX11_home_98 (by decide) ?_
            refine a_aload_n dX11_home_99 2 rfl rfl ?_
            refine a_getR hZ.1 (hZ.2 60 0 (by decide) (by decide) Nat.one_pos) fl_X11_24 rfl 0 rfl dX11_home_100 ?_
            refine a_iload dX11_home_103 0 rfl ?_
            refine a_iconst (v := (1 : Int32)) dX11_home_105 (by decide) ?_
            refine a_iadd dX11_home_106 ?_
            obtain ⟨b9, hF⟩ := gd_some hF
            refine a_iald hZ.1 (s82 63 0 ((((80 : Int32) * a1) + a2) + (1 : Int32)).toNatClampNeg) (hZ.2 63 0 (by decide) (by decide) Nat.one_pos) rfl rfl (inb_vp b9) rfl dX11_home_107 ?_
            refine a_i2l dX11_home_108 ?_
            obtain ⟨r109, s109, e109, hF⟩ := bd_some hF
            refine a_invS hZ.1 (As := [.long (s82 63 0 ((((80 : Int32) * a1) + a2) + (2 : Int32)).toNatClampNeg).toInt64, .long (0 : Int64), .long (s82 63 0 ((((80 : Int32) * a1) + a2) + (1 : Int32)).toNatClampNeg).toInt64]) (rest := []) lk_X11_126 ⟨⟨by decide, by decide⟩, by decide, by decide⟩ rfl (Nat.le_of_ble_eq_true rfl) dX11_home_109 (m_X11_in hZ  e109) ?_
            show AW Z l iX11_home (Pq (rI R)) 0 0 112 [(4, .int (((80 : Int32) * a1) + a2)), (3, .int r32), (0, .ref (za Z 60 0)), (1, .int a1), (2, .int a2)] [.int r109] s109
            refine a_if_eq 159 dX11_home_112 (by decide) (fun c10 => ?_) (fun c10 => ?_)
            · replace hF := (if_pos c10).symm.trans hF
              refine a_loc [(0, .ref (za Z 60 0)), (4, .int (((80 : Int32) * a1) + a2))] [2, 0] rfl ?_
              exact w_X11_home_159 (l := l) hZ   (((80 : Int32) * a1) + a2)  _ hF
            · replace hF := (if_neg c10).symm.trans hF
              refine a_aload_n dX11_home_115 2 rfl rfl ?_
              refine a_getR hZ.1 (hZ.2 60 0 (by decide) (by decide) Nat.one_pos) fl_X11_24 rfl 0 rfl dX11_home_116 ?_
              refine a_iload dX11_home_119 0 rfl ?_
              refine a_iconst (v := (3 : Int32)) dX11_home_121 (by decide) ?_
              refine a_iadd dX11_home_122 ?_
              obtain ⟨b11, hF⟩ := gd_some hF
              refine a_iald hZ.1 (s109 63 0 ((((80 : Int32) * a1) + a2) + (3 : Int32)).toNatClampNeg) (hZ.2 63 0 (by decide) (by decide) Nat.one_pos) rfl rfl (inb_vp b11) rfl dX11_home_123 ?_
              refine a_i2l dX11_home_124 ?_
              refine a_lconst (v := (0 : Int64)) dX11_home_125 (by decide) ?_
              refine a_ldc2 (v := (9999 : Int64)) kw_1165 dX11_home_126 ?_
              obtain ⟨r129, s129, e129, hF⟩ := bd_some hF
              refine a_invS hZ.1 (As := [.long (s109 63 0 ((((80 : Int32) * a1) + a2) + (3 : Int32)).toNatClampNeg).toInt64, .long (0 : Int64), .long (9999 : Int64)]) (rest := []) lk_X11_126 ⟨⟨by decide, by decide⟩, by decide, by decide⟩ rfl (Nat.le_of_ble_eq_true rfl) dX11_home_129 (m_X11_in hZ  e129) ?_
              show AW Z l iX11_home (Pq (rI R)) 0 0 132 [(4, .int (((80 : Int32) * a1) + a2)), (3, .int r32), (0, .ref (za Z 60 0)), (1, .int a1), (2, .int a2)] [.int r129] s129
              refine a_if_eq 159 dX11_home_132 (by decide) (fun c12 => ?_) (fun c12 => ?_)
              · replace hF := (if_pos c12).symm.trans hF
                refine a_loc [(0, .ref (za Z 60 0)), (4, .int (((80 : Int32) * a1) + a2))] [2, 0] rfl ?_
                exact w_X11_home_159 (l := l) hZ   (((80 : Int32) * a1) + a2)  _ hF
              · replace hF := (if_neg c12).symm.trans hF
                refine a_aload_n dX11_home_135 2 rfl rfl ?_
                refine a_getR hZ.1 (hZ.2 60 0 (by decide) (by decide) Nat.one_pos) fl_X11_24 rfl 0 rfl dX11_home_136 ?_
                refine a_iload dX11_home_139 0 rfl ?_
                refine a_iconst (v := (4 : Int32)) dX11_home_141 (by decide) ?_
                refine a_iadd dX11_home_142 ?_
                obtain ⟨b13, hF⟩ := gd_some hF
                refine a_iald hZ.1 (s129 63 0 ((((80 : Int32) * a1) + a2) + (4 : Int32)).toNatClampNeg) (hZ.2 63 0 (by decide) (by decide) Nat.one_pos) rfl rfl (inb_vp b13) rfl dX11_home_143 ?_
                refine a_i2l dX11_home_144 ?_
                refine a_lconst (v := (0 : Int64)) dX11_home_145 (by decide) ?_
                refine a_ldc2 (v := (99 : Int64)) kw_1164 dX11_home_146 ?_
                obtain ⟨r149, s149, e149, hF⟩ := bd_some hF
                refine a_invS hZ.1 (As := [.long (s129 63 0 ((((80 : Int32) * a1) + a2) + (4 : Int32)).toNatClampNeg).toInt64, .long (0 : Int64), .long (99 : Int64)]) (rest := []) lk_X11_126 ⟨⟨by decide, by decide⟩, by decide, by decide⟩ rfl (Nat.le_of_ble_eq_true rfl) dX11_home_149 (m_X11_in hZ  e149) ?_
                show AW Z l iX11_home (Pq (rI R)) 0 0 152 [(4, .int (((80 : Int32) * a1) + a2)), (3, .int r32), (0, .ref (za Z 60 0)), (1, .int a1), (2, .int a2)] [.int r149] s149
                refine a_if_eq 159 dX11_home_152 (by decide) (fun c14 => ?_) (fun c14 => ?_)
                · replace hF := (if_pos c14).symm.trans hF
                  refine a_loc [(0, .ref (za Z 60 0)), (4, .int (((80 : Int32) * a1) + a2))] [2, 0] rfl ?_
                  exact w_X11_home_159 (l := l) hZ   (((80 : Int32) * a1) + a2)  _ hF
                · replace hF := (if_neg c14).symm.trans hF
                  refine a_iconst (v := (1 : Int32)) dX11_home_155 (by decide) ?_
                  refine a_goto 160 dX11_home_156 (by decide) ?_
                  refine a_loc [(0, .ref (za Z 60 0)), (4, .int (((80 : Int32) * a1) + a2))] [2, 0] rfl ?_
                  exact w_X11_home_160 (l := l) hZ   (((80 : Int32) * a1) + a2) (1 : Int32)  _ hF
      · replace hF := (if_neg c3).symm.trans hF
        refine a_iload_n dX11_home_40 0 rfl rfl ?_
        replace hF := Option.some.inj hF
        subst hF
        exact a_iret rfl (Nat.zero_le _) (Nat.zero_le _) dX11_home_41 ⟨rfl, rfl⟩
    · replace hF := (if_pos c2).symm.trans hF
      refine a_ldc (v := (-1000003)) kw_1176 dX11_home_24 ?_
      replace hF := Option.some.inj hF
      subst hF
      exact a_iret rfl (Nat.zero_le _) (Nat.zero_le _) dX11_home_26 ⟨rfl, rfl⟩
  · replace hF := (if_pos c1).symm.trans hF
    refine a_ldc (v := (-1000001)) kw_1136 dX11_home_12 ?_
    replace hF := Option.some.inj hF
    subst hF
    exact a_iret rfl (Nat.zero_le _) (Nat.zero_le _) dX11_home_14 ⟨rfl, rfl⟩
theorem m_X11_home {Z : ZE} {l : Launch} (hZ : OkM Z) {a1 : Int32} {a2 : Int32}  {s : St} {R : Int32 × St} (hF : F_X11_home (zg Z) a1 a2 s = some R) : Sp Z l yX11_home iX11_home [.ref (za Z 60 0), .int a1, .int a2] s (rI R) :=
  Sp.of (by decide) rfl (Nat.le_of_ble_eq_true rfl) (w_X11_home hZ  s hF)
-- X11_house
def F_X11_house (g : Nat × Nat) (a1 : Int32) (a2 : Int32)   (s : St) : Option (Int32 × St) := (bd (F_X11_in g a1.toInt64 (0 : Int64) (((s 60 0 42) - (1 : Int32)).toInt64) (up s 60 0 0 (0 : Int32))) (fun r15 s15 => (if r15 = 0 then (some ((-1000001), s15)) else (bd (F_X11_in g a2.toInt64 (0 : Int64) (10 : Int64) s15) (fun r27 s27 => (if r27 = 0 then (some ((-1000001), s27)) else (gd (inb (((11 : Int32) * a1) + a2) 132) (some ((s27 84 0 (((11 : Int32) * a1) + a2).toNatClampNeg), s27)))))))))
set_option maxRecDepth 100000 in
set_option maxHeartbeats 4000000 in
theorem w_X11_house {Z : ZE} {l : Launch} (hZ : OkM Z) {a1 : Int32} {a2 : Int32}  {R : Int32 × St}    (s : St) (hF : F_X11_house (zg Z) a1 a2  s = some R) : AW Z l iX11_house (Pq (rI R)) 0 0 0 [(0, .ref (za Z 60 0)), (1, .int a1), (2, .int a2)] [] s := by
  unfold F_X11_house at hF
  refine a_aload_n dX11_house_0 0 rfl rfl ?_
  refine a_iconst (v := (0 : Int32)) dX11_house_1 (by decide) ?_
  refine a_put hZ.1 (hZ.2 60 0 (by decide) (by decide) Nat.one_pos) fl_X11_1 rfl rfl rfl dX11_house_2 ?_
  refine a_iload_n dX11_house_5 1 rfl rfl ?_
  refine a_i2l dX11_house_6 ?_
  refine a_lconst (v := (0 : Int64)) dX11_house_7 (by decide) ?_
  refine a_aload_n dX11_house_8 0 rfl rfl ?_
  refine a_getI hZ.1 (s 60 0 42) (hZ.2 60 0 (by decide) (by decide) Nat.one_pos) fl_X11_202 rfl (by simp [up]) dX11_house_9 ?_
  refine a_iconst (v := (1 : Int32)) dX11_house_12 (by decide) ?_
  refine a_isub dX11_house_13 ?_
  refine a_i2l dX11_house_14 ?_
  obtain ⟨r15, s15, e15, hF⟩ := bd_some hF
  refine a_invS hZ.1 (As := [.long a1.toInt64, .long (0 : Int64), .long ((s 60 0 42) - (1 : Int32)).toInt64]) (rest := []) lk_X11_126 ⟨⟨by decide, by decide⟩, by decide, by decide⟩ rfl (Nat.le_of_ble_eq_true rfl) dX11_house_15 (m_X11_in hZ  e15) ?_
  show AW Z l iX11_house (Pq (rI R)) 0 0 18 [(0, .ref (za Z 60 0)), (1, .int a1), (2, .int a2)] [.int r15] s15
  refine a_if_eq 33 dX11_house_18 (by decide) (fun c1 => ?_) (fun c1 => ?_)
  · replace hF := (if_pos c1).symm.trans hF
    refine a_ldc (v := (-1000001)) kw_1136 dX11_house_33 ?_
    refine a_goto 49 dX11_house_35 (by decide) ?_
    replace hF := Option.some.inj hF
    subst hF
    exact a_iret rfl (Nat.zero_le _) (Nat.zero_le _) dX11_house_49 ⟨rfl, rfl⟩
  · replace hF := (if_neg c1).symm.trans hF
    refine a_iload_n dX11_house_21 2 rfl rfl ?_
    refine a_i2l dX11_house_22 ?_
    refine a_lconst (v := (0 : Int64)) dX11_house_23 (by decide) ?_
    refine a_ldc2 (v := (10 : Int64)) kw_1315 dX11_house_24 ?_
    obtain ⟨r27, s27, e27, hF⟩ := bd_some hF
    refine a_invS hZ.1 (As := [.long a2.toInt64, .long (0 : Int64), .long (10 : Int64)]) (rest := []) lk_X11_126 ⟨⟨by decide, by decide⟩, by decide, by decide⟩ rfl (Nat.le_of_ble_eq_true rfl) dX11_house_27 (m_X11_in hZ  e27) ?_
    show AW Z l iX11_house (Pq (rI R)) 0 0 30 [(0, .ref (za Z 60 0)), (1, .int a1), (2, .int a2)] [.int r27] s27
    refine a_if_ne 38 dX11_house_30 (by decide) (fun c2 => ?_) (fun c2 => ?_)
    · replace hF := (if_neg c2).symm.trans hF
      refine a_aload_n dX11_house_38 0 rfl rfl ?_
      refine a_getR hZ.1 (hZ.2 60 0 (by decide) (by decide) Nat.one_pos) fl_X11_91 rfl 0 rfl dX11_house_39 ?_
      refine a_bipush (v := (11 : Int32)) dX11_house_42 (by decide) ?_
      refine a_iload_n dX11_house_44 1 rfl rfl ?_
      refine a_imul dX11_house_45 ?_
      refine a_iload_n dX11_house_46 2 rfl rfl ?_
      refine a_iadd dX11_house_47 ?_
      obtain ⟨b3, hF⟩ := gd_some hF
      refine a_iald hZ.1 (s27 84 0 (((11 : Int32) * a1) + a2).toNatClampNeg) (hZ.2 84 0 (by decide) (by decide) Nat.one_pos) rfl rfl (inb_vp b3) rfl dX11_house_48 ?_
      replace hF := Option.some.inj hF
      subst hF
      exact a_iret rfl (Nat.zero_le _) (Nat.zero_le _) dX11_house_49 ⟨rfl, rfl⟩
    · replace hF := (if_pos c2).symm.trans hF
      refine a_ldc (v := (-1000001)) kw_1136 dX11_house_33 ?_
      refine a_goto 49 dX11_house_35 (by decide) ?_
      replace hF := Option.some.inj hF
      subst hF
      exact a_iret rfl (Nat.zero_le _) (Nat.zero_le _) dX11_house_49 ⟨rfl, rfl⟩
theorem m_X11_house {Z : ZE} {l : Launch} (hZ : OkM Z) {a1 : Int32} {a2 : Int32}  {s : St} {R : Int32 × St} (hF : F_X11_house (zg Z) a1 a2 s = some R) : Sp Z l yX11_house iX11_house [.ref (za Z 60 0), .int a1, .int a2] s (rI R) :=
  Sp.of (by decide) rfl (Nat.le_of_ble_eq_true rfl) (w_X11_house hZ  s hF)
-- X11_isFigure
def F_X11_isFigure (g : Nat × Nat) (a0 : Int32)   (s : St) : Option (Int32 × St) := (if a0 < (48 : Int32) then (some ((0 : Int32), s)) else (if (57 : Int32) < a0 then (some ((0 : Int32), s)) else (some ((1 : Int32), s))))
set_option maxRecDepth 100000 in
set_option maxHeartbeats 4000000 in
theorem w_X11_isFigure {Z : ZE} {l : Launch} (hZ : OkM Z) {a0 : Int32}  {R : Int32 × St}    (s : St) (hF : F_X11_isFigure (zg Z) a0  s = some R) : AW Z l iX11_isFigure (Pq (rI R)) 0 0 0 [(0, .int a0)] [] s := by
  unfold F_X11_isFigure at hF
  refine a_iload_n dX11_isFigure_0 0 rfl rfl ?_
  refine a_bipush (v := (48 : Int32)) dX11_isFigure_1 (by decide) ?_
  refine a_icmp_lt 16 dX11_isFigure_3 (by decide) (fun c1 => ?_) (fun c1 => ?_)
  · replace hF := (if_pos c1).symm.trans hF
    refine a_iconst (v := (0 : Int32)) dX11_isFigure_16 (by decide) ?_
    replace hF := Option.some.inj hF
    subst hF
    exact a_zret rfl rfl (Nat.zero_le _) (Nat.zero_le _) dX11_isFigure_17 ⟨rfl, rfl⟩
  · replace hF := (if_neg c1).symm.trans hF
    refine a_iload_n dX11_isFigure_6 0 rfl rfl ?_
    refine a_bipush (v := (57 : Int32)) dX11_isFigure_7 (by decide) ?_
    refine a_icmp_gt 16 dX11_isFigure_9 (by decide) (fun c2 => ?_) (fun c2 => ?_)
    · replace hF := (if_pos c2).symm.trans hF
      refine a_iconst (v := (0 : Int32)) dX11_isFigure_16 (by decide) ?_
      replace hF := Option.some.inj hF
      subst hF
      exact a_zret rfl rfl (Nat.zero_le _) (Nat.zero_le _) dX11_isFigure_17 ⟨rfl, rfl⟩
    · replace hF := (if_neg c2).symm.trans hF
      refine a_iconst (v := (1 : Int32)) dX11_isFigure_12 (by decide) ?_
      refine a_goto 17 dX11_isFigure_13 (by decide) ?_
      replace hF := Option.some.inj hF
      subst hF
      exact a_zret rfl rfl (Nat.zero_le _) (Nat.zero_le _) dX11_isFigure_17 ⟨rfl, rfl⟩
theorem m_X11_isFigure {Z : ZE} {l : Launch} (hZ : OkM Z) {a0 : Int32}  {s : St} {R : Int32 × St} (hF : F_X11_isFigure (zg Z) a0 s = some R) : Sp Z l yX11_isFigure iX11_isFigure [.int a0] s (rI R) :=
  Sp.of (by decide) rfl (Nat.le_of_ble_eq_true rfl) (w_X11_isFigure hZ  s hF)
-- X11_isLetter
def F_X11_isLetter (g : Nat × Nat) (a0 : Int32)   (s : St) : Option (Int32 × St) := (if a0 < (97 : Int32) then (some ((0 : Int32), s)) else (if (122 : Int32) < a0 then (some ((0 : Int32), s)) else (some ((1 : Int32), s))))
set_option maxRecDepth 100000 in
set_option maxHeartbeats 4000000 in
theorem w_X11_isLetter {Z : ZE} {l : Launch} (hZ : OkM Z) {a0 : Int32}  {R : Int32 × St}    (s : St) (hF : F_X11_isLetter (zg Z) a0  s = some R) : AW Z l iX11_isLetter (Pq (rI R)) 0 0 0 [(0, .int a0)] [] s := by
  unfold F_X11_isLetter at hF
  refine a_iload_n dX11_isLetter_0 0 rfl rfl ?_
  refine a_bipush (v := (97 : Int32)) dX11_isLetter_1 (by decide) ?_
  refine a_icmp_lt 16 dX11_isLetter_3 (by decide) (fun c1 => ?_) (fun c1 => ?_)
  · replace hF := (if_pos c1).symm.trans hF
    refine a_iconst (v := (0 : Int32)) dX11_isLetter_16 (by decide) ?_
    replace hF := Option.some.inj hF
    subst hF
    exact a_zret rfl rfl (Nat.zero_le _) (Nat.zero_le _) dX11_isLetter_17 ⟨rfl, rfl⟩
  · replace hF := (if_neg c1).symm.trans hF
    refine a_iload_n dX11_isLetter_6 0 rfl rfl ?_
    refine a_bipush (v := (122 : Int32)) dX11_isLetter_7 (by decide) ?_
    refine a_icmp_gt 16 dX11_isLetter_9 (by decide) (fun c2 => ?_) (fun c2 => ?_)
    · replace hF := (if_pos c2).symm.trans hF
      refine a_iconst (v := (0 : Int32)) dX11_isLetter_16 (by decide) ?_
      replace hF := Option.some.inj hF
      subst hF
      exact a_zret rfl rfl (Nat.zero_le _) (Nat.zero_le _) dX11_isLetter_17 ⟨rfl, rfl⟩
    · replace hF := (if_neg c2).symm.trans hF
      refine a_iconst (v := (1 : Int32)) dX11_isLetter_12 (by decide) ?_
      refine a_goto 17 dX11_isLetter_13 (by decide) ?_
      replace hF := Option.some.inj hF
      subst hF
      exact a_zret rfl rfl (Nat.zero_le _) (Nat.zero_le _) dX11_isLetter_17 ⟨rfl, rfl⟩
theorem m_X11_isLetter {Z : ZE} {l : Launch} (hZ : OkM Z) {a0 : Int32}  {s : St} {R : Int32 × St} (hF : F_X11_isLetter (zg Z) a0 s = some R) : Sp Z l yX11_isLetter iX11_isLetter [.int a0] s (rI R) :=
  Sp.of (by decide) rfl (Nat.le_of_ble_eq_true rfl) (w_X11_isLetter hZ  s hF)
-- X11_isMill
def F_X11_isMill (g : Nat × Nat) (a1 : Int32)   (s : St) : Option (Int32 × St) := (bd (F_X11_in g a1.toInt64 (0 : Int64) (((s 60 0 15) - (1 : Int32)).toInt64) s) (fun r10 s10 => (gd (isb r10) (some (r10, s10)))))
set_option maxRecDepth 100000 in
set_option maxHeartbeats 4000000 in
theorem w_X11_isMill {Z : ZE} {l : Launch} (hZ : OkM Z) {a1 : Int32}  {R : Int32 × St}    (s : St) (hF : F_X11_isMill (zg Z) a1  s = some R) : AW Z l iX11_isMill (Pq (rI R)) 0 0 0 [(0, .ref (za Z 60 0)), (1, .int a1)] [] s := by
  unfold F_X11_isMill at hF
  refine a_iload_n dX11_isMill_0 1 rfl rfl ?_
  refine a_i2l dX11_isMill_1 ?_
  refine a_lconst (v := (0 : Int64)) dX11_isMill_2 (by decide) ?_
  refine a_aload_n dX11_isMill_3 0 rfl rfl ?_
  refine a_getI hZ.1 (s 60 0 15) (hZ.2 60 0 (by decide) (by decide) Nat.one_pos) fl_X11_145 rfl rfl dX11_isMill_4 ?_
  refine a_iconst (v := (1 : Int32)) dX11_isMill_7 (by decide) ?_
  refine a_isub dX11_isMill_8 ?_
  refine a_i2l dX11_isMill_9 ?_
  obtain ⟨r10, s10, e10, hF⟩ := bd_some hF
  refine a_invS hZ.1 (As := [.long a1.toInt64, .long (0 : Int64), .long ((s 60 0 15) - (1 : Int32)).toInt64]) (rest := []) lk_X11_126 ⟨⟨by decide, by decide⟩, by decide, by decide⟩ rfl (Nat.le_of_ble_eq_true rfl) dX11_isMill_10 (m_X11_in hZ  e10) ?_
  show AW Z l iX11_isMill (Pq (rI R)) 0 0 13 [(0, .ref (za Z 60 0)), (1, .int a1)] [.int r10] s10
  obtain ⟨b1, hF⟩ := gd_some hF
  replace hF := Option.some.inj hF
  subst hF
  exact a_zret rfl (isb_n b1) (Nat.zero_le _) (Nat.zero_le _) dX11_isMill_13 ⟨rfl, rfl⟩
theorem m_X11_isMill {Z : ZE} {l : Launch} (hZ : OkM Z) {a1 : Int32}  {s : St} {R : Int32 × St} (hF : F_X11_isMill (zg Z) a1 s = some R) : Sp Z l yX11_isMill iX11_isMill [.ref (za Z 60 0), .int a1] s (rI R) :=
  Sp.of (by decide) rfl (Nat.le_of_ble_eq_true rfl) (w_X11_isMill hZ  s hF)
-- X11_isSort
def F_X11_isSort (g : Nat × Nat) (a0 : Int32)   (s : St) : Option (Int32 × St) := (bd (F_X11_in g a0.toInt64 (0 : Int64) (3 : Int64) s) (fun r6 s6 => (gd (isb r6) (some (r6, s6)))))
set_option maxRecDepth 100000 in
set_option maxHeartbeats 4000000 in
theorem w_X11_isSort {Z : ZE} {l : Launch} (hZ : OkM Z) {a0 : Int32}  {R : Int32 × St}    (s : St) (hF : F_X11_isSort (zg Z) a0  s = some R) : AW Z l iX11_isSort (Pq (rI R)) 0 0 0 [(0, .int a0)] [] s := by
  unfold F_X11_isSort at hF
  refine a_iload_n dX11_isSort_0 0 rfl rfl ?_
  refine a_i2l dX11_isSort_1 ?_
  refine a_lconst (v := (0 : Int64)) dX11_isSort_2 (by decide) ?_
  refine a_ldc2 (v := (3 : Int64)) kw_1162 dX11_isSort_3 ?_
  obtain ⟨r6, s6, e6, hF⟩ := bd_some hF
  refine a_invS hZ.1 (As := [.long a0.toInt64, .long (0 : Int64), .long (3 : Int64)]) (rest := []) lk_X11_126 ⟨⟨by decide, by decide⟩, by decide, by decide⟩ rfl (Nat.le_of_ble_eq_true rfl) dX11_isSort_6 (m_X11_in hZ  e6) ?_
  show AW Z l iX11_isSort (Pq (rI R)) 0 0 9 [(0, .int a0)] [.int r6] s6
  obtain ⟨b1, hF⟩ := gd_some hF
  replace hF := Option.some.inj hF
  subst hF
  exact a_zret rfl (isb_n b1) (Nat.zero_le _) (Nat.zero_le _) dX11_isSort_9 ⟨rfl, rfl⟩
theorem m_X11_isSort {Z : ZE} {l : Launch} (hZ : OkM Z) {a0 : Int32}  {s : St} {R : Int32 × St} (hF : F_X11_isSort (zg Z) a0 s = some R) : Sp Z l yX11_isSort iX11_isSort [.int a0] s (rI R) :=
  Sp.of (by decide) rfl (Nat.le_of_ble_eq_true rfl) (w_X11_isSort hZ  s hF)
-- X11_kind
def F_X11_kind (g : Nat × Nat) (a1 : Int32)   (s : St) : Option (Int32 × St) := (bd (F_X11_isThing g a1 (up s 60 0 0 (0 : Int32))) (fun r7 s7 => (if r7 = 0 then (some ((-1000001), s7)) else (gd (inb a1 16) (some ((s7 88 0 a1.toNatClampNeg), s7))))))
set_option maxRecDepth 100000 in
set_option maxHeartbeats 4000000 in
theorem w_X11_kind {Z : ZE} {l : Launch} (hZ : OkM Z) {a1 : Int32}  {R : Int32 × St}    (s : St) (hF : F_X11_kind (zg Z) a1  s = some R) : AW Z l iX11_kind (Pq (rI R)) 0 0 0 [(0, .ref (za Z 60 0)), (1, .int a1)] [] s := by
  unfold F_X11_kind at hF
  refine a_aload_n dX11_kind_0 0 rfl rfl ?_
  refine a_iconst (v := (0 : Int32)) dX11_kind_1 (by decide) ?_
  refine a_put hZ.1 (hZ.2 60 0 (by decide) (by decide) Nat.one_pos) fl_X11_1 rfl rfl rfl dX11_kind_2 ?_
  refine a_aload_n dX11_kind_5 0 rfl rfl ?_
  refine a_iload_n dX11_kind_6 1 rfl rfl ?_
  obtain ⟨r7, s7, e7, hF⟩ := bd_some hF
  refine a_invV hZ.1 (As := [.int a1]) (rest := []) (hZ.2 60 0 (by decide) (by decide) Nat.one_pos) lk_X11_329 ⟨⟨by decide, by decide⟩, by decide, by decide⟩ rfl (Nat.le_of_ble_eq_true rfl) dX11_kind_7 (m_X11_isThing hZ  e7) ?_
  show AW Z l iX11_kind (Pq (rI R)) 0 0 10 [(0, .ref (za Z 60 0)), (1, .int a1)] [.int r7] s7
  refine a_if_eq 22 dX11_kind_10 (by decide) (fun c1 => ?_) (fun c1 => ?_)
  · replace hF := (if_pos c1).symm.trans hF
    refine a_ldc (v := (-1000001)) kw_1136 dX11_kind_22 ?_
    replace hF := Option.some.inj hF
    subst hF
    exact a_iret rfl (Nat.zero_le _) (Nat.zero_le _) dX11_kind_24 ⟨rfl, rfl⟩
  · replace hF := (if_neg c1).symm.trans hF
    refine a_aload_n dX11_kind_13 0 rfl rfl ?_
    refine a_getR hZ.1 (hZ.2 60 0 (by decide) (by decide) Nat.one_pos) fl_X11_103 rfl 0 rfl dX11_kind_14 ?_
    refine a_iload_n dX11_kind_17 1 rfl rfl ?_
    obtain ⟨b2, hF⟩ := gd_some hF
    refine a_iald hZ.1 (s7 88 0 a1.toNatClampNeg) (hZ.2 88 0 (by decide) (by decide) Nat.one_pos) rfl rfl (inb_vp b2) rfl dX11_kind_18 ?_
    refine a_goto 24 dX11_kind_19 (by decide) ?_
    replace hF := Option.some.inj hF
    subst hF
    exact a_iret rfl (Nat.zero_le _) (Nat.zero_le _) dX11_kind_24 ⟨rfl, rfl⟩
theorem m_X11_kind {Z : ZE} {l : Launch} (hZ : OkM Z) {a1 : Int32}  {s : St} {R : Int32 × St} (hF : F_X11_kind (zg Z) a1 s = some R) : Sp Z l yX11_kind iX11_kind [.ref (za Z 60 0), .int a1] s (rI R) :=
  Sp.of (by decide) rfl (Nat.le_of_ble_eq_true rfl) (w_X11_kind hZ  s hF)
-- X11_known
def F_X11_known_77 (g : Nat × Nat) (a1 : Int32) (a2 : Int32) (h32_ : Int32 → Int32 → St → Option (Int32 × St)) (v4 : Int32) (x0 : Int32) (x1 : Int32) (s : St) : Option (Int32 × St) := (h32_ (x0 ||| x1) (v4 + 1) s)
set_option maxRecDepth 100000 in
set_option maxHeartbeats 4000000 in
theorem w_X11_known_77 {Z : ZE} {l : Launch} (hZ : OkM Z) {a1 : Int32} {a2 : Int32}  {R : Int32 × St} (h32_ : Int32 → Int32 → St → Option (Int32 × St)) (w32_ : ∀ (v3 : Int32) (v4 : Int32)  (s : St), h32_ v3 v4 s = some R → AW Z l iX11_known (Pq (rI R)) 0 0 32 [(0, .ref (za Z 60 0)), (1, .int a1), (2, .int a2), (3, .int v3), (4, .int v4)] [] s) (v4 : Int32) (x0 : Int32) (x1 : Int32)  (s : St) (hF : F_X11_known_77 (zg Z) a1 a2 h32_ v4 x0 x1 s = some R) : AW Z l iX11_known (Pq (rI R)) 0 0 77 [(0, .ref (za Z 60 0)), (1, .int a1), (2, .int a2), (4, .int v4)] [.int x1, .int x0] s := by
  unfold F_X11_known_77 at hF
  refine a_ior dX11_known_77 ?_
  refine a_istore_n [(3, .int (x0 ||| x1)), (0, .ref (za Z 60 0)), (1, .int a1), (2, .int a2), (4, .int v4)] dX11_known_78 rfl (by decide) rfl ?_
  refine a_iinc [(4, .int (v4 + 1)), (3, .int (x0 ||| x1)), (0, .ref (za Z 60 0)), (1, .int a1), (2, .int a2)] dX11_known_79 4 rfl rfl (by decide) rfl ?_
  refine a_goto 32 dX11_known_82 (by decide) ?_
  refine a_loc [(0, .ref (za Z 60 0)), (1, .int a1), (2, .int a2), (3, .int (x0 ||| x1)), (4, .int (v4 + 1))] [2, 3, 4, 1, 0] rfl ?_
  exact w32_ (x0 ||| x1) (v4 + 1)  _ hF
def F_X11_known_76 (g : Nat × Nat) (a1 : Int32) (a2 : Int32) (h32_ : Int32 → Int32 → St → Option (Int32 × St)) (v4 : Int32) (x0 : Int32) (s : St) : Option (Int32 × St) := (F_X11_known_77 g a1 a2 h32_ v4 x0 (0 : Int32) s)
set_option maxRecDepth 100000 in
set_option maxHeartbeats 4000000 in
theorem w_X11_known_76 {Z : ZE} {l : Launch} (hZ : OkM Z) {a1 : Int32} {a2 : Int32}  {R : Int32 × St} (h32_ : Int32 → Int32 → St → Option (Int32 × St)) (w32_ : ∀ (v3 : Int32) (v4 : Int32)  (s : St), h32_ v3 v4 s = some R → AW Z l iX11_known (Pq (rI R)) 0 0 32 [(0, .ref (za Z 60 0)), (1, .int a1), (2, .int a2), (3, .int v3), (4, .int v4)] [] s) (v4 : Int32) (x0 : Int32)  (s : St) (hF : F_X11_known_76 (zg Z) a1 a2 h32_ v4 x0 s = some R) : AW Z l iX11_known (Pq (rI R)) 0 0 76 [(0, .ref (za Z 60 0)), (1, .int a1), (2, .int a2), (4, .int v4)] [.int x0] s := by
  unfold F_X11_known_76 at hF
  refine a_iconst (v := (0 : Int32)) dX11_known_76 (by decide) ?_
  exact w_X11_known_77 (l := l) hZ  h32_ w32_ v4 x0 (0 : Int32)  _ hF
def F_X11_known_32 (g : Nat × Nat) (a1 : Int32) (a2 : Int32)  : Nat → Int32 → Int32 → St → Option (Int32 × St)
  | 0, _, _, _ => none
  | n_ + 1, v3, v4, s => (if (s 60 0 51) ≤ v4 then (some (v3, s)) else (gd (inb v4 20) (if (s 93 0 v4.toNatClampNeg) = a1 then (gd (inb v4 20) (if a2 < (s 92 0 v4.toNatClampNeg) then (F_X11_known_76 g a1 a2 (F_X11_known_32 g a1 a2  n_) v4 v3 s) else (gd (inb v4 20) (F_X11_known_77 g a1 a2 (F_X11_known_32 g a1 a2  n_) v4 v3 ((1 : Int32) <<< ((s 91 0 v4.toNatClampNeg) &&& 31)) s)))) else (F_X11_known_76 g a1 a2 (F_X11_known_32 g a1 a2  n_) v4 v3 s))))
set_option maxRecDepth 100000 in
set_option maxHeartbeats 4000000 in
theorem w_X11_known_32 {Z : ZE} {l : Launch} (hZ : OkM Z) {a1 : Int32} {a2 : Int32}  {R : Int32 × St}  : ∀ (n_ : Nat) (v3 : Int32) (v4 : Int32)  (s : St), F_X11_known_32 (zg Z) a1 a2 n_ v3 v4 s = some R → AW Z l iX11_known (Pq (rI R)) 0 0 32 [(0, .ref (za Z 60 0)), (1, .int a1), (2, .int a2), (3, .int v3), (4, .int v4)] [] s := by
  intro n_
  induction n_ with
  | zero =>
    intro v3 v4 s hF
    exact absurd hF (by rw [F_X11_known_32]; exact fun q => by cases q)
  | succ n_ w32_ =>
    intro v3 v4 s hF
    rw [F_X11_known_32] at hF
    refine a_iload dX11_known_32 4 rfl ?_
    refine a_aload_n dX11_known_34 0 rfl rfl ?_
    refine a_getI hZ.1 (s 60 0 51) (hZ.2 60 0 (by decide) (by decide) Nat.one_pos) fl_X11_334 rfl rfl dX11_known_35 ?_
    refine a_icmp_ge 85 dX11_known_38 (by decide) (fun c1 => ?_) (fun c1 => ?_)
    · replace hF := (if_pos c1).symm.trans hF
      refine a_iload_n dX11_known_85 3 rfl rfl ?_
      replace hF := Option.some.inj hF
      subst hF
      exact a_iret rfl (Nat.zero_le _) (Nat.zero_le _) dX11_known_86 ⟨rfl, rfl⟩
    · replace hF := (if_neg c1).symm.trans hF
      refine a_iload_n dX11_known_41 3 rfl rfl ?_
      refine a_aload_n dX11_known_42 0 rfl rfl ?_
      refine a_getR hZ.1 (hZ.2 60 0 (by decide) (by decide) Nat.one_pos) fl_X11_118 rfl 0 rfl dX11_known_43 ?_
      refine a_iload dX11_known_46 4 rfl ?_
      obtain ⟨b2, hF⟩ := gd_some hF
      refine a_iald hZ.1 (s 93 0 v4.toNatClampNeg) (hZ.2 93 0 (by decide) (by decide) Nat.one_pos) rfl rfl (inb_vp b2) rfl dX11_known_48 ?_
      refine a_iload_n dX11_known_49 1 rfl rfl ?_
      refine a_icmp_ne 76 dX11_known_50 (by decide) (fun c3 => ?_) (fun c3 => ?_)
      · replace hF := (if_neg c3).symm.trans hF
        refine a_loc [(0, .ref (za Z 60 0)), (1, .int a1), (2, .int a2), (4, .int v4)] [0, 1, 2, 4] rfl ?_
        exact w_X11_known_76 (l := l) hZ  (F_X11_known_32 (zg Z) a1 a2 n_) w32_ v4 v3  _ hF
      · replace hF := (if_pos c3).symm.trans hF
        refine a_aload_n dX11_known_53 0 rfl rfl ?_
        refine a_getR hZ.1 (hZ.2 60 0 (by decide) (by decide) Nat.one_pos) fl_X11_115 rfl 0 rfl dX11_known_54 ?_
        refine a_iload dX11_known_57 4 rfl ?_
        obtain ⟨b4, hF⟩ := gd_some hF
        refine a_iald hZ.1 (s 92 0 v4.toNatClampNeg) (hZ.2 92 0 (by decide) (by decide) Nat.one_pos) rfl rfl (inb_vp b4) rfl dX11_known_59 ?_
        refine a_iload_n dX11_known_60 2 rfl rfl ?_
        refine a_icmp_gt 76 dX11_known_61 (by decide) (fun c5 => ?_) (fun c5 => ?_)
        · replace hF := (if_pos c5).symm.trans hF
          refine a_loc [(0, .ref (za Z 60 0)), (1, .int a1), (2, .int a2), (4, .int v4)] [0, 1, 2, 4] rfl ?_
          exact w_X11_known_76 (l := l) hZ  (F_X11_known_32 (zg Z) a1 a2 n_) w32_ v4 v3  _ hF
        · replace hF := (if_neg c5).symm.trans hF
          refine a_iconst (v := (1 : Int32)) dX11_known_64 (by decide) ?_
          refine a_aload_n dX11_known_65 0 rfl rfl ?_
          refine a_getR hZ.1 (hZ.2 60 0 (by decide) (by decide) Nat.one_pos) fl_X11_112 rfl 0 rfl dX11_known_66 ?_
          refine a_iload dX11_known_69 4 rfl ?_
          obtain ⟨b6, hF⟩ := gd_some hF
          refine a_iald hZ.1 (s 91 0 v4.toNatClampNeg) (hZ.2 91 0 (by decide) (by decide) Nat.one_pos) rfl rfl (inb_vp b6) rfl dX11_known_71 ?_
          refine a_ishl dX11_known_72 ?_
          refine a_goto 77 dX11_known_73 (by decide) ?_
          refine a_loc [(0, .ref (za Z 60 0)), (1, .int a1), (2, .int a2), (4, .int v4)] [0, 1, 2, 4] rfl ?_
          exact w_X11_known_77 (l := l) hZ  (F_X11_known_32 (zg Z) a1 a2 n_) w32_ v4 v3 ((1 : Int32) <<< ((s 91 0 v4.toNatClampNeg) &&& 31))  _ hF
def F_X11_known (g : Nat × Nat) (a1 : Int32) (a2 : Int32)   (s : St) : Option (Int32 × St) := (bd (F_X11_in g a1.toInt64 (0 : Int64) (3 : Int64) (up s 60 0 0 (0 : Int32))) (fun r11 s11 => (if r11 = 0 then (some ((-1000001), s11)) else (bd (F_X11_isWeek g a2 s11) (fun r18 s18 => (if r18 = 0 then (some ((-1000001), s18)) else (F_X11_known_32 g a1 a2  fu (0 : Int32) (0 : Int32) s18)))))))
set_option maxRecDepth 100000 in
set_option maxHeartbeats 4000000 in
theorem w_X11_known {Z : ZE} {l : Launch} (hZ : OkM Z) {a1 : Int32} {a2 : Int32}  {R : Int32 × St}    (s : St) (hF : F_X11_known (zg Z) a1 a2  s = some R) : AW Z l iX11_known (Pq (rI R)) 0 0 0 [(0, .ref (za Z 60 0)), (1, .int a1), (2, .int a2)] [] s := by
  unfold F_X11_known at hF
  refine a_aload_n dX11_known_0 0 rfl rfl ?_
  refine a_iconst (v := (0 : Int32)) dX11_known_1 (by decide) ?_
  refine a_put hZ.1 (hZ.2 60 0 (by decide) (by decide) Nat.one_pos) fl_X11_1 rfl rfl rfl dX11_known_2 ?_
  refine a_iload_n dX11_known_5 1 rfl rfl ?_
  refine a_i2l dX11_known_6 ?_
  refine a_lconst (v := (0 : Int64)) dX11_known_7 (by decide) ?_
  refine a_ldc2 (v := (3 : Int64)) kw_1162 dX11_known_8 ?_
  obtain ⟨r11, s11, e11, hF⟩ := bd_some hF
  refine a_invS hZ.1 (As := [.long a1.toInt64, .long (0 : Int64), .long (3 : Int64)]) (rest := []) lk_X11_126 ⟨⟨by decide, by decide⟩, by decide, by decide⟩ rfl (Nat.le_of_ble_eq_true rfl) dX11_known_11 (m_X11_in hZ  e11) ?_
  show AW Z l iX11_known (Pq (rI R)) 0 0 14 [(0, .ref (za Z 60 0)), (1, .int a1), (2, .int a2)] [.int r11] s11
  refine a_if_eq 24 dX11_known_14 (by decide) (fun c1 => ?_) (fun c1 => ?_)
  · replace hF := (if_pos c1).symm.trans hF
    refine a_ldc (v := (-1000001)) kw_1136 dX11_known_24 ?_
    replace hF := Option.some.inj hF
    subst hF
    exact a_iret rfl (Nat.zero_le _) (Nat.zero_le _) dX11_known_26 ⟨rfl, rfl⟩
  · replace hF := (if_neg c1).symm.trans hF
    refine a_iload_n dX11_known_17 2 rfl rfl ?_
    obtain ⟨r18, s18, e18, hF⟩ := bd_some hF
    refine a_invS hZ.1 (As := [.int a2]) (rest := []) lk_X11_164 ⟨⟨by decide, by decide⟩, by decide, by decide⟩ rfl (Nat.le_of_ble_eq_true rfl) dX11_known_18 (m_X11_isWeek hZ  e18) ?_
    show AW Z l iX11_known (Pq (rI R)) 0 0 21 [(0, .ref (za Z 60 0)), (1, .int a1), (2, .int a2)] [.int r18] s18
    refine a_if_ne 27 dX11_known_21 (by decide) (fun c2 => ?_) (fun c2 => ?_)
    · replace hF := (if_neg c2).symm.trans hF
      refine a_iconst (v := (0 : Int32)) dX11_known_27 (by decide) ?_
      refine a_istore_n [(3, .int (0 : Int32)), (0, .ref (za Z 60 0)), (1, .int a1), (2, .int a2)] dX11_known_28 rfl (by decide) rfl ?_
      refine a_iconst (v := (0 : Int32)) dX11_known_29 (by decide) ?_
      refine a_istore [(4, .int (0 : Int32)), (3, .int (0 : Int32)), (0, .ref (za Z 60 0)), (1, .int a1), (2, .int a2)] dX11_known_30 (by decide) rfl ?_
      refine a_loc [(0, .ref (za Z 60 0)), (1, .int a1), (2, .int a2), (3, .int (0 : Int32)), (4, .int (0 : Int32))] [2, 3, 4, 1, 0] rfl ?_
      exact w_X11_known_32 (l := l) hZ   fu (0 : Int32) (0 : Int32)  _ hF
    · replace hF := (if_pos c2).symm.trans hF
      refine a_ldc (v := (-1000001)) kw_1136 dX11_known_24 ?_
      replace hF := Option.some.inj hF
      subst hF
      exact a_iret rfl (Nat.zero_le _) (Nat.zero_le _) dX11_known_26 ⟨rfl, rfl⟩
theorem m_X11_known {Z : ZE} {l : Launch} (hZ : OkM Z) {a1 : Int32} {a2 : Int32}  {s : St} {R : Int32 × St} (hF : F_X11_known (zg Z) a1 a2 s = some R) : Sp Z l yX11_known iX11_known [.ref (za Z 60 0), .int a1, .int a2] s (rI R) :=
  Sp.of (by decide) rfl (Nat.le_of_ble_eq_true rfl) (w_X11_known hZ  s hF)
-- X11_next
def F_X11_next_196 (g : Nat × Nat)    (s : St) : Option (Unit × St) := (some ((), (up s 60 0 37 (s 60 0 34))))
set_option maxRecDepth 100000 in
set_option maxHeartbeats 4000000 in
theorem w_X11_next_196 {Z : ZE} {l : Launch} (hZ : OkM Z)   {R : Unit × St}    (s : St) (hF : F_X11_next_196 (zg Z)   s = some R) : AW Z l iX11_next (Pq (rU R)) 0 0 196 [(0, .ref (za Z 60 0))] [] s := by
  unfold F_X11_next_196 at hF
  refine a_aload_n dX11_next_196 0 rfl rfl ?_
  refine a_aload_n dX11_next_197 0 rfl rfl ?_
  refine a_getI hZ.1 (s 60 0 34) (hZ.2 60 0 (by decide) (by decide) Nat.one_pos) fl_X11_225 rfl rfl dX11_next_198 ?_
  refine a_put hZ.1 (hZ.2 60 0 (by decide) (by decide) Nat.one_pos) fl_X11_243 rfl rfl rfl dX11_next_201 ?_
  replace hF := Option.some.inj hF
  subst hF
  exact a_vret rfl (Nat.zero_le _) (Nat.zero_le _) dX11_next_204 ⟨rfl, rfl⟩
def F_X11_next_193 (g : Nat × Nat)   (x1 : Int32) (s : St) : Option (Unit × St) := (F_X11_next_196 g    (up s 60 0 35 x1))
set_option maxRecDepth 100000 in
set_option maxHeartbeats 4000000 in
theorem w_X11_next_193 {Z : ZE} {l : Launch} (hZ : OkM Z)   {R : Unit × St}  (x1 : Int32)  (s : St) (hF : F_X11_next_193 (zg Z)  x1 s = some R) : AW Z l iX11_next (Pq (rU R)) 0 0 193 [(0, .ref (za Z 60 0))] [.int x1, .ref (za Z 60 0)] s := by
  unfold F_X11_next_193 at hF
  refine a_put hZ.1 (hZ.2 60 0 (by decide) (by decide) Nat.one_pos) fl_X11_234 rfl rfl rfl dX11_next_193 ?_
  exact w_X11_next_196 (l := l) hZ     _ hF
def F_X11_next_165 (g : Nat × Nat)   (x1 : Int32) (s : St) : Option (Unit × St) := (F_X11_next_196 g    (up s 60 0 35 x1))
set_option maxRecDepth 100000 in
set_option maxHeartbeats 4000000 in
theorem w_X11_next_165 {Z : ZE} {l : Launch} (hZ : OkM Z)   {R : Unit × St}  (x1 : Int32)  (s : St) (hF : F_X11_next_165 (zg Z)  x1 s = some R) : AW Z l iX11_next (Pq (rU R)) 0 0 165 [(0, .ref (za Z 60 0))] [.int x1, .ref (za Z 60 0)] s := by
  unfold F_X11_next_165 at hF
  refine a_put hZ.1 (hZ.2 60 0 (by decide) (by decide) Nat.one_pos) fl_X11_234 rfl rfl rfl dX11_next_165 ?_
  refine a_goto 196 dX11_next_168 (by decide) ?_
  exact w_X11_next_196 (l := l) hZ     _ hF
def F_X11_next_146 (g : Nat × Nat)    (s : St) : Option (Unit × St) := (if ((s 60 0 34) - (s 60 0 36)) ≤ (4 : Int32) then (F_X11_next_165 g   (3 : Int32) s) else (F_X11_next_165 g   (0 : Int32) s))
set_option maxRecDepth 100000 in
set_option maxHeartbeats 4000000 in
theorem w_X11_next_146 {Z : ZE} {l : Launch} (hZ : OkM Z)   {R : Unit × St}    (s : St) (hF : F_X11_next_146 (zg Z)   s = some R) : AW Z l iX11_next (Pq (rU R)) 0 0 146 [(0, .ref (za Z 60 0))] [] s := by
  unfold F_X11_next_146 at hF
  refine a_aload_n dX11_next_146 0 rfl rfl ?_
  refine a_aload_n dX11_next_147 0 rfl rfl ?_
  refine a_getI hZ.1 (s 60 0 34) (hZ.2 60 0 (by decide) (by decide) Nat.one_pos) fl_X11_225 rfl rfl dX11_next_148 ?_
  refine a_aload_n dX11_next_151 0 rfl rfl ?_
  refine a_getI hZ.1 (s 60 0 36) (hZ.2 60 0 (by decide) (by decide) Nat.one_pos) fl_X11_231 rfl rfl dX11_next_152 ?_
  refine a_isub dX11_next_155 ?_
  refine a_iconst (v := (4 : Int32)) dX11_next_156 (by decide) ?_
  refine a_icmp_le 164 dX11_next_157 (by decide) (fun c1 => ?_) (fun c1 => ?_)
  · replace hF := (if_pos c1).symm.trans hF
    refine a_iconst (v := (3 : Int32)) dX11_next_164 (by decide) ?_
    exact w_X11_next_165 (l := l) hZ   (3 : Int32)  _ hF
  · replace hF := (if_neg c1).symm.trans hF
    refine a_iconst (v := (0 : Int32)) dX11_next_160 (by decide) ?_
    refine a_goto 165 dX11_next_161 (by decide) ?_
    exact w_X11_next_165 (l := l) hZ   (0 : Int32)  _ hF
def F_X11_next_119 (g : Nat × Nat)  (h146_ : St → Option (Unit × St)) : Nat → St → Option (Unit × St)
  | 0, _ => none
  | n_ + 1, s => (bd (F_X11_byteAt g (s 60 0 34) s) (fun r124 s124 => (bd (F_X11_isFigure g r124 s124) (fun r127 s127 => (if r127 = 0 then (h146_  s127) else (F_X11_next_119 g  h146_ n_  (up s127 60 0 34 ((s127 60 0 34) + (1 : Int32)))))))))
set_option maxRecDepth 100000 in
set_option maxHeartbeats 4000000 in
theorem w_X11_next_119 {Z : ZE} {l : Launch} (hZ : OkM Z)   {R : Unit × St} (h146_ : St → Option (Unit × St)) (w146_ : ∀   (s : St), h146_  s = some R → AW Z l iX11_next (Pq (rU R)) 0 0 146 [(0, .ref (za Z 60 0))] [] s) : ∀ (n_ : Nat)   (s : St), F_X11_next_119 (zg Z)  h146_ n_  s = some R → AW Z l iX11_next (Pq (rU R)) 0 0 119 [(0, .ref (za Z 60 0))] [] s := by
  intro n_
  induction n_ with
  | zero =>
    intro  s hF
    exact absurd hF (by rw [F_X11_next_119]; exact fun q => by cases q)
  | succ n_ w119_ =>
    intro  s hF
    rw [F_X11_next_119] at hF
    refine a_aload_n dX11_next_119 0 rfl rfl ?_
    refine a_aload_n dX11_next_120 0 rfl rfl ?_
    refine a_getI hZ.1 (s 60 0 34) (hZ.2 60 0 (by decide) (by decide) Nat.one_pos) fl_X11_225 rfl rfl dX11_next_121 ?_
    obtain ⟨r124, s124, e124, hF⟩ := bd_some hF
    refine a_invV hZ.1 (As := [.int (s 60 0 34)]) (rest := []) (hZ.2 60 0 (by decide) (by decide) Nat.one_pos) lk_X11_228 ⟨⟨by decide, by decide⟩, by decide, by decide⟩ rfl (Nat.le_of_ble_eq_true rfl) dX11_next_124 (m_X11_byteAt hZ  e124) ?_
    show AW Z l iX11_next (Pq (rU R)) 0 0 127 [(0, .ref (za Z 60 0))] [.int r124] s124
    obtain ⟨r127, s127, e127, hF⟩ := bd_some hF
    refine a_invS hZ.1 (As := [.int r124]) (rest := []) lk_X11_240 ⟨⟨by decide, by decide⟩, by decide, by decide⟩ rfl (Nat.le_of_ble_eq_true rfl) dX11_next_127 (m_X11_isFigure hZ  e127) ?_
    show AW Z l iX11_next (Pq (rU R)) 0 0 130 [(0, .ref (za Z 60 0))] [.int r127] s127
    refine a_if_eq 146 dX11_next_130 (by decide) (fun c1 => ?_) (fun c1 => ?_)
    · replace hF := (if_pos c1).symm.trans hF
      exact w146_   _ hF
    · replace hF := (if_neg c1).symm.trans hF
      refine a_aload_n dX11_next_133 0 rfl rfl ?_
      refine a_dup dX11_next_134 rfl ?_
      refine a_getI hZ.1 (s127 60 0 34) (hZ.2 60 0 (by decide) (by decide) Nat.one_pos) fl_X11_225 rfl rfl dX11_next_135 ?_
      refine a_iconst (v := (1 : Int32)) dX11_next_138 (by decide) ?_
      refine a_iadd dX11_next_139 ?_
      refine a_put hZ.1 (hZ.2 60 0 (by decide) (by decide) Nat.one_pos) fl_X11_225 rfl rfl rfl dX11_next_140 ?_
      refine a_goto 119 dX11_next_143 (by decide) ?_
      exact w119_   _ hF
def F_X11_next_104 (g : Nat × Nat)    (s : St) : Option (Unit × St) := (F_X11_next_196 g    (up s 60 0 35 (2 : Int32)))
set_option maxRecDepth 100000 in
set_option maxHeartbeats 4000000 in
theorem w_X11_next_104 {Z : ZE} {l : Launch} (hZ : OkM Z)   {R : Unit × St}    (s : St) (hF : F_X11_next_104 (zg Z)   s = some R) : AW Z l iX11_next (Pq (rU R)) 0 0 104 [(0, .ref (za Z 60 0))] [] s := by
  unfold F_X11_next_104 at hF
  refine a_aload_n dX11_next_104 0 rfl rfl ?_
  refine a_iconst (v := (2 : Int32)) dX11_next_105 (by decide) ?_
  refine a_put hZ.1 (hZ.2 60 0 (by decide) (by decide) Nat.one_pos) fl_X11_234 rfl rfl rfl dX11_next_106 ?_
  refine a_goto 196 dX11_next_109 (by decide) ?_
  exact w_X11_next_196 (l := l) hZ     _ hF
def F_X11_next_77 (g : Nat × Nat)  (h104_ : St → Option (Unit × St)) : Nat → St → Option (Unit × St)
  | 0, _ => none
  | n_ + 1, s => (bd (F_X11_byteAt g (s 60 0 34) s) (fun r82 s82 => (bd (F_X11_isLetter g r82 s82) (fun r85 s85 => (if r85 = 0 then (h104_  s85) else (F_X11_next_77 g  h104_ n_  (up s85 60 0 34 ((s85 60 0 34) + (1 : Int32)))))))))
set_option maxRecDepth 100000 in
set_option maxHeartbeats 4000000 in
theorem w_X11_next_77 {Z : ZE} {l : Launch} (hZ : OkM Z)   {R : Unit × St} (h104_ : St → Option (Unit × St)) (w104_ : ∀   (s : St), h104_  s = some R → AW Z l iX11_next (Pq (rU R)) 0 0 104 [(0, .ref (za Z 60 0))] [] s) : ∀ (n_ : Nat)   (s : St), F_X11_next_77 (zg Z)  h104_ n_  s = some R → AW Z l iX11_next (Pq (rU R)) 0 0 77 [(0, .ref (za Z 60 0))] [] s := by
  intro n_
  induction n_ with
  | zero =>
    intro  s hF
    exact absurd hF (by rw [F_X11_next_77]; exact fun q => by cases q)
  | succ n_ w77_ =>
    intro  s hF
    rw [F_X11_next_77] at hF
    refine a_aload_n dX11_next_77 0 rfl rfl ?_
    refine a_aload_n dX11_next_78 0 rfl rfl ?_
    refine a_getI hZ.1 (s 60 0 34) (hZ.2 60 0 (by decide) (by decide) Nat.one_pos) fl_X11_225 rfl rfl dX11_next_79 ?_
    obtain ⟨r82, s82, e82, hF⟩ := bd_some hF
    refine a_invV hZ.1 (As := [.int (s 60 0 34)]) (rest := []) (hZ.2 60 0 (by decide) (by decide) Nat.one_pos) lk_X11_228 ⟨⟨by decide, by decide⟩, by decide, by decide⟩ rfl (Nat.le_of_ble_eq_true rfl) dX11_next_82 (m_X11_byteAt hZ  e82) ?_
    show AW Z l iX11_next (Pq (rU R)) 0 0 85 [(0, .ref (za Z 60 0))] [.int r82] s82
    obtain ⟨r85, s85, e85, hF⟩ := bd_some hF
    refine a_invS hZ.1 (As := [.int r82]) (rest := []) lk_X11_237 ⟨⟨by decide, by decide⟩, by decide, by decide⟩ rfl (Nat.le_of_ble_eq_true rfl) dX11_next_85 (m_X11_isLetter hZ  e85) ?_
    show AW Z l iX11_next (Pq (rU R)) 0 0 88 [(0, .ref (za Z 60 0))] [.int r85] s85
    refine a_if_eq 104 dX11_next_88 (by decide) (fun c1 => ?_) (fun c1 => ?_)
    · replace hF := (if_pos c1).symm.trans hF
      exact w104_   _ hF
    · replace hF := (if_neg c1).symm.trans hF
      refine a_aload_n dX11_next_91 0 rfl rfl ?_
      refine a_dup dX11_next_92 rfl ?_
      refine a_getI hZ.1 (s85 60 0 34) (hZ.2 60 0 (by decide) (by decide) Nat.one_pos) fl_X11_225 rfl rfl dX11_next_93 ?_
      refine a_iconst (v := (1 : Int32)) dX11_next_96 (by decide) ?_
      refine a_iadd dX11_next_97 ?_
      refine a_put hZ.1 (hZ.2 60 0 (by decide) (by decide) Nat.one_pos) fl_X11_225 rfl rfl rfl dX11_next_98 ?_
      refine a_goto 77 dX11_next_101 (by decide) ?_
      exact w77_   _ hF
def F_X11_next_39 (g : Nat × Nat)    (s : St) : Option (Unit × St) := (bd (F_X11_byteAt g (s 60 0 34) (up s 60 0 36 (s 60 0 34))) (fun r52 s52 => (if r52 = (-1000000) then (F_X11_next_196 g    (up s52 60 0 35 (1 : Int32))) else (bd (F_X11_isLetter g r52 s52) (fun r71 s71 => (if r71 = 0 then (bd (F_X11_isFigure g r52 s71) (fun r113 s113 => (if r113 = 0 then (if r52 = (59 : Int32) then (F_X11_next_193 g   (4 : Int32) (up s113 60 0 34 ((s113 60 0 34) + (1 : Int32)))) else (F_X11_next_193 g   (0 : Int32) (up s113 60 0 34 ((s113 60 0 34) + (1 : Int32))))) else ((F_X11_next_119 g  (F_X11_next_146 g  ) fu)  s113)))) else ((F_X11_next_77 g  (F_X11_next_104 g  ) fu)  s71)))))))
set_option maxRecDepth 100000 in
set_option maxHeartbeats 4000000 in
theorem w_X11_next_39 {Z : ZE} {l : Launch} (hZ : OkM Z)   {R : Unit × St}    (s : St) (hF : F_X11_next_39 (zg Z)   s = some R) : AW Z l iX11_next (Pq (rU R)) 0 0 39 [(0, .ref (za Z 60 0))] [] s := by
  unfold F_X11_next_39 at hF
  refine a_aload_n dX11_next_39 0 rfl rfl ?_
  refine a_aload_n dX11_next_40 0 rfl rfl ?_
  refine a_getI hZ.1 (s 60 0 34) (hZ.2 60 0 (by decide) (by decide) Nat.one_pos) fl_X11_225 rfl rfl dX11_next_41 ?_
  refine a_put hZ.1 (hZ.2 60 0 (by decide) (by decide) Nat.one_pos) fl_X11_231 rfl rfl rfl dX11_next_44 ?_
  refine a_aload_n dX11_next_47 0 rfl rfl ?_
  refine a_aload_n dX11_next_48 0 rfl rfl ?_
  refine a_getI hZ.1 (s 60 0 34) (hZ.2 60 0 (by decide) (by decide) Nat.one_pos) fl_X11_225 rfl (by simp [up]) dX11_next_49 ?_
  obtain ⟨r52, s52, e52, hF⟩ := bd_some hF
  refine a_invV hZ.1 (As := [.int (s 60 0 34)]) (rest := []) (hZ.2 60 0 (by decide) (by decide) Nat.one_pos) lk_X11_228 ⟨⟨by decide, by decide⟩, by decide, by decide⟩ rfl (Nat.le_of_ble_eq_true rfl) dX11_next_52 (m_X11_byteAt hZ  e52) ?_
  show AW Z l iX11_next (Pq (rU R)) 0 0 55 [(0, .ref (za Z 60 0))] [.int r52] s52
  refine a_istore_n [(1, .int r52), (0, .ref (za Z 60 0))] dX11_next_55 rfl (by decide) rfl ?_
  refine a_iload_n dX11_next_56 0 rfl rfl ?_
  refine a_ldc (v := (-1000000)) kw_951 dX11_next_57 ?_
  refine a_icmp_ne 70 dX11_next_59 (by decide) (fun c1 => ?_) (fun c1 => ?_)
  · replace hF := (if_neg c1).symm.trans hF
    refine a_iload_n dX11_next_70 0 rfl rfl ?_
    obtain ⟨r71, s71, e71, hF⟩ := bd_some hF
    refine a_invS hZ.1 (As := [.int r52]) (rest := []) lk_X11_237 ⟨⟨by decide, by decide⟩, by decide, by decide⟩ rfl (Nat.le_of_ble_eq_true rfl) dX11_next_71 (m_X11_isLetter hZ  e71) ?_
    show AW Z l iX11_next (Pq (rU R)) 0 0 74 [(1, .int r52), (0, .ref (za Z 60 0))] [.int r71] s71
    refine a_if_eq 112 dX11_next_74 (by decide) (fun c2 => ?_) (fun c2 => ?_)
    · replace hF := (if_pos c2).symm.trans hF
      refine a_iload_n dX11_next_112 0 rfl rfl ?_
      obtain ⟨r113, s113, e113, hF⟩ := bd_some hF
      refine a_invS hZ.1 (As := [.int r52]) (rest := []) lk_X11_240 ⟨⟨by decide, by decide⟩, by decide, by decide⟩ rfl (Nat.le_of_ble_eq_true rfl) dX11_next_113 (m_X11_isFigure hZ  e113) ?_
      show AW Z l iX11_next (Pq (rU R)) 0 0 116 [(1, .int r52), (0, .ref (za Z 60 0))] [.int r113] s113
      refine a_if_eq 171 dX11_next_116 (by decide) (fun c3 => ?_) (fun c3 => ?_)
      · replace hF := (if_pos c3).symm.trans hF
        refine a_aload_n dX11_next_171 1 rfl rfl ?_
        refine a_dup dX11_next_172 rfl ?_
        refine a_getI hZ.1 (s113 60 0 34) (hZ.2 60 0 (by decide) (by decide) Nat.one_pos) fl_X11_225 rfl rfl dX11_next_173 ?_
        refine a_iconst (v := (1 : Int32)) dX11_next_176 (by decide) ?_
        refine a_iadd dX11_next_177 ?_
        refine a_put hZ.1 (hZ.2 60 0 (by decide) (by decide) Nat.one_pos) fl_X11_225 rfl rfl rfl dX11_next_178 ?_
        refine a_aload_n dX11_next_181 1 rfl rfl ?_
        refine a_iload_n dX11_next_182 0 rfl rfl ?_
        refine a_bipush (v := (59 : Int32)) dX11_next_183 (by decide) ?_
        refine a_icmp_ne 192 dX11_next_185 (by decide) (fun c4 => ?_) (fun c4 => ?_)
        · replace hF := (if_neg c4).symm.trans hF
          refine a_iconst (v := (0 : Int32)) dX11_next_192 (by decide) ?_
          refine a_loc [(0, .ref (za Z 60 0))] [1] rfl ?_
          exact w_X11_next_193 (l := l) hZ   (0 : Int32)  _ hF
        · replace hF := (if_pos c4).symm.trans hF
          refine a_iconst (v := (4 : Int32)) dX11_next_188 (by decide) ?_
          refine a_goto 193 dX11_next_189 (by decide) ?_
          refine a_loc [(0, .ref (za Z 60 0))] [1] rfl ?_
          exact w_X11_next_193 (l := l) hZ   (4 : Int32)  _ hF
      · replace hF := (if_neg c3).symm.trans hF
        refine a_loc [(0, .ref (za Z 60 0))] [1] rfl ?_
        exact w_X11_next_119 (l := l) hZ  (F_X11_next_146 (zg Z)  ) (w_X11_next_146 (l := l) hZ  ) fu   _ hF
    · replace hF := (if_neg c2).symm.trans hF
      refine a_loc [(0, .ref (za Z 60 0))] [1] rfl ?_
      exact w_X11_next_77 (l := l) hZ  (F_X11_next_104 (zg Z)  ) (w_X11_next_104 (l := l) hZ  ) fu   _ hF
  · replace hF := (if_pos c1).symm.trans hF
    refine a_aload_n dX11_next_62 1 rfl rfl ?_
    refine a_iconst (v := (1 : Int32)) dX11_next_63 (by decide) ?_
    refine a_put hZ.1 (hZ.2 60 0 (by decide) (by decide) Nat.one_pos) fl_X11_234 rfl rfl rfl dX11_next_64 ?_
    refine a_goto 196 dX11_next_67 (by decide) ?_
    refine a_loc [(0, .ref (za Z 60 0))] [1] rfl ?_
    exact w_X11_next_196 (l := l) hZ     _ hF
def F_X11_next_26 (g : Nat × Nat)  (h0_ : St → Option (Unit × St)) (h39_ : St → Option (Unit × St))  (s : St) : Option (Unit × St) := (h0_  (up s 60 0 34 ((s 60 0 34) + (1 : Int32))))
set_option maxRecDepth 100000 in
set_option maxHeartbeats 4000000 in
theorem w_X11_next_26 {Z : ZE} {l : Launch} (hZ : OkM Z)   {R : Unit × St} (h0_ : St → Option (Unit × St)) (w0_ : ∀   (s : St), h0_  s = some R → AW Z l iX11_next (Pq (rU R)) 0 0 0 [(0, .ref (za Z 60 0))] [] s) (h39_ : St → Option (Unit × St)) (w39_ : ∀   (s : St), h39_  s = some R → AW Z l iX11_next (Pq (rU R)) 0 0 39 [(0, .ref (za Z 60 0))] [] s)   (s : St) (hF : F_X11_next_26 (zg Z)  h0_ h39_  s = some R) : AW Z l iX11_next (Pq (rU R)) 0 0 26 [(0, .ref (za Z 60 0))] [] s := by
  unfold F_X11_next_26 at hF
  refine a_aload_n dX11_next_26 0 rfl rfl ?_
  refine a_dup dX11_next_27 rfl ?_
  refine a_getI hZ.1 (s 60 0 34) (hZ.2 60 0 (by decide) (by decide) Nat.one_pos) fl_X11_225 rfl rfl dX11_next_28 ?_
  refine a_iconst (v := (1 : Int32)) dX11_next_31 (by decide) ?_
  refine a_iadd dX11_next_32 ?_
  refine a_put hZ.1 (hZ.2 60 0 (by decide) (by decide) Nat.one_pos) fl_X11_225 rfl rfl rfl dX11_next_33 ?_
  refine a_goto 0 dX11_next_36 (by decide) ?_
  exact w0_   _ hF
def F_X11_next_0 (g : Nat × Nat)  (h39_ : St → Option (Unit × St)) : Nat → St → Option (Unit × St)
  | 0, _ => none
  | n_ + 1, s => (bd (F_X11_byteAt g (s 60 0 34) s) (fun r5 s5 => (if r5 = (32 : Int32) then (F_X11_next_26 g  (F_X11_next_0 g  h39_ n_) h39_  s5) else (bd (F_X11_byteAt g (s5 60 0 34) s5) (fun r18 s18 => (if r18 = (10 : Int32) then (F_X11_next_26 g  (F_X11_next_0 g  h39_ n_) h39_  s18) else (h39_  s18)))))))
set_option maxRecDepth 100000 in
set_option maxHeartbeats 4000000 in
theorem w_X11_next_0 {Z : ZE} {l : Launch} (hZ : OkM Z)   {R : Unit × St} (h39_ : St → Option (Unit × St)) (w39_ : ∀   (s : St), h39_  s = some R → AW Z l iX11_next (Pq (rU R)) 0 0 39 [(0, .ref (za Z 60 0))] [] s) : ∀ (n_ : Nat)   (s : St), F_X11_next_0 (zg Z)  h39_ n_  s = some R → AW Z l iX11_next (Pq (rU R)) 0 0 0 [(0, .ref (za Z 60 0))] [] s := by
  intro n_
  induction n_ with
  | zero =>
    intro  s hF
    exact absurd hF (by rw [F_X11_next_0]; exact fun q => by cases q)
  | succ n_ w0_ =>
    intro  s hF
    rw [F_X11_next_0] at hF
    refine a_aload_n dX11_next_0 0 rfl rfl ?_
    refine a_aload_n dX11_next_1 0 rfl rfl ?_
    refine a_getI hZ.1 (s 60 0 34) (hZ.2 60 0 (by decide) (by decide) Nat.one_pos) fl_X11_225 rfl rfl dX11_next_2 ?_
    obtain ⟨r5, s5, e5, hF⟩ := bd_some hF
    refine a_invV hZ.1 (As := [.int (s 60 0 34)]) (rest := []) (hZ.2 60 0 (by decide) (by decide) Nat.one_pos) lk_X11_228 ⟨⟨by decide, by decide⟩, by decide, by decide⟩ rfl (Nat.le_of_ble_eq_true rfl) dX11_next_5 (m_X11_byteAt hZ  e5) ?_
    show AW Z l iX11_next (Pq (rU R)) 0 0 8 [(0, .ref (za Z 60 0))] [.int r5] s5
    refine a_bipush (v := (32 : Int32)) dX11_next_8 (by decide) ?_
    refine a_icmp_eq 26 dX11_next_10 (by decide) (fun c1 => ?_) (fun c1 => ?_)
    · replace hF := (if_pos c1).symm.trans hF
      exact w_X11_next_26 (l := l) hZ  (F_X11_next_0 (zg Z)  h39_ n_) w0_ h39_ w39_   _ hF
    · replace hF := (if_neg c1).symm.trans hF
      refine a_aload_n dX11_next_13 0 rfl rfl ?_
      refine a_aload_n dX11_next_14 0 rfl rfl ?_
      refine a_getI hZ.1 (s5 60 0 34) (hZ.2 60 0 (by decide) (by decide) Nat.one_pos) fl_X11_225 rfl rfl dX11_next_15 ?_
      obtain ⟨r18, s18, e18, hF⟩ := bd_some hF
      refine a_invV hZ.1 (As := [.int (s5 60 0 34)]) (rest := []) (hZ.2 60 0 (by decide) (by decide) Nat.one_pos) lk_X11_228 ⟨⟨by decide, by decide⟩, by decide, by decide⟩ rfl (Nat.le_of_ble_eq_true rfl) dX11_next_18 (m_X11_byteAt hZ  e18) ?_
      show AW Z l iX11_next (Pq (rU R)) 0 0 21 [(0, .ref (za Z 60 0))] [.int r18] s18
      refine a_bipush (v := (10 : Int32)) dX11_next_21 (by decide) ?_
      refine a_icmp_ne 39 dX11_next_23 (by decide) (fun c2 => ?_) (fun c2 => ?_)
      · replace hF := (if_neg c2).symm.trans hF
        exact w39_   _ hF
      · replace hF := (if_pos c2).symm.trans hF
        exact w_X11_next_26 (l := l) hZ  (F_X11_next_0 (zg Z)  h39_ n_) w0_ h39_ w39_   _ hF
def F_X11_next (g : Nat × Nat)    (s : St) : Option (Unit × St) := (bd (F_X11_byteAt g (s 60 0 34) s) (fun r5 s5 => (if r5 = (32 : Int32) then (h26_  s5) else (bd (F_X11_byteAt g (s5 60 0 34) s5) (fun r18 s18 => (if r18 = (10 : Int32) then (h26_  s18) else (F_X11_next_39 g    s18)))))))
set_option maxRecDepth 100000 in
set_option maxHeartbeats 4000000 in
theorem w_X11_next {Z : ZE} {l : Launch} (hZ : OkM Z)   {R : Unit × St}    (s : St) (hF : F_X11_next (zg Z)   s = some R) : AW Z l iX11_next (Pq (rU R)) 0 0 0 [(0, .ref (za Z 60 0))] [] s := by
  unfold F_X11_next at hF
  refine a_aload_n dX11_next_0 0 rfl rfl ?_
  refine a_aload_n dX11_next_1 0 rfl rfl ?_
  refine a_getI hZ.1 (s 60 0 34) (hZ.2 60 0 (by decide) (by decide) Nat.one_pos) fl_X11_225 rfl rfl dX11_next_2 ?_
  obtain ⟨r5, s5, e5, hF⟩ := bd_some hF
  refine a_invV hZ.1 (As := [.int (s 60 0 34)]) (rest := []) (hZ.2 60 0 (by decide) (by decide) Nat.one_pos) lk_X11_228 ⟨⟨by decide, by decide⟩, by decide, by decide⟩ rfl (Nat.le_of_ble_eq_true rfl) dX11_next_5 (m_X11_byteAt hZ  e5) ?_
  show AW Z l iX11_next (Pq (rU R)) 0 0 8 [(0, .ref (za Z 60 0))] [.int r5] s5
  refine a_bipush (v := (32 : Int32)) dX11_next_8 (by decide) ?_
  refine a_icmp_eq 26 dX11_next_10 (by decide) (fun c1 => ?_) (fun c1 => ?_)
  · replace hF := (if_pos c1).symm.trans hF
    exact w26_   _ hF
  · replace hF := (if_neg c1).symm.trans hF
    refine a_aload_n dX11_next_13 0 rfl rfl ?_
    refine a_aload_n dX11_next_14 0 rfl rfl ?_
    refine a_getI hZ.1 (s5 60 0 34) (hZ.2 60 0 (by decide) (by decide) Nat.one_pos) fl_X11_225 rfl rfl dX11_next_15 ?_
    obtain ⟨r18, s18, e18, hF⟩ := bd_some hF
    refine a_invV hZ.1 (As := [.int (s5 60 0 34)]) (rest := []) (hZ.2 60 0 (by decide) (by decide) Nat.one_pos) lk_X11_228 ⟨⟨by decide, by decide⟩, by decide, by decide⟩ rfl (Nat.le_of_ble_eq_true rfl) dX11_next_18 (m_X11_byteAt hZ  e18) ?_
    show AW Z l iX11_next (Pq (rU R)) 0 0 21 [(0, .ref (za Z 60 0))] [.int r18] s18
    refine a_bipush (v := (10 : Int32)) dX11_next_21 (by decide) ?_
    refine a_icmp_ne 39 dX11_next_23 (by decide) (fun c2 => ?_) (fun c2 => ?_)
    · replace hF := (if_neg c2).symm.trans hF
      exact w_X11_next_39 (l := l) hZ     _ hF
    · replace hF := (if_pos c2).symm.trans hF
      exact w26_   _ hF
theorem m_X11_next {Z : ZE} {l : Launch} (hZ : OkM Z)   {s : St} {R : Unit × St} (hF : F_X11_next (zg Z)  s = some R) : Sp Z l yX11_next iX11_next [.ref (za Z 60 0)] s (rU R) :=
  Sp.of (by decide) rfl (Nat.le_of_ble_eq_true rfl) (w_X11_next hZ  s hF)
-- X11_must
def F_X11_must_9 (g : Nat × Nat) (a1 : Int32)   (s : St) : Option (Unit × St) := (if (s 60 0 38) = 0 then (bd (F_X11_next g  s) (fun r17 s17 => (some ((), s17)))) else (some ((), s)))
set_option maxRecDepth 100000 in
set_option maxHeartbeats 4000000 in
theorem w_X11_must_9 {Z : ZE} {l : Launch} (hZ : OkM Z) {a1 : Int32}  {R : Unit × St}    (s : St) (hF : F_X11_must_9 (zg Z) a1  s = some R) : AW Z l iX11_must (Pq (rU R)) 0 0 9 [(0, .ref (za Z 60 0))] [] s := by
  unfold F_X11_must_9 at hF
  refine a_aload_n dX11_must_9 0 rfl rfl ?_
  refine a_getI hZ.1 (s 60 0 38) (hZ.2 60 0 (by decide) (by decide) Nat.one_pos) fl_X11_246 rfl rfl dX11_must_10 ?_
  refine a_if_ne 20 dX11_must_13 (by decide) (fun c1 => ?_) (fun c1 => ?_)
  · replace hF := (if_neg c1).symm.trans hF
    replace hF := Option.some.inj hF
    subst hF
    exact a_vret rfl (Nat.zero_le _) (Nat.zero_le _) dX11_must_20 ⟨rfl, rfl⟩
  · replace hF := (if_pos c1).symm.trans hF
    refine a_aload_n dX11_must_16 0 rfl rfl ?_
    obtain ⟨r17, s17, e17, hF⟩ := bd_some hF
    refine a_invV hZ.1 (As := []) (rest := []) (hZ.2 60 0 (by decide) (by decide) Nat.one_pos) lk_X11_255 ⟨⟨by decide, by decide⟩, by decide, by decide⟩ rfl (Nat.le_of_ble_eq_true rfl) dX11_must_17 (m_X11_next hZ  e17) ?_
    show AW Z l iX11_must (Pq (rU R)) 0 0 20 [(0, .ref (za Z 60 0))] [] s17
    replace hF := Option.some.inj hF
    subst hF
    exact a_vret rfl (Nat.zero_le _) (Nat.zero_le _) dX11_must_20 ⟨rfl, rfl⟩
def F_X11_must (g : Nat × Nat) (a1 : Int32)   (s : St) : Option (Unit × St) := (if a1 = 0 then (bd (F_X11_bad g (1 : Int32) s) (fun r6 s6 => (F_X11_must_9 g a1   s6))) else (F_X11_must_9 g a1   s))
set_option maxRecDepth 100000 in
set_option maxHeartbeats 4000000 in
theorem w_X11_must {Z : ZE} {l : Launch} (hZ : OkM Z) {a1 : Int32}  {R : Unit × St}    (s : St) (hF : F_X11_must (zg Z) a1  s = some R) : AW Z l iX11_must (Pq (rU R)) 0 0 0 [(0, .ref (za Z 60 0)), (1, .int a1)] [] s := by
  unfold F_X11_must at hF
  refine a_iload_n dX11_must_0 1 rfl rfl ?_
  refine a_if_ne 9 dX11_must_1 (by decide) (fun c1 => ?_) (fun c1 => ?_)
  · replace hF := (if_neg c1).symm.trans hF
    refine a_loc [(0, .ref (za Z 60 0))] [0] rfl ?_
    exact w_X11_must_9 (l := l) hZ     _ hF
  · replace hF := (if_pos c1).symm.trans hF
    refine a_aload_n dX11_must_4 0 rfl rfl ?_
    refine a_iconst (v := (1 : Int32)) dX11_must_5 (by decide) ?_
    obtain ⟨r6, s6, e6, hF⟩ := bd_some hF
    refine a_invV hZ.1 (As := [.int (1 : Int32)]) (rest := []) (hZ.2 60 0 (by decide) (by decide) Nat.one_pos) lk_X11_252 ⟨⟨by decide, by decide⟩, by decide, by decide⟩ rfl (Nat.le_of_ble_eq_true rfl) dX11_must_6 (m_X11_bad hZ  e6) ?_
    show AW Z l iX11_must (Pq (rU R)) 0 0 9 [(0, .ref (za Z 60 0)), (1, .int a1)] [] s6
    refine a_loc [(0, .ref (za Z 60 0))] [0] rfl ?_
    exact w_X11_must_9 (l := l) hZ     _ hF
theorem m_X11_must {Z : ZE} {l : Launch} (hZ : OkM Z) {a1 : Int32}  {s : St} {R : Unit × St} (hF : F_X11_must (zg Z) a1 s = some R) : Sp Z l yX11_must iX11_must [.ref (za Z 60 0), .int a1] s (rU R) :=
  Sp.of (by decide) rfl (Nat.le_of_ble_eq_true rfl) (w_X11_must hZ  s hF)
-- X11_numberTo
def F_X11_numberTo_85 (g : Nat × Nat) (a1 : Int32)  (v2 : Int32) (x1 : Int32) (s : St) : Option (Int32 × St) := (bd (F_X11_must g x1 s) (fun r85 s85 => (some (v2, s85))))
set_option maxRecDepth 100000 in
set_option maxHeartbeats 4000000 in
theorem w_X11_numberTo_85 {Z : ZE} {l : Launch} (hZ : OkM Z) {a1 : Int32}  {R : Int32 × St}  (v2 : Int32) (x1 : Int32)  (s : St) (hF : F_X11_numberTo_85 (zg Z) a1 v2 x1 s = some R) : AW Z l iX11_numberTo (Pq (rI R)) 0 0 85 [(2, .int v2)] [.int x1, .ref (za Z 60 0)] s := by
  unfold F_X11_numberTo_85 at hF
  obtain ⟨r85, s85, e85, hF⟩ := bd_some hF
  refine a_invV hZ.1 (As := [.int x1]) (rest := []) (hZ.2 60 0 (by decide) (by decide) Nat.one_pos) lk_X11_258 ⟨⟨by decide, by decide⟩, by decide, by decide⟩ rfl (Nat.le_of_ble_eq_true rfl) dX11_numberTo_85 (m_X11_must hZ  e85) ?_
  show AW Z l iX11_numberTo (Pq (rI R)) 0 0 88 [(2, .int v2)] [] s85
  refine a_iload_n dX11_numberTo_88 0 rfl rfl ?_
  replace hF := Option.some.inj hF
  subst hF
  exact a_iret rfl (Nat.zero_le _) (Nat.zero_le _) dX11_numberTo_89 ⟨rfl, rfl⟩
def F_X11_numberTo_71 (g : Nat × Nat) (a1 : Int32)  (v2 : Int32) (s : St) : Option (Int32 × St) := (if (s 60 0 35) = (3 : Int32) then (F_X11_numberTo_85 g a1  v2 (1 : Int32) s) else (F_X11_numberTo_85 g a1  v2 (0 : Int32) s))
set_option maxRecDepth 100000 in
set_option maxHeartbeats 4000000 in
theorem w_X11_numberTo_71 {Z : ZE} {l : Launch} (hZ : OkM Z) {a1 : Int32}  {R : Int32 × St}  (v2 : Int32)  (s : St) (hF : F_X11_numberTo_71 (zg Z) a1 v2 s = some R) : AW Z l iX11_numberTo (Pq (rI R)) 0 0 71 [(0, .ref (za Z 60 0)), (2, .int v2)] [] s := by
  unfold F_X11_numberTo_71 at hF
  refine a_aload_n dX11_numberTo_71 0 rfl rfl ?_
  refine a_aload_n dX11_numberTo_72 0 rfl rfl ?_
  refine a_getI hZ.1 (s 60 0 35) (hZ.2 60 0 (by decide) (by decide) Nat.one_pos) fl_X11_234 rfl rfl dX11_numberTo_73 ?_
  refine a_iconst (v := (3 : Int32)) dX11_numberTo_76 (by decide) ?_
  refine a_icmp_ne 84 dX11_numberTo_77 (by decide) (fun c1 => ?_) (fun c1 => ?_)
  · replace hF := (if_neg c1).symm.trans hF
    refine a_iconst (v := (0 : Int32)) dX11_numberTo_84 (by decide) ?_
    refine a_loc [(2, .int v2)] [1] rfl ?_
    exact w_X11_numberTo_85 (l := l) hZ   v2 (0 : Int32)  _ hF
  · replace hF := (if_pos c1).symm.trans hF
    refine a_iconst (v := (1 : Int32)) dX11_numberTo_80 (by decide) ?_
    refine a_goto 85 dX11_numberTo_81 (by decide) ?_
    refine a_loc [(2, .int v2)] [1] rfl ?_
    exact w_X11_numberTo_85 (l := l) hZ   v2 (1 : Int32)  _ hF
def F_X11_numberTo_53 (g : Nat × Nat) (a1 : Int32)  (v2 : Int32) (s : St) : Option (Int32 × St) := (if (s 60 0 35) = (3 : Int32) then (if v2 ≤ a1 then (F_X11_numberTo_71 g a1  v2 s) else (bd (F_X11_bad g (2 : Int32) s) (fun r68 s68 => (F_X11_numberTo_71 g a1  v2 s68)))) else (F_X11_numberTo_71 g a1  v2 s))
set_option maxRecDepth 100000 in
set_option maxHeartbeats 4000000 in
theorem w_X11_numberTo_53 {Z : ZE} {l : Launch} (hZ : OkM Z) {a1 : Int32}  {R : Int32 × St}  (v2 : Int32)  (s : St) (hF : F_X11_numberTo_53 (zg Z) a1 v2 s = some R) : AW Z l iX11_numberTo (Pq (rI R)) 0 0 53 [(0, .ref (za Z 60 0)), (1, .int a1), (2, .int v2)] [] s := by
  unfold F_X11_numberTo_53 at hF
  refine a_aload_n dX11_numberTo_53 0 rfl rfl ?_
  refine a_getI hZ.1 (s 60 0 35) (hZ.2 60 0 (by decide) (by decide) Nat.one_pos) fl_X11_234 rfl rfl dX11_numberTo_54 ?_
  refine a_iconst (v := (3 : Int32)) dX11_numberTo_57 (by decide) ?_
  refine a_icmp_ne 71 dX11_numberTo_58 (by decide) (fun c1 => ?_) (fun c1 => ?_)
  · replace hF := (if_neg c1).symm.trans hF
    refine a_loc [(0, .ref (za Z 60 0)), (2, .int v2)] [0, 2] rfl ?_
    exact w_X11_numberTo_71 (l := l) hZ   v2  _ hF
  · replace hF := (if_pos c1).symm.trans hF
    refine a_iload_n dX11_numberTo_61 2 rfl rfl ?_
    refine a_iload_n dX11_numberTo_62 1 rfl rfl ?_
    refine a_icmp_le 71 dX11_numberTo_63 (by decide) (fun c2 => ?_) (fun c2 => ?_)
    · replace hF := (if_pos c2).symm.trans hF
      refine a_loc [(0, .ref (za Z 60 0)), (2, .int v2)] [0, 2] rfl ?_
      exact w_X11_numberTo_71 (l := l) hZ   v2  _ hF
    · replace hF := (if_neg c2).symm.trans hF
      refine a_aload_n dX11_numberTo_66 0 rfl rfl ?_
      refine a_iconst (v := (2 : Int32)) dX11_numberTo_67 (by decide) ?_
      obtain ⟨r68, s68, e68, hF⟩ := bd_some hF
      refine a_invV hZ.1 (As := [.int (2 : Int32)]) (rest := []) (hZ.2 60 0 (by decide) (by decide) Nat.one_pos) lk_X11_252 ⟨⟨by decide, by decide⟩, by decide, by decide⟩ rfl (Nat.le_of_ble_eq_true rfl) dX11_numberTo_68 (m_X11_bad hZ  e68) ?_
      show AW Z l iX11_numberTo (Pq (rI R)) 0 0 71 [(0, .ref (za Z 60 0)), (1, .int a1), (2, .int v2)] [] s68
      refine a_loc [(0, .ref (za Z 60 0)), (2, .int v2)] [0, 2] rfl ?_
      exact w_X11_numberTo_71 (l := l) hZ   v2  _ hF
def F_X11_numberTo_16 (g : Nat × Nat) (a1 : Int32) (h53_ : Int32 → St → Option (Int32 × St)) : Nat → Int32 → Int32 → St → Option (Int32 × St)
  | 0, _, _, _ => none
  | n_ + 1, v2, v3, s => (if (s 60 0 37) ≤ v3 then (h53_ v2 s) else (if (s 60 0 35) = (3 : Int32) then (gd (inb v3 400) (F_X11_numberTo_16 g a1 h53_ n_ ((((10 : Int32) * v2) + (s 82 0 v3.toNatClampNeg)) - (48 : Int32)) (v3 + 1) s)) else (h53_ v2 s)))
set_option maxRecDepth 100000 in
set_option maxHeartbeats 4000000 in
theorem w_X11_numberTo_16 {Z : ZE} {l : Launch} (hZ : OkM Z) {a1 : Int32}  {R : Int32 × St} (h53_ : Int32 → St → Option (Int32 × St)) (w53_ : ∀ (v2 : Int32)  (s : St), h53_ v2 s = some R → AW Z l iX11_numberTo (Pq (rI R)) 0 0 53 [(0, .ref (za Z 60 0)), (1, .int a1), (2, .int v2)] [] s) : ∀ (n_ : Nat) (v2 : Int32) (v3 : Int32)  (s : St), F_X11_numberTo_16 (zg Z) a1 h53_ n_ v2 v3 s = some R → AW Z l iX11_numberTo (Pq (rI R)) 0 0 16 [(0, .ref (za Z 60 0)), (1, .int a1), (2, .int v2), (3, .int v3)] [] s := by
  intro n_
  induction n_ with
  | zero =>
    intro v2 v3 s hF
    exact absurd hF (by rw [F_X11_numberTo_16]; exact fun q => by cases q)
  | succ n_ w16_ =>
    intro v2 v3 s hF
    rw [F_X11_numberTo_16] at hF
    refine a_iload_n dX11_numberTo_16 3 rfl rfl ?_
    refine a_aload_n dX11_numberTo_17 0 rfl rfl ?_
    refine a_getI hZ.1 (s 60 0 37) (hZ.2 60 0 (by decide) (by decide) Nat.one_pos) fl_X11_243 rfl rfl dX11_numberTo_18 ?_
    refine a_icmp_ge 53 dX11_numberTo_21 (by decide) (fun c1 => ?_) (fun c1 => ?_)
    · replace hF := (if_pos c1).symm.trans hF
      refine a_loc [(0, .ref (za Z 60 0)), (1, .int a1), (2, .int v2)] [0, 1, 2] rfl ?_
      exact w53_ v2  _ hF
    · replace hF := (if_neg c1).symm.trans hF
      refine a_aload_n dX11_numberTo_24 0 rfl rfl ?_
      refine a_getI hZ.1 (s 60 0 35) (hZ.2 60 0 (by decide) (by decide) Nat.one_pos) fl_X11_234 rfl rfl dX11_numberTo_25 ?_
      refine a_iconst (v := (3 : Int32)) dX11_numberTo_28 (by decide) ?_
      refine a_icmp_ne 53 dX11_numberTo_29 (by decide) (fun c2 => ?_) (fun c2 => ?_)
      · replace hF := (if_neg c2).symm.trans hF
        refine a_loc [(0, .ref (za Z 60 0)), (1, .int a1), (2, .int v2)] [0, 1, 2] rfl ?_
        exact w53_ v2  _ hF
      · replace hF := (if_pos c2).symm.trans hF
        refine a_bipush (v := (10 : Int32)) dX11_numberTo_32 (by decide) ?_
        refine a_iload_n dX11_numberTo_34 2 rfl rfl ?_
        refine a_imul dX11_numberTo_35 ?_
        refine a_aload_n dX11_numberTo_36 0 rfl rfl ?_
        refine a_getR hZ.1 (hZ.2 60 0 (by decide) (by decide) Nat.one_pos) fl_X11_85 rfl 0 rfl dX11_numberTo_37 ?_
        refine a_iload_n dX11_numberTo_40 3 rfl rfl ?_
        obtain ⟨b3, hF⟩ := gd_some hF
        refine a_iald hZ.1 (s 82 0 v3.toNatClampNeg) (hZ.2 82 0 (by decide) (by decide) Nat.one_pos) rfl rfl (inb_vp b3) rfl dX11_numberTo_41 ?_
        refine a_iadd dX11_numberTo_42 ?_
        refine a_bipush (v := (48 : Int32)) dX11_numberTo_43 (by decide) ?_
        refine a_isub dX11_numberTo_45 ?_
        refine a_istore_n [(2, .int ((((10 : Int32) * v2) + (s 82 0 v3.toNatClampNeg)) - (48 : Int32))), (0, .ref (za Z 60 0)), (1, .int a1), (3, .int v3)] dX11_numberTo_46 rfl (by decide) rfl ?_
        refine a_iinc [(3, .int (v3 + 1)), (2, .int ((((10 : Int32) * v2) + (s 82 0 v3.toNatClampNeg)) - (48 : Int32))), (0, .ref (za Z 60 0)), (1, .int a1)] dX11_numberTo_47 3 rfl rfl (by decide) rfl ?_
        refine a_goto 16 dX11_numberTo_50 (by decide) ?_
        refine a_loc [(0, .ref (za Z 60 0)), (1, .int a1), (2, .int ((((10 : Int32) * v2) + (s 82 0 v3.toNatClampNeg)) - (48 : Int32))), (3, .int (v3 + 1))] [2, 3, 1, 0] rfl ?_
        exact w16_ ((((10 : Int32) * v2) + (s 82 0 v3.toNatClampNeg)) - (48 : Int32)) (v3 + 1)  _ hF
def F_X11_numberTo (g : Nat × Nat) (a1 : Int32)   (s : St) : Option (Int32 × St) := (if (s 60 0 38) ≤ 0 then ((F_X11_numberTo_16 g a1 (F_X11_numberTo_53 g a1 ) fu) (0 : Int32) (s 60 0 36) s) else (some ((0 : Int32), s)))
set_option maxRecDepth 100000 in
set_option maxHeartbeats 4000000 in
theorem w_X11_numberTo {Z : ZE} {l : Launch} (hZ : OkM Z) {a1 : Int32}  {R : Int32 × St}    (s : St) (hF : F_X11_numberTo (zg Z) a1  s = some R) : AW Z l iX11_numberTo (Pq (rI R)) 0 0 0 [(0, .ref (za Z 60 0)), (1, .int a1)] [] s := by
  unfold F_X11_numberTo at hF
  refine a_aload_n dX11_numberTo_0 0 rfl rfl ?_
  refine a_getI hZ.1 (s 60 0 38) (hZ.2 60 0 (by decide) (by decide) Nat.one_pos) fl_X11_246 rfl rfl dX11_numberTo_1 ?_
  refine a_if_le 9 dX11_numberTo_4 (by decide) (fun c1 => ?_) (fun c1 => ?_)
  · replace hF := (if_pos c1).symm.trans hF
    refine a_iconst (v := (0 : Int32)) dX11_numberTo_9 (by decide) ?_
    refine a_istore_n [(2, .int (0 : Int32)), (0, .ref (za Z 60 0)), (1, .int a1)] dX11_numberTo_10 rfl (by decide) rfl ?_
    refine a_aload_n dX11_numberTo_11 1 rfl rfl ?_
    refine a_getI hZ.1 (s 60 0 36) (hZ.2 60 0 (by decide) (by decide) Nat.one_pos) fl_X11_231 rfl rfl dX11_numberTo_12 ?_
    refine a_istore_n [(3, .int (s 60 0 36)), (2, .int (0 : Int32)), (0, .ref (za Z 60 0)), (1, .int a1)] dX11_numberTo_15 rfl (by decide) rfl ?_
    refine a_loc [(0, .ref (za Z 60 0)), (1, .int a1), (2, .int (0 : Int32)), (3, .int (s 60 0 36))] [2, 3, 1, 0] rfl ?_
    exact w_X11_numberTo_16 (l := l) hZ  (F_X11_numberTo_53 (zg Z) a1 ) (w_X11_numberTo_53 (l := l) hZ  ) fu (0 : Int32) (s 60 0 36)  _ hF
  · replace hF := (if_neg c1).symm.trans hF
    refine a_iconst (v := (0 : Int32)) dX11_numberTo_7 (by decide) ?_
    replace hF := Option.some.inj hF
    subst hF
    exact a_iret rfl (Nat.zero_le _) (Nat.zero_le _) dX11_numberTo_8 ⟨rfl, rfl⟩
theorem m_X11_numberTo {Z : ZE} {l : Launch} (hZ : OkM Z) {a1 : Int32}  {s : St} {R : Int32 × St} (hF : F_X11_numberTo (zg Z) a1 s = some R) : Sp Z l yX11_numberTo iX11_numberTo [.ref (za Z 60 0), .int a1] s (rI R) :=
  Sp.of (by decide) rfl (Nat.le_of_ble_eq_true rfl) (w_X11_numberTo hZ  s hF)
-- X11_word
def F_X11_word_7 (g : Nat × Nat)   : Nat → Int64 → Int32 → St → Option (Int64 × St)
  | 0, _, _, _ => none
  | n_ + 1, v1, v3, s => (if (s 60 0 37) ≤ v3 then (some (v1, s)) else (if (s 60 0 35) = (2 : Int32) then (if (8 : Int32) ≤ ((s 60 0 37) - (s 60 0 36)) then (some (v1, s)) else (gd (inb v3 400) (F_X11_word_7 g   n_ ((v1 <<< ((8 : Int32).toInt64 &&& 63)) ||| (s 82 0 v3.toNatClampNeg).toInt64) (v3 + 1) s))) else (some (v1, s))))
set_option maxRecDepth 100000 in
set_option maxHeartbeats 4000000 in
theorem w_X11_word_7 {Z : ZE} {l : Launch} (hZ : OkM Z)   {R : Int64 × St}  : ∀ (n_ : Nat) (v1 : Int64) (v3 : Int32)  (s : St), F_X11_word_7 (zg Z)  n_ v1 v3 s = some R → AW Z l iX11_word (Pq (rJ R)) 0 0 7 [(0, .ref (za Z 60 0)), (1, .long v1), (3, .int v3)] [] s := by
  intro n_
  induction n_ with
  | zero =>
    intro v1 v3 s hF
    exact absurd hF (by rw [F_X11_word_7]; exact fun q => by cases q)
  | succ n_ w7_ =>
    intro v1 v3 s hF
    rw [F_X11_word_7] at hF
    refine a_iload_n dX11_word_7 2 rfl rfl ?_
    refine a_aload_n dX11_word_8 0 rfl rfl ?_
    refine a_getI hZ.1 (s 60 0 37) (hZ.2 60 0 (by decide) (by decide) Nat.one_pos) fl_X11_243 rfl rfl dX11_word_9 ?_
    refine a_icmp_ge 56 dX11_word_12 (by decide) (fun c1 => ?_) (fun c1 => ?_)
    · replace hF := (if_pos c1).symm.trans hF
      refine a_lload_n dX11_word_56 1 rfl rfl ?_
      replace hF := Option.some.inj hF
      subst hF
      exact a_lret rfl (Nat.zero_le _) (Nat.zero_le _) dX11_word_57 ⟨rfl, rfl⟩
    · replace hF := (if_neg c1).symm.trans hF
      refine a_aload_n dX11_word_15 0 rfl rfl ?_
      refine a_getI hZ.1 (s 60 0 35) (hZ.2 60 0 (by decide) (by decide) Nat.one_pos) fl_X11_234 rfl rfl dX11_word_16 ?_
      refine a_iconst (v := (2 : Int32)) dX11_word_19 (by decide) ?_
      refine a_icmp_ne 56 dX11_word_20 (by decide) (fun c2 => ?_) (fun c2 => ?_)
      · replace hF := (if_neg c2).symm.trans hF
        refine a_lload_n dX11_word_56 1 rfl rfl ?_
        replace hF := Option.some.inj hF
        subst hF
        exact a_lret rfl (Nat.zero_le _) (Nat.zero_le _) dX11_word_57 ⟨rfl, rfl⟩
      · replace hF := (if_pos c2).symm.trans hF
        refine a_aload_n dX11_word_23 0 rfl rfl ?_
        refine a_getI hZ.1 (s 60 0 37) (hZ.2 60 0 (by decide) (by decide) Nat.one_pos) fl_X11_243 rfl rfl dX11_word_24 ?_
        refine a_aload_n dX11_word_27 0 rfl rfl ?_
        refine a_getI hZ.1 (s 60 0 36) (hZ.2 60 0 (by decide) (by decide) Nat.one_pos) fl_X11_231 rfl rfl dX11_word_28 ?_
        refine a_isub dX11_word_31 ?_
        refine a_bipush (v := (8 : Int32)) dX11_word_32 (by decide) ?_
        refine a_icmp_ge 56 dX11_word_34 (by decide) (fun c3 => ?_) (fun c3 => ?_)
        · replace hF := (if_pos c3).symm.trans hF
          refine a_lload_n dX11_word_56 1 rfl rfl ?_
          replace hF := Option.some.inj hF
          subst hF
          exact a_lret rfl (Nat.zero_le _) (Nat.zero_le _) dX11_word_57 ⟨rfl, rfl⟩
        · replace hF := (if_neg c3).symm.trans hF
          refine a_lload_n dX11_word_37 1 rfl rfl ?_
          refine a_bipush (v := (8 : Int32)) dX11_word_38 (by decide) ?_
          refine a_lshl dX11_word_40 ?_
          refine a_aload_n dX11_word_41 0 rfl rfl ?_
          refine a_getR hZ.1 (hZ.2 60 0 (by decide) (by decide) Nat.one_pos) fl_X11_85 rfl 0 rfl dX11_word_42 ?_
          refine a_iload_n dX11_word_45 2 rfl rfl ?_
          obtain ⟨b4, hF⟩ := gd_some hF
          refine a_iald hZ.1 (s 82 0 v3.toNatClampNeg) (hZ.2 82 0 (by decide) (by decide) Nat.one_pos) rfl rfl (inb_vp b4) rfl dX11_word_46 ?_
          refine a_i2l dX11_word_47 ?_
          refine a_lor dX11_word_48 ?_
          refine a_lstore_n [(1, .long ((v1 <<< ((8 : Int32).toInt64 &&& 63)) ||| (s 82 0 v3.toNatClampNeg).toInt64)), (0, .ref (za Z 60 0)), (3, .int v3)] dX11_word_49 rfl (by decide) rfl ?_
          refine a_iinc [(3, .int (v3 + 1)), (1, .long ((v1 <<< ((8 : Int32).toInt64 &&& 63)) ||| (s 82 0 v3.toNatClampNeg).toInt64)), (0, .ref (za Z 60 0))] dX11_word_50 2 rfl rfl (by decide) rfl ?_
          refine a_goto 7 dX11_word_53 (by decide) ?_
          refine a_loc [(0, .ref (za Z 60 0)), (1, .long ((v1 <<< ((8 : Int32).toInt64 &&& 63)) ||| (s 82 0 v3.toNatClampNeg).toInt64)), (3, .int (v3 + 1))] [2, 1, 0] rfl ?_
          exact w7_ ((v1 <<< ((8 : Int32).toInt64 &&& 63)) ||| (s 82 0 v3.toNatClampNeg).toInt64) (v3 + 1)  _ hF
def F_X11_word (g : Nat × Nat)    (s : St) : Option (Int64 × St) := (F_X11_word_7 g   fu (0 : Int64) (s 60 0 36) s)
set_option maxRecDepth 100000 in
set_option maxHeartbeats 4000000 in
theorem w_X11_word {Z : ZE} {l : Launch} (hZ : OkM Z)   {R : Int64 × St}    (s : St) (hF : F_X11_word (zg Z)   s = some R) : AW Z l iX11_word (Pq (rJ R)) 0 0 0 [(0, .ref (za Z 60 0))] [] s := by
  unfold F_X11_word at hF
  refine a_lconst (v := (0 : Int64)) dX11_word_0 (by decide) ?_
  refine a_lstore_n [(1, .long (0 : Int64)), (0, .ref (za Z 60 0))] dX11_word_1 rfl (by decide) rfl ?_
  refine a_aload_n dX11_word_2 1 rfl rfl ?_
  refine a_getI hZ.1 (s 60 0 36) (hZ.2 60 0 (by decide) (by decide) Nat.one_pos) fl_X11_231 rfl rfl dX11_word_3 ?_
  refine a_istore_n [(3, .int (s 60 0 36)), (1, .long (0 : Int64)), (0, .ref (za Z 60 0))] dX11_word_6 rfl (by decide) rfl ?_
  refine a_loc [(0, .ref (za Z 60 0)), (1, .long (0 : Int64)), (3, .int (s 60 0 36))] [2, 1, 0] rfl ?_
  exact w_X11_word_7 (l := l) hZ   fu (0 : Int64) (s 60 0 36)  _ hF
theorem m_X11_word {Z : ZE} {l : Launch} (hZ : OkM Z)   {s : St} {R : Int64 × St} (hF : F_X11_word (zg Z)  s = some R) : Sp Z l yX11_word iX11_word [.ref (za Z 60 0)] s (rJ R) :=
  Sp.of (by decide) rfl (Nat.le_of_ble_eq_true rfl) (w_X11_word hZ  s hF)
-- X11_ruleOfWord
def F_X11_ruleOfWord (g : Nat × Nat)    (s : St) : Option (Int32 × St) := (bd (F_X11_word g  s) (fun r1 s1 => (if (lg_cmp r1 (482804589413 : Int64)) = 0 then (some ((0 : Int32), s1)) else (if (lg_cmp r1 (125779936109926 : Int64)) = 0 then (some ((1 : Int32), s1)) else (if (lg_cmp r1 (465625246068 : Int64)) = 0 then (some ((2 : Int32), s1)) else (if (lg_cmp r1 (422826041700 : Int64)) = 0 then (some ((3 : Int32), s1)) else (if (lg_cmp r1 (439855772532 : Int64)) = 0 then (some ((4 : Int32), s1)) else (some ((-1000000), s1)))))))))
set_option maxRecDepth 100000 in
set_option maxHeartbeats 4000000 in
theorem w_X11_ruleOfWord {Z : ZE} {l : Launch} (hZ : OkM Z)   {R : Int32 × St}    (s : St) (hF : F_X11_ruleOfWord (zg Z)   s = some R) : AW Z l iX11_ruleOfWord (Pq (rI R)) 0 0 0 [(0, .ref (za Z 60 0))] [] s := by
  unfold F_X11_ruleOfWord at hF
  refine a_aload_n dX11_ruleOfWord_0 0 rfl rfl ?_
  obtain ⟨r1, s1, e1, hF⟩ := bd_some hF
  refine a_invV hZ.1 (As := []) (rest := []) (hZ.2 60 0 (by decide) (by decide) Nat.one_pos) lk_X11_262 ⟨⟨by decide, by decide⟩, by decide, by decide⟩ rfl (Nat.le_of_ble_eq_true rfl) dX11_ruleOfWord_1 (m_X11_word hZ  e1) ?_
  show AW Z l iX11_ruleOfWord (Pq (rI R)) 0 0 4 [(0, .ref (za Z 60 0))] [.long r1] s1
  refine a_lstore_n [(1, .long r1), (0, .ref (za Z 60 0))] dX11_ruleOfWord_4 rfl (by decide) rfl ?_
  refine a_lload_n dX11_ruleOfWord_5 0 rfl rfl ?_
  refine a_ldc2 (v := (482804589413 : Int64)) kw_1301 dX11_ruleOfWord_6 ?_
  refine a_lcmp dX11_ruleOfWord_9 ?_
  refine a_if_ne 17 dX11_ruleOfWord_10 (by decide) (fun c1 => ?_) (fun c1 => ?_)
  · replace hF := (if_neg c1).symm.trans hF
    refine a_lload_n dX11_ruleOfWord_17 0 rfl rfl ?_
    refine a_ldc2 (v := (125779936109926 : Int64)) kw_1302 dX11_ruleOfWord_18 ?_
    refine a_lcmp dX11_ruleOfWord_21 ?_
    refine a_if_ne 29 dX11_ruleOfWord_22 (by decide) (fun c2 => ?_) (fun c2 => ?_)
    · replace hF := (if_neg c2).symm.trans hF
      refine a_lload_n dX11_ruleOfWord_29 0 rfl rfl ?_
      refine a_ldc2 (v := (465625246068 : Int64)) kw_1303 dX11_ruleOfWord_30 ?_
      refine a_lcmp dX11_ruleOfWord_33 ?_
      refine a_if_ne 41 dX11_ruleOfWord_34 (by decide) (fun c3 => ?_) (fun c3 => ?_)
      · replace hF := (if_neg c3).symm.trans hF
        refine a_lload_n dX11_ruleOfWord_41 0 rfl rfl ?_
        refine a_ldc2 (v := (422826041700 : Int64)) kw_1304 dX11_ruleOfWord_42 ?_
        refine a_lcmp dX11_ruleOfWord_45 ?_
        refine a_if_ne 53 dX11_ruleOfWord_46 (by decide) (fun c4 => ?_) (fun c4 => ?_)
        · replace hF := (if_neg c4).symm.trans hF
          refine a_lload_n dX11_ruleOfWord_53 0 rfl rfl ?_
          refine a_ldc2 (v := (439855772532 : Int64)) kw_1305 dX11_ruleOfWord_54 ?_
          refine a_lcmp dX11_ruleOfWord_57 ?_
          refine a_if_ne 65 dX11_ruleOfWord_58 (by decide) (fun c5 => ?_) (fun c5 => ?_)
          · replace hF := (if_neg c5).symm.trans hF
            refine a_ldc (v := (-1000000)) kw_951 dX11_ruleOfWord_65 ?_
            replace hF := Option.some.inj hF
            subst hF
            exact a_iret rfl (Nat.zero_le _) (Nat.zero_le _) dX11_ruleOfWord_67 ⟨rfl, rfl⟩
          · replace hF := (if_pos c5).symm.trans hF
            refine a_iconst (v := (4 : Int32)) dX11_ruleOfWord_61 (by decide) ?_
            refine a_goto 67 dX11_ruleOfWord_62 (by decide) ?_
            replace hF := Option.some.inj hF
            subst hF
            exact a_iret rfl (Nat.zero_le _) (Nat.zero_le _) dX11_ruleOfWord_67 ⟨rfl, rfl⟩
        · replace hF := (if_pos c4).symm.trans hF
          refine a_iconst (v := (3 : Int32)) dX11_ruleOfWord_49 (by decide) ?_
          refine a_goto 67 dX11_ruleOfWord_50 (by decide) ?_
          replace hF := Option.some.inj hF
          subst hF
          exact a_iret rfl (Nat.zero_le _) (Nat.zero_le _) dX11_ruleOfWord_67 ⟨rfl, rfl⟩
      · replace hF := (if_pos c3).symm.trans hF
        refine a_iconst (v := (2 : Int32)) dX11_ruleOfWord_37 (by decide) ?_
        refine a_goto 67 dX11_ruleOfWord_38 (by decide) ?_
        replace hF := Option.some.inj hF
        subst hF
        exact a_iret rfl (Nat.zero_le _) (Nat.zero_le _) dX11_ruleOfWord_67 ⟨rfl, rfl⟩
    · replace hF := (if_pos c2).symm.trans hF
      refine a_iconst (v := (1 : Int32)) dX11_ruleOfWord_25 (by decide) ?_
      refine a_goto 67 dX11_ruleOfWord_26 (by decide) ?_
      replace hF := Option.some.inj hF
      subst hF
      exact a_iret rfl (Nat.zero_le _) (Nat.zero_le _) dX11_ruleOfWord_67 ⟨rfl, rfl⟩
  · replace hF := (if_pos c1).symm.trans hF
    refine a_iconst (v := (0 : Int32)) dX11_ruleOfWord_13 (by decide) ?_
    refine a_goto 67 dX11_ruleOfWord_14 (by decide) ?_
    replace hF := Option.some.inj hF
    subst hF
    exact a_iret rfl (Nat.zero_le _) (Nat.zero_le _) dX11_ruleOfWord_67 ⟨rfl, rfl⟩
theorem m_X11_ruleOfWord {Z : ZE} {l : Launch} (hZ : OkM Z)   {s : St} {R : Int32 × St} (hF : F_X11_ruleOfWord (zg Z)  s = some R) : Sp Z l yX11_ruleOfWord iX11_ruleOfWord [.ref (za Z 60 0)] s (rI R) :=
  Sp.of (by decide) rfl (Nat.le_of_ble_eq_true rfl) (w_X11_ruleOfWord hZ  s hF)
