-- X8_takeNumber
set_option maxRecDepth 100000 in
set_option maxHeartbeats 4000000 in
theorem w_X8_takeNumber_87 {Z : ZE} {l : Launch} (hZ : OkX Z)   {R : Unit × St}  (x1 : Int32)  (s : St) (hF : F_X8_takeNumber_87 (zg Z)  x1 s = some R) : AW Z l iX8_takeNumber (Pq (rU R)) 0 0 87 [] [.int x1, .ref (za Z 23 0)] s := by
  unfold F_X8_takeNumber_87 at hF
  refine a_put hZ.1 (hZ.2 23 0 (by decide) Nat.one_pos) fl_X8_31 rfl rfl rfl dX8_takeNumber_87 ?_
  replace hF := Option.some.inj hF
  subst hF
  exact a_vret rfl (Nat.zero_le _) (Nat.zero_le _) dX8_takeNumber_90 ⟨rfl, rfl⟩
set_option maxRecDepth 100000 in
set_option maxHeartbeats 4000000 in
theorem w_X8_takeNumber_68 {Z : ZE} {l : Launch} (hZ : OkX Z)   {R : Unit × St}    (s : St) (hF : F_X8_takeNumber_68 (zg Z)   s = some R) : AW Z l iX8_takeNumber (Pq (rU R)) 0 0 68 [(0, .ref (za Z 23 0))] [] s := by
  unfold F_X8_takeNumber_68 at hF
  refine a_aload_n dX8_takeNumber_68 0 rfl rfl ?_
  refine a_aload_n dX8_takeNumber_69 0 rfl rfl ?_
  refine a_getI hZ.1 (s 23 0 6) (hZ.2 23 0 (by decide) Nat.one_pos) fl_X8_25 rfl rfl dX8_takeNumber_70 ?_
  refine a_aload_n dX8_takeNumber_73 0 rfl rfl ?_
  refine a_getI hZ.1 (s 23 0 5) (hZ.2 23 0 (by decide) Nat.one_pos) fl_X8_84 rfl rfl dX8_takeNumber_74 ?_
  refine a_isub dX8_takeNumber_77 ?_
  refine a_iconst (v := (4 : Int32)) dX8_takeNumber_78 (by decide) ?_
  refine a_icmp_gt 86 dX8_takeNumber_79 (by decide) (fun q1 => ?_) (fun q1 => ?_)
  · replace hF := (if_pos q1).symm.trans hF
    refine a_iconst (v := (4 : Int32)) dX8_takeNumber_86 (by decide) ?_
    refine a_loc [] [] rfl ?_
    exact w_X8_takeNumber_87 (l := l) hZ   (4 : Int32)  _ hF
  · replace hF := (if_neg q1).symm.trans hF
    refine a_iconst (v := (2 : Int32)) dX8_takeNumber_82 (by decide) ?_
    refine a_goto 87 dX8_takeNumber_83 (by decide) ?_
    refine a_loc [] [] rfl ?_
    exact w_X8_takeNumber_87 (l := l) hZ   (2 : Int32)  _ hF
set_option maxRecDepth 100000 in
set_option maxHeartbeats 4000000 in
theorem w_X8_takeNumber_5 {Z : ZE} {l : Launch} (hZ : OkX Z)   {R : Unit × St} (h68_ : St → Option (Unit × St)) (w68_ : ∀   (s : St), h68_  s = some R → AW Z l iX8_takeNumber (Pq (rU R)) 0 0 68 [(0, .ref (za Z 23 0))] [] s) : ∀ (n_ : Nat)   (s : St), F_X8_takeNumber_5 (zg Z)  h68_ n_  s = some R → AW Z l iX8_takeNumber (Pq (rU R)) 0 0 5 [(0, .ref (za Z 23 0))] [] s := by
  intro n_
  induction n_ with
  | zero =>
    intro  s hF
    exact absurd hF (by rw [F_X8_takeNumber_5]; exact fun q => by cases q)
  | succ n_ w5_ =>
    intro  s hF
    rw [F_X8_takeNumber_5] at hF
    refine a_aload_n dX8_takeNumber_5 0 rfl rfl ?_
    refine a_getI hZ.1 (s 23 0 6) (hZ.2 23 0 (by decide) Nat.one_pos) fl_X8_25 rfl rfl dX8_takeNumber_6 ?_
    refine a_aload_n dX8_takeNumber_9 0 rfl rfl ?_
    refine a_getI hZ.1 (s 23 0 1) (hZ.2 23 0 (by decide) Nat.one_pos) fl_X8_15 rfl rfl dX8_takeNumber_10 ?_
    refine a_icmp_ge 68 dX8_takeNumber_13 (by decide) (fun q1 => ?_) (fun q1 => ?_)
    · replace hF := (if_pos q1).symm.trans hF
      exact w68_   _ hF
    · replace hF := (if_neg q1).symm.trans hF
      refine a_aload_n dX8_takeNumber_16 0 rfl rfl ?_
      refine a_getR hZ.1 (hZ.2 23 0 (by decide) Nat.one_pos) fl_X8_11 rfl 0 rfl dX8_takeNumber_17 ?_
      refine a_aload_n dX8_takeNumber_20 0 rfl rfl ?_
      refine a_getI hZ.1 (s 23 0 6) (hZ.2 23 0 (by decide) Nat.one_pos) fl_X8_25 rfl rfl dX8_takeNumber_21 ?_
      obtain ⟨p2, hF⟩ := gd_some hF
      refine a_iald hZ.1 (s 24 0 (s 23 0 6).toNatClampNeg) (hZ.2 24 0 (by decide) Nat.one_pos) rfl rfl (inb_vp p2) rfl dX8_takeNumber_24 ?_
      obtain ⟨r25, s25, e25, hF⟩ := bd_some hF
      refine a_invS hZ.1 (As := [.int (s 24 0 (s 23 0 6).toNatClampNeg)]) (rest := []) lk_X8_110 ⟨⟨by decide, by decide⟩, by decide, by decide⟩ rfl (Nat.le_of_ble_eq_true rfl) dX8_takeNumber_25 (m_X8_isFigure hZ  e25) ?_
      show AW Z l iX8_takeNumber (Pq (rU R)) 0 0 28 [(0, .ref (za Z 23 0))] [.int r25] s25
      refine a_if_eq 68 dX8_takeNumber_28 (by decide) (fun q3 => ?_) (fun q3 => ?_)
      · replace hF := (if_pos q3).symm.trans hF
        exact w68_   _ hF
      · replace hF := (if_neg q3).symm.trans hF
        refine a_aload_n dX8_takeNumber_31 0 rfl rfl ?_
        refine a_aload_n dX8_takeNumber_32 0 rfl rfl ?_
        refine a_getI hZ.1 (s25 23 0 7) (hZ.2 23 0 (by decide) Nat.one_pos) fl_X8_51 rfl rfl dX8_takeNumber_33 ?_
        refine a_bipush (v := (10 : Int32)) dX8_takeNumber_36 (by decide) ?_
        refine a_imul dX8_takeNumber_38 ?_
        refine a_aload_n dX8_takeNumber_39 0 rfl rfl ?_
        refine a_getR hZ.1 (hZ.2 23 0 (by decide) Nat.one_pos) fl_X8_11 rfl 0 rfl dX8_takeNumber_40 ?_
        refine a_aload_n dX8_takeNumber_43 0 rfl rfl ?_
        refine a_getI hZ.1 (s25 23 0 6) (hZ.2 23 0 (by decide) Nat.one_pos) fl_X8_25 rfl rfl dX8_takeNumber_44 ?_
        obtain ⟨p4, hF⟩ := gd_some hF
        refine a_iald hZ.1 (s25 24 0 (s25 23 0 6).toNatClampNeg) (hZ.2 24 0 (by decide) Nat.one_pos) rfl rfl (inb_vp p4) rfl dX8_takeNumber_47 ?_
        refine a_iadd dX8_takeNumber_48 ?_
        refine a_bipush (v := (48 : Int32)) dX8_takeNumber_49 (by decide) ?_
        refine a_isub dX8_takeNumber_51 ?_
        refine a_put hZ.1 (hZ.2 23 0 (by decide) Nat.one_pos) fl_X8_51 rfl rfl rfl dX8_takeNumber_52 ?_
        refine a_aload_n dX8_takeNumber_55 0 rfl rfl ?_
        refine a_dup dX8_takeNumber_56 rfl ?_
        refine a_getI hZ.1 (s25 23 0 6) (hZ.2 23 0 (by decide) Nat.one_pos) fl_X8_25 rfl (by simp [up]) dX8_takeNumber_57 ?_
        refine a_iconst (v := (1 : Int32)) dX8_takeNumber_60 (by decide) ?_
        refine a_iadd dX8_takeNumber_61 ?_
        refine a_put hZ.1 (hZ.2 23 0 (by decide) Nat.one_pos) fl_X8_25 rfl rfl rfl dX8_takeNumber_62 ?_
        refine a_goto 5 dX8_takeNumber_65 (by decide) ?_
        exact w5_   _ hF
set_option maxRecDepth 100000 in
set_option maxHeartbeats 4000000 in
theorem w_X8_takeNumber {Z : ZE} {l : Launch} (hZ : OkX Z)   {R : Unit × St}    (s : St) (hF : F_X8_takeNumber (zg Z)   s = some R) : AW Z l iX8_takeNumber (Pq (rU R)) 0 0 0 [(0, .ref (za Z 23 0))] [] s := by
  unfold F_X8_takeNumber at hF
  refine a_aload_n dX8_takeNumber_0 0 rfl rfl ?_
  refine a_iconst (v := (0 : Int32)) dX8_takeNumber_1 (by decide) ?_
  refine a_put hZ.1 (hZ.2 23 0 (by decide) Nat.one_pos) fl_X8_51 rfl rfl rfl dX8_takeNumber_2 ?_
  exact w_X8_takeNumber_5 (l := l) hZ  (F_X8_takeNumber_68 (zg Z)  ) (w_X8_takeNumber_68 (l := l) hZ  ) fu   _ hF
theorem m_X8_takeNumber {Z : ZE} {l : Launch} (hZ : OkX Z)   {s : St} {R : Unit × St} (hF : F_X8_takeNumber (zg Z)  s = some R) : Sp Z l yX8_takeNumber iX8_takeNumber [.ref (za Z 23 0)] s (rU R) :=
  Sp.of (by decide) rfl (Nat.le_of_ble_eq_true rfl) (w_X8_takeNumber hZ  s hF)
-- X8_takeToken
set_option maxRecDepth 100000 in
set_option maxHeartbeats 4000000 in
theorem w_X8_takeToken_138 {Z : ZE} {l : Launch} (hZ : OkX Z)   {R : Unit × St}  (x1 : Int32)  (s : St) (hF : F_X8_takeToken_138 (zg Z)  x1 s = some R) : AW Z l iX8_takeToken (Pq (rU R)) 0 0 138 [(0, .ref (za Z 23 0))] [.int x1, .ref (za Z 23 0)] s := by
  unfold F_X8_takeToken_138 at hF
  refine a_put hZ.1 (hZ.2 23 0 (by decide) Nat.one_pos) fl_X8_31 rfl rfl rfl dX8_takeToken_138 ?_
  refine a_aload_n dX8_takeToken_141 0 rfl rfl ?_
  refine a_dup dX8_takeToken_142 rfl ?_
  refine a_getI hZ.1 (s 23 0 6) (hZ.2 23 0 (by decide) Nat.one_pos) fl_X8_25 rfl (by simp [up]) dX8_takeToken_143 ?_
  refine a_iconst (v := (1 : Int32)) dX8_takeToken_146 (by decide) ?_
  refine a_iadd dX8_takeToken_147 ?_
  refine a_put hZ.1 (hZ.2 23 0 (by decide) Nat.one_pos) fl_X8_25 rfl rfl rfl dX8_takeToken_148 ?_
  replace hF := Option.some.inj hF
  subst hF
  exact a_vret rfl (Nat.zero_le _) (Nat.zero_le _) dX8_takeToken_151 ⟨rfl, rfl⟩
set_option maxRecDepth 100000 in
set_option maxHeartbeats 4000000 in
theorem w_X8_takeToken_47 {Z : ZE} {l : Launch} (hZ : OkX Z)   {R : Unit × St}    (s : St) (hF : F_X8_takeToken_47 (zg Z)   s = some R) : AW Z l iX8_takeToken (Pq (rU R)) 0 0 47 [(0, .ref (za Z 23 0))] [] s := by
  unfold F_X8_takeToken_47 at hF
  refine a_aload_n dX8_takeToken_47 0 rfl rfl ?_
  refine a_aload_n dX8_takeToken_48 0 rfl rfl ?_
  refine a_getI hZ.1 (s 23 0 5) (hZ.2 23 0 (by decide) Nat.one_pos) fl_X8_84 rfl rfl dX8_takeToken_49 ?_
  refine a_put hZ.1 (hZ.2 23 0 (by decide) Nat.one_pos) fl_X8_25 rfl rfl rfl dX8_takeToken_52 ?_
  refine a_aload_n dX8_takeToken_55 0 rfl rfl ?_
  refine a_getI hZ.1 (s 23 0 5) (hZ.2 23 0 (by decide) Nat.one_pos) fl_X8_84 rfl (by simp [up]) dX8_takeToken_56 ?_
  refine a_aload_n dX8_takeToken_59 0 rfl rfl ?_
  refine a_getI hZ.1 (s 23 0 1) (hZ.2 23 0 (by decide) Nat.one_pos) fl_X8_15 rfl (by simp [up]) dX8_takeToken_60 ?_
  refine a_icmp_lt 74 dX8_takeToken_63 (by decide) (fun q1 => ?_) (fun q1 => ?_)
  · replace hF := (if_pos q1).symm.trans hF
    refine a_aload_n dX8_takeToken_74 0 rfl rfl ?_
    refine a_getR hZ.1 (hZ.2 23 0 (by decide) Nat.one_pos) fl_X8_11 rfl 0 rfl dX8_takeToken_75 ?_
    refine a_aload_n dX8_takeToken_78 0 rfl rfl ?_
    refine a_getI hZ.1 (s 23 0 5) (hZ.2 23 0 (by decide) Nat.one_pos) fl_X8_84 rfl (by simp [up]) dX8_takeToken_79 ?_
    obtain ⟨p2, hF⟩ := gd_some hF
    refine a_iald hZ.1 (s 24 0 (s 23 0 5).toNatClampNeg) (hZ.2 24 0 (by decide) Nat.one_pos) rfl rfl (inb_vp p2) rfl dX8_takeToken_82 ?_
    obtain ⟨r83, s83, e83, hF⟩ := bd_some hF
    refine a_invS hZ.1 (As := [.int (s 24 0 (s 23 0 5).toNatClampNeg)]) (rest := []) lk_X8_104 ⟨⟨by decide, by decide⟩, by decide, by decide⟩ rfl (Nat.le_of_ble_eq_true rfl) dX8_takeToken_83 (m_X8_isLetter hZ  e83) ?_
    show AW Z l iX8_takeToken (Pq (rU R)) 0 0 86 [(0, .ref (za Z 23 0))] [.int r83] s83
    refine a_if_eq 96 dX8_takeToken_86 (by decide) (fun q3 => ?_) (fun q3 => ?_)
    · replace hF := (if_pos q3).symm.trans hF
      refine a_aload_n dX8_takeToken_96 0 rfl rfl ?_
      refine a_getR hZ.1 (hZ.2 23 0 (by decide) Nat.one_pos) fl_X8_11 rfl 0 rfl dX8_takeToken_97 ?_
      refine a_aload_n dX8_takeToken_100 0 rfl rfl ?_
      refine a_getI hZ.1 (s83 23 0 5) (hZ.2 23 0 (by decide) Nat.one_pos) fl_X8_84 rfl rfl dX8_takeToken_101 ?_
      obtain ⟨p4, hF⟩ := gd_some hF
      refine a_iald hZ.1 (s83 24 0 (s83 23 0 5).toNatClampNeg) (hZ.2 24 0 (by decide) Nat.one_pos) rfl rfl (inb_vp p4) rfl dX8_takeToken_104 ?_
      obtain ⟨r105, s105, e105, hF⟩ := bd_some hF
      refine a_invS hZ.1 (As := [.int (s83 24 0 (s83 23 0 5).toNatClampNeg)]) (rest := []) lk_X8_110 ⟨⟨by decide, by decide⟩, by decide, by decide⟩ rfl (Nat.le_of_ble_eq_true rfl) dX8_takeToken_105 (m_X8_isFigure hZ  e105) ?_
      show AW Z l iX8_takeToken (Pq (rU R)) 0 0 108 [(0, .ref (za Z 23 0))] [.int r105] s105
      refine a_if_eq 118 dX8_takeToken_108 (by decide) (fun q5 => ?_) (fun q5 => ?_)
      · replace hF := (if_pos q5).symm.trans hF
        refine a_aload_n dX8_takeToken_118 0 rfl rfl ?_
        refine a_aload_n dX8_takeToken_119 0 rfl rfl ?_
        refine a_getR hZ.1 (hZ.2 23 0 (by decide) Nat.one_pos) fl_X8_11 rfl 0 rfl dX8_takeToken_120 ?_
        refine a_aload_n dX8_takeToken_123 0 rfl rfl ?_
        refine a_getI hZ.1 (s105 23 0 5) (hZ.2 23 0 (by decide) Nat.one_pos) fl_X8_84 rfl rfl dX8_takeToken_124 ?_
        obtain ⟨p6, hF⟩ := gd_some hF
        refine a_iald hZ.1 (s105 24 0 (s105 23 0 5).toNatClampNeg) (hZ.2 24 0 (by decide) Nat.one_pos) rfl rfl (inb_vp p6) rfl dX8_takeToken_127 ?_
        refine a_bipush (v := (59 : Int32)) dX8_takeToken_128 (by decide) ?_
        refine a_icmp_ne 137 dX8_takeToken_130 (by decide) (fun q7 => ?_) (fun q7 => ?_)
        · replace hF := (if_neg q7).symm.trans hF
          refine a_iconst (v := (4 : Int32)) dX8_takeToken_137 (by decide) ?_
          exact w_X8_takeToken_138 (l := l) hZ   (4 : Int32)  _ hF
        · replace hF := (if_pos q7).symm.trans hF
          refine a_iconst (v := (3 : Int32)) dX8_takeToken_133 (by decide) ?_
          refine a_goto 138 dX8_takeToken_134 (by decide) ?_
          exact w_X8_takeToken_138 (l := l) hZ   (3 : Int32)  _ hF
      · replace hF := (if_neg q5).symm.trans hF
        refine a_aload_n dX8_takeToken_111 0 rfl rfl ?_
        obtain ⟨r112, s112, e112, hF⟩ := bd_some hF
        refine a_invV hZ.1 (As := []) (rest := []) (hZ.2 23 0 (by decide) Nat.one_pos) lk_X8_113 ⟨⟨by decide, by decide⟩, by decide, by decide⟩ rfl (Nat.le_of_ble_eq_true rfl) dX8_takeToken_112 (m_X8_takeNumber hZ  e112) ?_
        show AW Z l iX8_takeToken (Pq (rU R)) 0 0 115 [(0, .ref (za Z 23 0))] [] s112
        refine a_goto 151 dX8_takeToken_115 (by decide) ?_
        replace hF := Option.some.inj hF
        subst hF
        exact a_vret rfl (Nat.zero_le _) (Nat.zero_le _) dX8_takeToken_151 ⟨rfl, rfl⟩
    · replace hF := (if_neg q3).symm.trans hF
      refine a_aload_n dX8_takeToken_89 0 rfl rfl ?_
      obtain ⟨r90, s90, e90, hF⟩ := bd_some hF
      refine a_invV hZ.1 (As := []) (rest := []) (hZ.2 23 0 (by decide) Nat.one_pos) lk_X8_107 ⟨⟨by decide, by decide⟩, by decide, by decide⟩ rfl (Nat.le_of_ble_eq_true rfl) dX8_takeToken_90 (m_X8_takeName hZ  e90) ?_
      show AW Z l iX8_takeToken (Pq (rU R)) 0 0 93 [(0, .ref (za Z 23 0))] [] s90
      refine a_goto 151 dX8_takeToken_93 (by decide) ?_
      replace hF := Option.some.inj hF
      subst hF
      exact a_vret rfl (Nat.zero_le _) (Nat.zero_le _) dX8_takeToken_151 ⟨rfl, rfl⟩
  · replace hF := (if_neg q1).symm.trans hF
    refine a_aload_n dX8_takeToken_66 0 rfl rfl ?_
    refine a_iconst (v := (0 : Int32)) dX8_takeToken_67 (by decide) ?_
    refine a_put hZ.1 (hZ.2 23 0 (by decide) Nat.one_pos) fl_X8_31 rfl rfl rfl dX8_takeToken_68 ?_
    refine a_goto 151 dX8_takeToken_71 (by decide) ?_
    replace hF := Option.some.inj hF
    subst hF
    exact a_vret rfl (Nat.zero_le _) (Nat.zero_le _) dX8_takeToken_151 ⟨rfl, rfl⟩
set_option maxRecDepth 100000 in
set_option maxHeartbeats 4000000 in
theorem w_X8_takeToken_8 {Z : ZE} {l : Launch} (hZ : OkX Z)   {R : Unit × St} (h47_ : St → Option (Unit × St)) (w47_ : ∀   (s : St), h47_  s = some R → AW Z l iX8_takeToken (Pq (rU R)) 0 0 47 [(0, .ref (za Z 23 0))] [] s) : ∀ (n_ : Nat)   (s : St), F_X8_takeToken_8 (zg Z)  h47_ n_  s = some R → AW Z l iX8_takeToken (Pq (rU R)) 0 0 8 [(0, .ref (za Z 23 0))] [] s := by
  intro n_
  induction n_ with
  | zero =>
    intro  s hF
    exact absurd hF (by rw [F_X8_takeToken_8]; exact fun q => by cases q)
  | succ n_ w8_ =>
    intro  s hF
    rw [F_X8_takeToken_8] at hF
    refine a_aload_n dX8_takeToken_8 0 rfl rfl ?_
    refine a_getI hZ.1 (s 23 0 5) (hZ.2 23 0 (by decide) Nat.one_pos) fl_X8_84 rfl rfl dX8_takeToken_9 ?_
    refine a_aload_n dX8_takeToken_12 0 rfl rfl ?_
    refine a_getI hZ.1 (s 23 0 1) (hZ.2 23 0 (by decide) Nat.one_pos) fl_X8_15 rfl rfl dX8_takeToken_13 ?_
    refine a_icmp_ge 47 dX8_takeToken_16 (by decide) (fun q1 => ?_) (fun q1 => ?_)
    · replace hF := (if_pos q1).symm.trans hF
      exact w47_   _ hF
    · replace hF := (if_neg q1).symm.trans hF
      refine a_aload_n dX8_takeToken_19 0 rfl rfl ?_
      refine a_getR hZ.1 (hZ.2 23 0 (by decide) Nat.one_pos) fl_X8_11 rfl 0 rfl dX8_takeToken_20 ?_
      refine a_aload_n dX8_takeToken_23 0 rfl rfl ?_
      refine a_getI hZ.1 (s 23 0 5) (hZ.2 23 0 (by decide) Nat.one_pos) fl_X8_84 rfl rfl dX8_takeToken_24 ?_
      obtain ⟨p2, hF⟩ := gd_some hF
      refine a_iald hZ.1 (s 24 0 (s 23 0 5).toNatClampNeg) (hZ.2 24 0 (by decide) Nat.one_pos) rfl rfl (inb_vp p2) rfl dX8_takeToken_27 ?_
      obtain ⟨r28, s28, e28, hF⟩ := bd_some hF
      refine a_invS hZ.1 (As := [.int (s 24 0 (s 23 0 5).toNatClampNeg)]) (rest := []) lk_X8_101 ⟨⟨by decide, by decide⟩, by decide, by decide⟩ rfl (Nat.le_of_ble_eq_true rfl) dX8_takeToken_28 (m_X8_isGap hZ  e28) ?_
      show AW Z l iX8_takeToken (Pq (rU R)) 0 0 31 [(0, .ref (za Z 23 0))] [.int r28] s28
      refine a_if_eq 47 dX8_takeToken_31 (by decide) (fun q3 => ?_) (fun q3 => ?_)
      · replace hF := (if_pos q3).symm.trans hF
        exact w47_   _ hF
      · replace hF := (if_neg q3).symm.trans hF
        refine a_aload_n dX8_takeToken_34 0 rfl rfl ?_
        refine a_dup dX8_takeToken_35 rfl ?_
        refine a_getI hZ.1 (s28 23 0 5) (hZ.2 23 0 (by decide) Nat.one_pos) fl_X8_84 rfl rfl dX8_takeToken_36 ?_
        refine a_iconst (v := (1 : Int32)) dX8_takeToken_39 (by decide) ?_
        refine a_iadd dX8_takeToken_40 ?_
        refine a_put hZ.1 (hZ.2 23 0 (by decide) Nat.one_pos) fl_X8_84 rfl rfl rfl dX8_takeToken_41 ?_
        refine a_goto 8 dX8_takeToken_44 (by decide) ?_
        exact w8_   _ hF
set_option maxRecDepth 100000 in
set_option maxHeartbeats 4000000 in
theorem w_X8_takeToken {Z : ZE} {l : Launch} (hZ : OkX Z)   {R : Unit × St}    (s : St) (hF : F_X8_takeToken (zg Z)   s = some R) : AW Z l iX8_takeToken (Pq (rU R)) 0 0 0 [(0, .ref (za Z 23 0))] [] s := by
  unfold F_X8_takeToken at hF
  refine a_aload_n dX8_takeToken_0 0 rfl rfl ?_
  refine a_aload_n dX8_takeToken_1 0 rfl rfl ?_
  refine a_getI hZ.1 (s 23 0 6) (hZ.2 23 0 (by decide) Nat.one_pos) fl_X8_25 rfl rfl dX8_takeToken_2 ?_
  refine a_put hZ.1 (hZ.2 23 0 (by decide) Nat.one_pos) fl_X8_84 rfl rfl rfl dX8_takeToken_5 ?_
  exact w_X8_takeToken_8 (l := l) hZ  (F_X8_takeToken_47 (zg Z)  ) (w_X8_takeToken_47 (l := l) hZ  ) fu   _ hF
theorem m_X8_takeToken {Z : ZE} {l : Launch} (hZ : OkX Z)   {s : St} {R : Unit × St} (hF : F_X8_takeToken (zg Z)  s = some R) : Sp Z l yX8_takeToken iX8_takeToken [.ref (za Z 23 0)] s (rU R) :=
  Sp.of (by decide) rfl (Nat.le_of_ble_eq_true rfl) (w_X8_takeToken hZ  s hF)
-- X8_readRule
set_option maxRecDepth 100000 in
set_option maxHeartbeats 4000000 in
theorem w_X8_readRule_57 {Z : ZE} {l : Launch} (hZ : OkX Z) {a2 : Int32}  {R : Int32 × St}  (v3 : Int32)  (s : St) (hF : F_X8_readRule_57 (zg Z) a2 v3 s = some R) : AW Z l iX8_readRule (Pq (rI R)) 0 0 57 [(0, .ref (za Z 23 0)), (1, .ref (za Z 17 0)), (2, .int a2), (3, .int v3)] [] s := by
  unfold F_X8_readRule_57 at hF
  refine a_aload_n dX8_readRule_57 0 rfl rfl ?_
  refine a_gets hZ.1 (c := 4) (by decide) kw_710 dX8_readRule_58 ?_
  refine a_iload_n dX8_readRule_61 3 rfl rfl ?_
  obtain ⟨p1, hF⟩ := gd_some hF
  refine a_ti hZ.1 (c := 4) (by decide) (inb_vp p1) dX8_readRule_62 ?_
  obtain ⟨r63, s63, e63, hF⟩ := bd_some hF
  refine a_invV hZ.1 (As := [.int (stV 4 v3.toNatClampNeg)]) (rest := []) (hZ.2 23 0 (by decide) Nat.one_pos) lk_X8_48 ⟨⟨by decide, by decide⟩, by decide, by decide⟩ rfl (Nat.le_of_ble_eq_true rfl) dX8_readRule_63 (m_X8_isNumberTo hZ  e63) ?_
  show AW Z l iX8_readRule (Pq (rI R)) 0 0 66 [(0, .ref (za Z 23 0)), (1, .ref (za Z 17 0)), (2, .int a2), (3, .int v3)] [.int r63] s63
  refine a_if_ne 71 dX8_readRule_66 (by decide) (fun q2 => ?_) (fun q2 => ?_)
  · replace hF := (if_neg q2).symm.trans hF
    refine a_aload_n dX8_readRule_71 1 rfl rfl ?_
    refine a_iload_n dX8_readRule_72 2 rfl rfl ?_
    refine a_iload_n dX8_readRule_73 3 rfl rfl ?_
    refine a_aload_n dX8_readRule_74 0 rfl rfl ?_
    refine a_getI hZ.1 (s63 23 0 7) (hZ.2 23 0 (by decide) Nat.one_pos) fl_X8_51 rfl rfl dX8_readRule_75 ?_
    obtain ⟨r78, s78, e78, hF⟩ := bd_some hF
    refine a_invV hZ.1 (As := [.int a2, .int v3, .int (s63 23 0 7)]) (rest := []) (hZ.2 17 0 (by decide) Nat.one_pos) lk_X8_70 ⟨⟨by decide, by decide⟩, by decide, by decide⟩ rfl (Nat.le_of_ble_eq_true rfl) dX8_readRule_78 (m_X6_stage hZ  e78) ?_
    show AW Z l iX8_readRule (Pq (rI R)) 0 0 81 [(0, .ref (za Z 23 0)), (1, .ref (za Z 17 0)), (2, .int a2), (3, .int v3)] [] s78
    refine a_aload_n dX8_readRule_81 0 rfl rfl ?_
    obtain ⟨r82, s82, e82, hF⟩ := bd_some hF
    refine a_invV hZ.1 (As := []) (rest := []) (hZ.2 23 0 (by decide) Nat.one_pos) lk_X8_28 ⟨⟨by decide, by decide⟩, by decide, by decide⟩ rfl (Nat.le_of_ble_eq_true rfl) dX8_readRule_82 (m_X8_takeToken hZ  e82) ?_
    show AW Z l iX8_readRule (Pq (rI R)) 0 0 85 [(0, .ref (za Z 23 0)), (1, .ref (za Z 17 0)), (2, .int a2), (3, .int v3)] [] s82
    refine a_iconst (v := (1 : Int32)) dX8_readRule_85 (by decide) ?_
    replace hF := Option.some.inj hF
    subst hF
    exact a_zret rfl rfl (Nat.zero_le _) (Nat.zero_le _) dX8_readRule_86 ⟨rfl, rfl⟩
  · replace hF := (if_pos q2).symm.trans hF
    refine a_iconst (v := (0 : Int32)) dX8_readRule_69 (by decide) ?_
    replace hF := Option.some.inj hF
    subst hF
    exact a_zret rfl rfl (Nat.zero_le _) (Nat.zero_le _) dX8_readRule_70 ⟨rfl, rfl⟩
set_option maxRecDepth 100000 in
set_option maxHeartbeats 4000000 in
theorem w_X8_readRule {Z : ZE} {l : Launch} (hZ : OkX Z) {a2 : Int32}  {R : Int32 × St}    (s : St) (hF : F_X8_readRule (zg Z) a2  s = some R) : AW Z l iX8_readRule (Pq (rI R)) 0 0 0 [(0, .ref (za Z 23 0)), (1, .ref (za Z 17 0)), (2, .int a2)] [] s := by
  unfold F_X8_readRule at hF
  refine a_aload_n dX8_readRule_0 0 rfl rfl ?_
  obtain ⟨r1, s1, e1, hF⟩ := bd_some hF
  refine a_invV hZ.1 (As := []) (rest := []) (hZ.2 23 0 (by decide) Nat.one_pos) lk_X8_58 ⟨⟨by decide, by decide⟩, by decide, by decide⟩ rfl (Nat.le_of_ble_eq_true rfl) dX8_readRule_1 (m_X8_ruleOfWord hZ  e1) ?_
  show AW Z l iX8_readRule (Pq (rI R)) 0 0 4 [(0, .ref (za Z 23 0)), (1, .ref (za Z 17 0)), (2, .int a2)] [.int r1] s1
  refine a_istore_n [(3, .int r1), (0, .ref (za Z 23 0)), (1, .ref (za Z 17 0)), (2, .int a2)] dX8_readRule_4 rfl (by decide) rfl ?_
  refine a_iload_n dX8_readRule_5 0 rfl rfl ?_
  refine a_ldc (v := (-1000000)) kw_705 dX8_readRule_6 ?_
  refine a_icmp_ne 17 dX8_readRule_8 (by decide) (fun q1 => ?_) (fun q1 => ?_)
  · replace hF := (if_neg q1).symm.trans hF
    refine a_aload_n dX8_readRule_17 2 rfl rfl ?_
    obtain ⟨r18, s18, e18, hF⟩ := bd_some hF
    refine a_invV hZ.1 (As := []) (rest := []) (hZ.2 17 0 (by decide) Nat.one_pos) lk_X8_63 ⟨⟨by decide, by decide⟩, by decide, by decide⟩ rfl (Nat.le_of_ble_eq_true rfl) dX8_readRule_18 (m_X6_hasRoom hZ  e18) ?_
    show AW Z l iX8_readRule (Pq (rI R)) 0 0 21 [(3, .int r1), (0, .ref (za Z 23 0)), (1, .ref (za Z 17 0)), (2, .int a2)] [.int r18] s18
    refine a_if_ne 30 dX8_readRule_21 (by decide) (fun q2 => ?_) (fun q2 => ?_)
    · replace hF := (if_neg q2).symm.trans hF
      refine a_aload_n dX8_readRule_30 1 rfl rfl ?_
      obtain ⟨r31, s31, e31, hF⟩ := bd_some hF
      refine a_invV hZ.1 (As := []) (rest := []) (hZ.2 23 0 (by decide) Nat.one_pos) lk_X8_28 ⟨⟨by decide, by decide⟩, by decide, by decide⟩ rfl (Nat.le_of_ble_eq_true rfl) dX8_readRule_31 (m_X8_takeToken hZ  e31) ?_
      show AW Z l iX8_readRule (Pq (rI R)) 0 0 34 [(3, .int r1), (0, .ref (za Z 23 0)), (1, .ref (za Z 17 0)), (2, .int a2)] [] s31
      refine a_iload_n dX8_readRule_34 0 rfl rfl ?_
      refine a_if_ne 57 dX8_readRule_35 (by decide) (fun q3 => ?_) (fun q3 => ?_)
      · replace hF := (if_neg q3).symm.trans hF
        refine a_loc [(0, .ref (za Z 23 0)), (1, .ref (za Z 17 0)), (2, .int a2), (3, .int r1)] [1, 2, 3, 0] rfl ?_
        exact w_X8_readRule_57 (l := l) hZ   r1  _ hF
      · replace hF := (if_pos q3).symm.trans hF
        refine a_aload_n dX8_readRule_38 1 rfl rfl ?_
        refine a_iconst (v := (3 : Int32)) dX8_readRule_39 (by decide) ?_
        obtain ⟨r40, s40, e40, hF⟩ := bd_some hF
        refine a_invV hZ.1 (As := [.int (3 : Int32)]) (rest := []) (hZ.2 23 0 (by decide) Nat.one_pos) lk_X8_48 ⟨⟨by decide, by decide⟩, by decide, by decide⟩ rfl (Nat.le_of_ble_eq_true rfl) dX8_readRule_40 (m_X8_isNumberTo hZ  e40) ?_
        show AW Z l iX8_readRule (Pq (rI R)) 0 0 43 [(3, .int r1), (0, .ref (za Z 23 0)), (1, .ref (za Z 17 0)), (2, .int a2)] [.int r40] s40
        refine a_if_ne 48 dX8_readRule_43 (by decide) (fun q4 => ?_) (fun q4 => ?_)
        · replace hF := (if_neg q4).symm.trans hF
          refine a_aload_n dX8_readRule_48 1 rfl rfl ?_
          refine a_getI hZ.1 (s40 23 0 7) (hZ.2 23 0 (by decide) Nat.one_pos) fl_X8_51 rfl rfl dX8_readRule_49 ?_
          refine a_istore_n [(3, .int (s40 23 0 7)), (0, .ref (za Z 23 0)), (1, .ref (za Z 17 0)), (2, .int a2)] dX8_readRule_52 rfl (by decide) rfl ?_
          refine a_aload_n dX8_readRule_53 1 rfl rfl ?_
          obtain ⟨r54, s54, e54, hF⟩ := bd_some hF
          refine a_invV hZ.1 (As := []) (rest := []) (hZ.2 23 0 (by decide) Nat.one_pos) lk_X8_28 ⟨⟨by decide, by decide⟩, by decide, by decide⟩ rfl (Nat.le_of_ble_eq_true rfl) dX8_readRule_54 (m_X8_takeToken hZ  e54) ?_
          show AW Z l iX8_readRule (Pq (rI R)) 0 0 57 [(3, .int (s40 23 0 7)), (0, .ref (za Z 23 0)), (1, .ref (za Z 17 0)), (2, .int a2)] [] s54
          refine a_loc [(0, .ref (za Z 23 0)), (1, .ref (za Z 17 0)), (2, .int a2), (3, .int (s40 23 0 7))] [1, 2, 3, 0] rfl ?_
          exact w_X8_readRule_57 (l := l) hZ   (s40 23 0 7)  _ hF
        · replace hF := (if_pos q4).symm.trans hF
          refine a_iconst (v := (0 : Int32)) dX8_readRule_46 (by decide) ?_
          replace hF := Option.some.inj hF
          subst hF
          exact a_zret rfl rfl (Nat.zero_le _) (Nat.zero_le _) dX8_readRule_47 ⟨rfl, rfl⟩
    · replace hF := (if_pos q2).symm.trans hF
      refine a_aload_n dX8_readRule_24 1 rfl rfl ?_
      refine a_iconst (v := (3 : Int32)) dX8_readRule_25 (by decide) ?_
      obtain ⟨r26, s26, e26, hF⟩ := bd_some hF
      refine a_invV hZ.1 (As := [.int (3 : Int32)]) (rest := []) (hZ.2 23 0 (by decide) Nat.one_pos) lk_X8_44 ⟨⟨by decide, by decide⟩, by decide, by decide⟩ rfl (Nat.le_of_ble_eq_true rfl) dX8_readRule_26 (m_X8_faulty hZ  e26) ?_
      show AW Z l iX8_readRule (Pq (rI R)) 0 0 29 [(3, .int r1), (0, .ref (za Z 23 0)), (1, .ref (za Z 17 0)), (2, .int a2)] [.int r26] s26
      obtain ⟨p5, hF⟩ := gd_some hF
      replace hF := Option.some.inj hF
      subst hF
      exact a_zret rfl (isb_n p5) (Nat.zero_le _) (Nat.zero_le _) dX8_readRule_29 ⟨rfl, rfl⟩
  · replace hF := (if_pos q1).symm.trans hF
    refine a_aload_n dX8_readRule_11 1 rfl rfl ?_
    refine a_iconst (v := (1 : Int32)) dX8_readRule_12 (by decide) ?_
    obtain ⟨r13, s13, e13, hF⟩ := bd_some hF
    refine a_invV hZ.1 (As := [.int (1 : Int32)]) (rest := []) (hZ.2 23 0 (by decide) Nat.one_pos) lk_X8_44 ⟨⟨by decide, by decide⟩, by decide, by decide⟩ rfl (Nat.le_of_ble_eq_true rfl) dX8_readRule_13 (m_X8_faulty hZ  e13) ?_
    show AW Z l iX8_readRule (Pq (rI R)) 0 0 16 [(3, .int r1), (0, .ref (za Z 23 0)), (1, .ref (za Z 17 0)), (2, .int a2)] [.int r13] s13
    obtain ⟨p6, hF⟩ := gd_some hF
    replace hF := Option.some.inj hF
    subst hF
    exact a_zret rfl (isb_n p6) (Nat.zero_le _) (Nat.zero_le _) dX8_readRule_16 ⟨rfl, rfl⟩
theorem m_X8_readRule {Z : ZE} {l : Launch} (hZ : OkX Z) {a2 : Int32}  {s : St} {R : Int32 × St} (hF : F_X8_readRule (zg Z) a2 s = some R) : Sp Z l yX8_readRule iX8_readRule [.ref (za Z 23 0), .ref (za Z 17 0), .int a2] s (rI R) :=
  Sp.of (by decide) rfl (Nat.le_of_ble_eq_true rfl) (w_X8_readRule hZ  s hF)
-- X8_readList
set_option maxRecDepth 100000 in
set_option maxHeartbeats 4000000 in
theorem w_X8_readList_84 {Z : ZE} {l : Launch} (hZ : OkX Z)   {R : Int32 × St}    (s : St) (hF : F_X8_readList_84 (zg Z)   s = some R) : AW Z l iX8_readList (Pq (rI R)) 0 0 84 [(0, .ref (za Z 23 0))] [] s := by
  unfold F_X8_readList_84 at hF
  refine a_aload_n dX8_readList_84 0 rfl rfl ?_
  refine a_iconst (v := (1 : Int32)) dX8_readList_85 (by decide) ?_
  obtain ⟨r86, s86, e86, hF⟩ := bd_some hF
  refine a_invV hZ.1 (As := [.int (1 : Int32)]) (rest := []) (hZ.2 23 0 (by decide) Nat.one_pos) lk_X8_44 ⟨⟨by decide, by decide⟩, by decide, by decide⟩ rfl (Nat.le_of_ble_eq_true rfl) dX8_readList_86 (m_X8_faulty hZ  e86) ?_
  show AW Z l iX8_readList (Pq (rI R)) 0 0 89 [(0, .ref (za Z 23 0))] [.int r86] s86
  obtain ⟨p1, hF⟩ := gd_some hF
  replace hF := Option.some.inj hF
  subst hF
  exact a_zret rfl (isb_n p1) (Nat.zero_le _) (Nat.zero_le _) dX8_readList_89 ⟨rfl, rfl⟩
set_option maxRecDepth 100000 in
set_option maxHeartbeats 4000000 in
theorem w_X8_readList_67 {Z : ZE} {l : Launch} (hZ : OkX Z)   {R : Int32 × St} (h41_ : Int32 → Int32 → St → Option (Int32 × St)) (w41_ : ∀ (v2 : Int32) (v3 : Int32)  (s : St), h41_ v2 v3 s = some R → AW Z l iX8_readList (Pq (rI R)) 0 0 41 [(0, .ref (za Z 23 0)), (1, .ref (za Z 17 0)), (2, .int v2), (3, .int v3)] [] s) (h61_ : St → Option (Int32 × St)) (w61_ : ∀   (s : St), h61_  s = some R → AW Z l iX8_readList (Pq (rI R)) 0 0 61 [(0, .ref (za Z 23 0))] [] s) (h84_ : St → Option (Int32 × St)) (w84_ : ∀   (s : St), h84_  s = some R → AW Z l iX8_readList (Pq (rI R)) 0 0 84 [(0, .ref (za Z 23 0))] [] s) (v2 : Int32) (v3 : Int32)  (s : St) (hF : F_X8_readList_67 (zg Z)  h41_ h61_ h84_ v2 v3 s = some R) : AW Z l iX8_readList (Pq (rI R)) 0 0 67 [(0, .ref (za Z 23 0)), (1, .ref (za Z 17 0)), (2, .int v2), (3, .int v3)] [] s := by
  unfold F_X8_readList_67 at hF
  refine a_aload_n dX8_readList_67 0 rfl rfl ?_
  refine a_aload_n dX8_readList_68 1 rfl rfl ?_
  refine a_iload_n dX8_readList_69 2 rfl rfl ?_
  obtain ⟨r70, s70, e70, hF⟩ := bd_some hF
  refine a_invV hZ.1 (As := [.ref (za Z 17 0), .int v2]) (rest := []) (hZ.2 23 0 (by decide) Nat.one_pos) lk_X8_54 ⟨⟨by decide, by decide⟩, by decide, by decide⟩ rfl (Nat.le_of_ble_eq_true rfl) dX8_readList_70 (m_X8_readRule hZ  e70) ?_
  show AW Z l iX8_readList (Pq (rI R)) 0 0 73 [(0, .ref (za Z 23 0)), (1, .ref (za Z 17 0)), (2, .int v2), (3, .int v3)] [.int r70] s70
  refine a_if_ne 78 dX8_readList_73 (by decide) (fun q1 => ?_) (fun q1 => ?_)
  · replace hF := (if_neg q1).symm.trans hF
    refine a_iinc [(3, .int (v3 + 1)), (0, .ref (za Z 23 0)), (1, .ref (za Z 17 0)), (2, .int v2)] dX8_readList_78 3 rfl rfl (by decide) rfl ?_
    refine a_goto 41 dX8_readList_81 (by decide) ?_
    refine a_loc [(0, .ref (za Z 23 0)), (1, .ref (za Z 17 0)), (2, .int v2), (3, .int (v3 + 1))] [1, 2, 3, 0] rfl ?_
    exact w41_ v2 (v3 + 1)  _ hF
  · replace hF := (if_pos q1).symm.trans hF
    refine a_iconst (v := (0 : Int32)) dX8_readList_76 (by decide) ?_
    replace hF := Option.some.inj hF
    subst hF
    exact a_zret rfl rfl (Nat.zero_le _) (Nat.zero_le _) dX8_readList_77 ⟨rfl, rfl⟩
set_option maxRecDepth 100000 in
set_option maxHeartbeats 4000000 in
theorem w_X8_readList_61 {Z : ZE} {l : Launch} (hZ : OkX Z)   {R : Int32 × St}    (s : St) (hF : F_X8_readList_61 (zg Z)   s = some R) : AW Z l iX8_readList (Pq (rI R)) 0 0 61 [(0, .ref (za Z 23 0))] [] s := by
  unfold F_X8_readList_61 at hF
  refine a_aload_n dX8_readList_61 0 rfl rfl ?_
  obtain ⟨r62, s62, e62, hF⟩ := bd_some hF
  refine a_invV hZ.1 (As := []) (rest := []) (hZ.2 23 0 (by decide) Nat.one_pos) lk_X8_28 ⟨⟨by decide, by decide⟩, by decide, by decide⟩ rfl (Nat.le_of_ble_eq_true rfl) dX8_readList_62 (m_X8_takeToken hZ  e62) ?_
  show AW Z l iX8_readList (Pq (rI R)) 0 0 65 [(0, .ref (za Z 23 0))] [] s62
  refine a_iconst (v := (1 : Int32)) dX8_readList_65 (by decide) ?_
  replace hF := Option.some.inj hF
  subst hF
  exact a_zret rfl rfl (Nat.zero_le _) (Nat.zero_le _) dX8_readList_66 ⟨rfl, rfl⟩
set_option maxRecDepth 100000 in
set_option maxHeartbeats 4000000 in
theorem w_X8_readList_41 {Z : ZE} {l : Launch} (hZ : OkX Z)   {R : Int32 × St} (h61_ : St → Option (Int32 × St)) (w61_ : ∀   (s : St), h61_  s = some R → AW Z l iX8_readList (Pq (rI R)) 0 0 61 [(0, .ref (za Z 23 0))] [] s) (h84_ : St → Option (Int32 × St)) (w84_ : ∀   (s : St), h84_  s = some R → AW Z l iX8_readList (Pq (rI R)) 0 0 84 [(0, .ref (za Z 23 0))] [] s) : ∀ (n_ : Nat) (v2 : Int32) (v3 : Int32)  (s : St), F_X8_readList_41 (zg Z)  h61_ h84_ n_ v2 v3 s = some R → AW Z l iX8_readList (Pq (rI R)) 0 0 41 [(0, .ref (za Z 23 0)), (1, .ref (za Z 17 0)), (2, .int v2), (3, .int v3)] [] s := by
  intro n_
  induction n_ with
  | zero =>
    intro v2 v3 s hF
    exact absurd hF (by rw [F_X8_readList_41]; exact fun q => by cases q)
  | succ n_ w41_ =>
    intro v2 v3 s hF
    rw [F_X8_readList_41] at hF
    refine a_iload_n dX8_readList_41 3 rfl rfl ?_
    refine a_aload_n dX8_readList_42 0 rfl rfl ?_
    refine a_getI hZ.1 (s 23 0 1) (hZ.2 23 0 (by decide) Nat.one_pos) fl_X8_15 rfl rfl dX8_readList_43 ?_
    refine a_icmp_gt 84 dX8_readList_46 (by decide) (fun q1 => ?_) (fun q1 => ?_)
    · replace hF := (if_pos q1).symm.trans hF
      refine a_loc [(0, .ref (za Z 23 0))] [0] rfl ?_
      exact w84_   _ hF
    · replace hF := (if_neg q1).symm.trans hF
      refine a_iload_n dX8_readList_49 3 rfl rfl ?_
      refine a_if_le 67 dX8_readList_50 (by decide) (fun q2 => ?_) (fun q2 => ?_)
      · replace hF := (if_pos q2).symm.trans hF
        exact w_X8_readList_67 (l := l) hZ  (F_X8_readList_41 (zg Z)  h61_ h84_ n_) w41_ h61_ w61_ h84_ w84_ v2 v3  _ hF
      · replace hF := (if_neg q2).symm.trans hF
        refine a_aload_n dX8_readList_53 0 rfl rfl ?_
        refine a_getI hZ.1 (s 23 0 4) (hZ.2 23 0 (by decide) Nat.one_pos) fl_X8_31 rfl rfl dX8_readList_54 ?_
        refine a_iconst (v := (3 : Int32)) dX8_readList_57 (by decide) ?_
        refine a_icmp_ne 67 dX8_readList_58 (by decide) (fun q3 => ?_) (fun q3 => ?_)
        · replace hF := (if_neg q3).symm.trans hF
          exact w_X8_readList_67 (l := l) hZ  (F_X8_readList_41 (zg Z)  h61_ h84_ n_) w41_ h61_ w61_ h84_ w84_ v2 v3  _ hF
        · replace hF := (if_pos q3).symm.trans hF
          refine a_loc [(0, .ref (za Z 23 0))] [0] rfl ?_
          exact w61_   _ hF
set_option maxRecDepth 100000 in
set_option maxHeartbeats 4000000 in
theorem w_X8_readList {Z : ZE} {l : Launch} (hZ : OkX Z)   {R : Int32 × St}    (s : St) (hF : F_X8_readList (zg Z)   s = some R) : AW Z l iX8_readList (Pq (rI R)) 0 0 0 [(0, .ref (za Z 23 0)), (1, .ref (za Z 17 0))] [] s := by
  unfold F_X8_readList at hF
  refine a_aload_n dX8_readList_0 0 rfl rfl ?_
  refine a_ldcS hZ.1 (c := 0) (by decide) rfl rfl dX8_readList_1 ?_
  obtain ⟨r3, s3, e3, hF⟩ := bd_some hF
  refine a_invV hZ.1 (As := [.ref (za Z 110 0)]) (rest := []) (hZ.2 23 0 (by decide) Nat.one_pos) lk_X8_40 ⟨⟨by decide, by decide⟩, by decide, by decide⟩ rfl (Nat.le_of_ble_eq_true rfl) dX8_readList_3 (m_X8_isWord hZ (by decide) e3) ?_
  show AW Z l iX8_readList (Pq (rI R)) 0 0 6 [(0, .ref (za Z 23 0)), (1, .ref (za Z 17 0))] [.int r3] s3
  refine a_if_ne 15 dX8_readList_6 (by decide) (fun q1 => ?_) (fun q1 => ?_)
  · replace hF := (if_neg q1).symm.trans hF
    refine a_aload_n dX8_readList_15 0 rfl rfl ?_
    obtain ⟨r16, s16, e16, hF⟩ := bd_some hF
    refine a_invV hZ.1 (As := []) (rest := []) (hZ.2 23 0 (by decide) Nat.one_pos) lk_X8_28 ⟨⟨by decide, by decide⟩, by decide, by decide⟩ rfl (Nat.le_of_ble_eq_true rfl) dX8_readList_16 (m_X8_takeToken hZ  e16) ?_
    show AW Z l iX8_readList (Pq (rI R)) 0 0 19 [(0, .ref (za Z 23 0)), (1, .ref (za Z 17 0))] [] s16
    refine a_aload_n dX8_readList_19 0 rfl rfl ?_
    refine a_bipush (v := (99 : Int32)) dX8_readList_20 (by decide) ?_
    obtain ⟨r22, s22, e22, hF⟩ := bd_some hF
    refine a_invV hZ.1 (As := [.int (99 : Int32)]) (rest := []) (hZ.2 23 0 (by decide) Nat.one_pos) lk_X8_48 ⟨⟨by decide, by decide⟩, by decide, by decide⟩ rfl (Nat.le_of_ble_eq_true rfl) dX8_readList_22 (m_X8_isNumberTo hZ  e22) ?_
    show AW Z l iX8_readList (Pq (rI R)) 0 0 25 [(0, .ref (za Z 23 0)), (1, .ref (za Z 17 0))] [.int r22] s22
    refine a_if_ne 30 dX8_readList_25 (by decide) (fun q2 => ?_) (fun q2 => ?_)
    · replace hF := (if_neg q2).symm.trans hF
      refine a_aload_n dX8_readList_30 0 rfl rfl ?_
      refine a_getI hZ.1 (s22 23 0 7) (hZ.2 23 0 (by decide) Nat.one_pos) fl_X8_51 rfl rfl dX8_readList_31 ?_
      refine a_istore_n [(2, .int (s22 23 0 7)), (0, .ref (za Z 23 0)), (1, .ref (za Z 17 0))] dX8_readList_34 rfl (by decide) rfl ?_
      refine a_aload_n dX8_readList_35 1 rfl rfl ?_
      obtain ⟨r36, s36, e36, hF⟩ := bd_some hF
      refine a_invV hZ.1 (As := []) (rest := []) (hZ.2 23 0 (by decide) Nat.one_pos) lk_X8_28 ⟨⟨by decide, by decide⟩, by decide, by decide⟩ rfl (Nat.le_of_ble_eq_true rfl) dX8_readList_36 (m_X8_takeToken hZ  e36) ?_
      show AW Z l iX8_readList (Pq (rI R)) 0 0 39 [(2, .int (s22 23 0 7)), (0, .ref (za Z 23 0)), (1, .ref (za Z 17 0))] [] s36
      refine a_iconst (v := (0 : Int32)) dX8_readList_39 (by decide) ?_
      refine a_istore_n [(3, .int (0 : Int32)), (2, .int (s22 23 0 7)), (0, .ref (za Z 23 0)), (1, .ref (za Z 17 0))] dX8_readList_40 rfl (by decide) rfl ?_
      refine a_loc [(0, .ref (za Z 23 0)), (1, .ref (za Z 17 0)), (2, .int (s22 23 0 7)), (3, .int (0 : Int32))] [2, 3, 1, 0] rfl ?_
      exact w_X8_readList_41 (l := l) hZ  (F_X8_readList_61 (zg Z)  ) (w_X8_readList_61 (l := l) hZ  ) (F_X8_readList_84 (zg Z)  ) (w_X8_readList_84 (l := l) hZ  ) fu (s22 23 0 7) (0 : Int32)  _ hF
    · replace hF := (if_pos q2).symm.trans hF
      refine a_iconst (v := (0 : Int32)) dX8_readList_28 (by decide) ?_
      replace hF := Option.some.inj hF
      subst hF
      exact a_zret rfl rfl (Nat.zero_le _) (Nat.zero_le _) dX8_readList_29 ⟨rfl, rfl⟩
  · replace hF := (if_pos q1).symm.trans hF
    refine a_aload_n dX8_readList_9 0 rfl rfl ?_
    refine a_iconst (v := (1 : Int32)) dX8_readList_10 (by decide) ?_
    obtain ⟨r11, s11, e11, hF⟩ := bd_some hF
    refine a_invV hZ.1 (As := [.int (1 : Int32)]) (rest := []) (hZ.2 23 0 (by decide) Nat.one_pos) lk_X8_44 ⟨⟨by decide, by decide⟩, by decide, by decide⟩ rfl (Nat.le_of_ble_eq_true rfl) dX8_readList_11 (m_X8_faulty hZ  e11) ?_
    show AW Z l iX8_readList (Pq (rI R)) 0 0 14 [(0, .ref (za Z 23 0)), (1, .ref (za Z 17 0))] [.int r11] s11
    obtain ⟨p3, hF⟩ := gd_some hF
    replace hF := Option.some.inj hF
    subst hF
    exact a_zret rfl (isb_n p3) (Nat.zero_le _) (Nat.zero_le _) dX8_readList_14 ⟨rfl, rfl⟩
theorem m_X8_readList {Z : ZE} {l : Launch} (hZ : OkX Z)   {s : St} {R : Int32 × St} (hF : F_X8_readList (zg Z)  s = some R) : Sp Z l yX8_readList iX8_readList [.ref (za Z 23 0), .ref (za Z 17 0)] s (rI R) :=
  Sp.of (by decide) rfl (Nat.le_of_ble_eq_true rfl) (w_X8_readList hZ  s hF)
-- X8_readInto
set_option maxRecDepth 100000 in
set_option maxHeartbeats 4000000 in
theorem w_X8_readInto_15 {Z : ZE} {l : Launch} (hZ : OkX Z)   {R : Int32 × St}  : ∀ (n_ : Nat) (v2 : Int32)  (s : St), F_X8_readInto_15 (zg Z)  n_ v2 s = some R → AW Z l iX8_readInto (Pq (rI R)) 0 0 15 [(0, .ref (za Z 23 0)), (1, .ref (za Z 17 0)), (2, .int v2)] [] s := by
  intro n_
  induction n_ with
  | zero =>
    intro v2 s hF
    exact absurd hF (by rw [F_X8_readInto_15]; exact fun q => by cases q)
  | succ n_ w15_ =>
    intro v2 s hF
    rw [F_X8_readInto_15] at hF
    refine a_iload_n dX8_readInto_15 2 rfl rfl ?_
    refine a_aload_n dX8_readInto_16 0 rfl rfl ?_
    refine a_getI hZ.1 (s 23 0 1) (hZ.2 23 0 (by decide) Nat.one_pos) fl_X8_15 rfl rfl dX8_readInto_17 ?_
    refine a_icmp_gt 46 dX8_readInto_20 (by decide) (fun q1 => ?_) (fun q1 => ?_)
    · replace hF := (if_pos q1).symm.trans hF
      refine a_iconst (v := (1 : Int32)) dX8_readInto_46 (by decide) ?_
      replace hF := Option.some.inj hF
      subst hF
      exact a_zret rfl rfl (Nat.zero_le _) (Nat.zero_le _) dX8_readInto_47 ⟨rfl, rfl⟩
    · replace hF := (if_neg q1).symm.trans hF
      refine a_aload_n dX8_readInto_23 0 rfl rfl ?_
      refine a_getI hZ.1 (s 23 0 4) (hZ.2 23 0 (by decide) Nat.one_pos) fl_X8_31 rfl rfl dX8_readInto_24 ?_
      refine a_if_eq 46 dX8_readInto_27 (by decide) (fun q2 => ?_) (fun q2 => ?_)
      · replace hF := (if_pos q2).symm.trans hF
        refine a_iconst (v := (1 : Int32)) dX8_readInto_46 (by decide) ?_
        replace hF := Option.some.inj hF
        subst hF
        exact a_zret rfl rfl (Nat.zero_le _) (Nat.zero_le _) dX8_readInto_47 ⟨rfl, rfl⟩
      · replace hF := (if_neg q2).symm.trans hF
        refine a_aload_n dX8_readInto_30 0 rfl rfl ?_
        refine a_aload_n dX8_readInto_31 1 rfl rfl ?_
        obtain ⟨r32, s32, e32, hF⟩ := bd_some hF
        refine a_invV hZ.1 (As := [.ref (za Z 17 0)]) (rest := []) (hZ.2 23 0 (by decide) Nat.one_pos) lk_X8_34 ⟨⟨by decide, by decide⟩, by decide, by decide⟩ rfl (Nat.le_of_ble_eq_true rfl) dX8_readInto_32 (m_X8_readList hZ  e32) ?_
        show AW Z l iX8_readInto (Pq (rI R)) 0 0 35 [(0, .ref (za Z 23 0)), (1, .ref (za Z 17 0)), (2, .int v2)] [.int r32] s32
        refine a_if_ne 40 dX8_readInto_35 (by decide) (fun q3 => ?_) (fun q3 => ?_)
        · replace hF := (if_neg q3).symm.trans hF
          refine a_iinc [(2, .int (v2 + 1)), (0, .ref (za Z 23 0)), (1, .ref (za Z 17 0))] dX8_readInto_40 2 rfl rfl (by decide) rfl ?_
          refine a_goto 15 dX8_readInto_43 (by decide) ?_
          refine a_loc [(0, .ref (za Z 23 0)), (1, .ref (za Z 17 0)), (2, .int (v2 + 1))] [1, 2, 0] rfl ?_
          exact w15_ (v2 + 1)  _ hF
        · replace hF := (if_pos q3).symm.trans hF
          refine a_iconst (v := (0 : Int32)) dX8_readInto_38 (by decide) ?_
          replace hF := Option.some.inj hF
          subst hF
          exact a_zret rfl rfl (Nat.zero_le _) (Nat.zero_le _) dX8_readInto_39 ⟨rfl, rfl⟩
set_option maxRecDepth 100000 in
set_option maxHeartbeats 4000000 in
theorem w_X8_readInto {Z : ZE} {l : Launch} (hZ : OkX Z)   {R : Int32 × St}    (s : St) (hF : F_X8_readInto (zg Z)   s = some R) : AW Z l iX8_readInto (Pq (rI R)) 0 0 0 [(0, .ref (za Z 23 0)), (1, .ref (za Z 17 0))] [] s := by
  unfold F_X8_readInto at hF
  refine a_aload_n dX8_readInto_0 1 rfl rfl ?_
  obtain ⟨r1, s1, e1, hF⟩ := bd_some hF
  refine a_invV hZ.1 (As := []) (rest := []) (hZ.2 17 0 (by decide) Nat.one_pos) lk_X8_20 ⟨⟨by decide, by decide⟩, by decide, by decide⟩ rfl (Nat.le_of_ble_eq_true rfl) dX8_readInto_1 (m_X6_stageNone hZ  e1) ?_
  show AW Z l iX8_readInto (Pq (rI R)) 0 0 4 [(0, .ref (za Z 23 0)), (1, .ref (za Z 17 0))] [] s1
  refine a_aload_n dX8_readInto_4 0 rfl rfl ?_
  refine a_iconst (v := (0 : Int32)) dX8_readInto_5 (by decide) ?_
  refine a_put hZ.1 (hZ.2 23 0 (by decide) Nat.one_pos) fl_X8_25 rfl rfl rfl dX8_readInto_6 ?_
  refine a_aload_n dX8_readInto_9 0 rfl rfl ?_
  obtain ⟨r10, s10, e10, hF⟩ := bd_some hF
  refine a_invV hZ.1 (As := []) (rest := []) (hZ.2 23 0 (by decide) Nat.one_pos) lk_X8_28 ⟨⟨by decide, by decide⟩, by decide, by decide⟩ rfl (Nat.le_of_ble_eq_true rfl) dX8_readInto_10 (m_X8_takeToken hZ  e10) ?_
  show AW Z l iX8_readInto (Pq (rI R)) 0 0 13 [(0, .ref (za Z 23 0)), (1, .ref (za Z 17 0))] [] s10
  refine a_iconst (v := (0 : Int32)) dX8_readInto_13 (by decide) ?_
  refine a_istore_n [(2, .int (0 : Int32)), (0, .ref (za Z 23 0)), (1, .ref (za Z 17 0))] dX8_readInto_14 rfl (by decide) rfl ?_
  refine a_loc [(0, .ref (za Z 23 0)), (1, .ref (za Z 17 0)), (2, .int (0 : Int32))] [1, 2, 0] rfl ?_
  exact w_X8_readInto_15 (l := l) hZ   fu (0 : Int32)  _ hF
theorem m_X8_readInto {Z : ZE} {l : Launch} (hZ : OkX Z)   {s : St} {R : Int32 × St} (hF : F_X8_readInto (zg Z)  s = some R) : Sp Z l yX8_readInto iX8_readInto [.ref (za Z 23 0), .ref (za Z 17 0)] s (rI R) :=
  Sp.of (by decide) rfl (Nat.le_of_ble_eq_true rfl) (w_X8_readInto hZ  s hF)
-- X10_lists
set_option maxRecDepth 100000 in
set_option maxHeartbeats 4000000 in
theorem w_X10_lists {Z : ZE} {l : Launch} (hZ : OkX Z)   {R : Int32 × St}    (s : St) (hF : F_X10_lists (zg Z)   s = some R) : AW Z l iX10_lists (Pq (rI R)) 0 0 0 [(0, .ref (za Z 0 0))] [] s := by
  unfold F_X10_lists at hF
  refine a_aload_n dX10_lists_0 0 rfl rfl ?_
  refine a_getR hZ.1 (hZ.2 0 0 (by decide) Nat.one_pos) fl_X10_32 rfl 0 rfl dX10_lists_1 ?_
  refine a_aload_n dX10_lists_4 0 rfl rfl ?_
  refine a_getR hZ.1 (hZ.2 0 0 (by decide) Nat.one_pos) fl_X10_25 rfl 0 rfl dX10_lists_5 ?_
  obtain ⟨r8, s8, e8, hF⟩ := bd_some hF
  refine a_invV hZ.1 (As := [.ref (za Z 17 0)]) (rest := []) (hZ.2 23 0 (by decide) Nat.one_pos) lk_X10_198 ⟨⟨by decide, by decide⟩, by decide, by decide⟩ rfl (Nat.le_of_ble_eq_true rfl) dX10_lists_8 (m_X8_readInto hZ  e8) ?_
  show AW Z l iX10_lists (Pq (rI R)) 0 0 11 [(0, .ref (za Z 0 0))] [.int r8] s8
  refine a_istore_n [(1, .int r8), (0, .ref (za Z 0 0))] dX10_lists_11 rfl (by decide) rfl ?_
  refine a_aload_n dX10_lists_12 1 rfl rfl ?_
  refine a_getR hZ.1 (hZ.2 0 0 (by decide) Nat.one_pos) fl_X10_32 rfl 0 rfl dX10_lists_13 ?_
  refine a_iconst (v := (0 : Int32)) dX10_lists_16 (by decide) ?_
  refine a_put hZ.1 (hZ.2 23 0 (by decide) Nat.one_pos) fl_X10_202 rfl rfl rfl dX10_lists_17 ?_
  refine a_iload_n dX10_lists_20 0 rfl rfl ?_
  refine a_if_ne 35 dX10_lists_21 (by decide) (fun q1 => ?_) (fun q1 => ?_)
  · replace hF := (if_neg q1).symm.trans hF
    refine a_aload_n dX10_lists_35 1 rfl rfl ?_
    refine a_getR hZ.1 (hZ.2 0 0 (by decide) Nat.one_pos) fl_X10_25 rfl 0 rfl dX10_lists_36 ?_
    obtain ⟨r39, s39, e39, hF⟩ := bd_some hF
    refine a_invV hZ.1 (As := []) (rest := []) (hZ.2 17 0 (by decide) Nat.one_pos) lk_X10_209 ⟨⟨by decide, by decide⟩, by decide, by decide⟩ rfl (Nat.le_of_ble_eq_true rfl) dX10_lists_39 (m_X6_keepStaged hZ  e39) ?_
    show AW Z l iX10_lists (Pq (rI R)) 0 0 42 [(1, .int r8), (0, .ref (za Z 0 0))] [] s39
    refine a_aload_n dX10_lists_42 1 rfl rfl ?_
    refine a_getR hZ.1 (hZ.2 0 0 (by decide) Nat.one_pos) fl_X10_25 rfl 0 rfl dX10_lists_43 ?_
    refine a_getI hZ.1 (s39 17 0 5) (hZ.2 17 0 (by decide) Nat.one_pos) fl_X10_212 rfl rfl dX10_lists_46 ?_
    replace hF := Option.some.inj hF
    subst hF
    exact a_iret rfl (Nat.zero_le _) (Nat.zero_le _) dX10_lists_49 ⟨rfl, rfl⟩
  · replace hF := (if_pos q1).symm.trans hF
    refine a_ldc (v := (-1000100)) kw_717 dX10_lists_24 ?_
    refine a_aload_n dX10_lists_26 1 rfl rfl ?_
    refine a_getR hZ.1 (hZ.2 0 0 (by decide) Nat.one_pos) fl_X10_32 rfl 0 rfl dX10_lists_27 ?_
    refine a_getI hZ.1 (s8 23 0 3) (hZ.2 23 0 (by decide) Nat.one_pos) fl_X10_206 rfl (by simp [up]) dX10_lists_30 ?_
    refine a_isub dX10_lists_33 ?_
    replace hF := Option.some.inj hF
    subst hF
    exact a_iret rfl (Nat.zero_le _) (Nat.zero_le _) dX10_lists_34 ⟨rfl, rfl⟩
theorem m_X10_lists {Z : ZE} {l : Launch} (hZ : OkX Z)   {s : St} {R : Int32 × St} (hF : F_X10_lists (zg Z)  s = some R) : Sp Z l yX10_lists iX10_lists [.ref (za Z 0 0)] s (rI R) :=
  Sp.of (by decide) rfl (Nat.le_of_ble_eq_true rfl) (w_X10_lists hZ  s hF)
-- X1_hasMill
set_option maxRecDepth 100000 in
set_option maxHeartbeats 4000000 in
theorem w_X1_hasMill {Z : ZE} {l : Launch} (hZ : OkX Z) {a1 : Int32}  {R : Int32 × St}    (s : St) (hF : F_X1_hasMill (zg Z) a1  s = some R) : AW Z l iX1_hasMill (Pq (rI R)) 0 0 0 [(0, .ref (za Z 4 0)), (1, .int a1)] [] s := by
  unfold F_X1_hasMill at hF
  refine a_iload_n dX1_hasMill_0 1 rfl rfl ?_
  refine a_iconst (v := (0 : Int32)) dX1_hasMill_1 (by decide) ?_
  refine a_aload_n dX1_hasMill_2 0 rfl rfl ?_
  refine a_getI hZ.1 (s 4 0 12) (hZ.2 4 0 (by decide) Nat.one_pos) fl_X1_53 rfl rfl dX1_hasMill_3 ?_
  refine a_iconst (v := (1 : Int32)) dX1_hasMill_6 (by decide) ?_
  refine a_isub dX1_hasMill_7 ?_
  obtain ⟨r8, s8, e8, hF⟩ := bd_some hF
  refine a_invN hZ.1 (As := [.int a1, .int (0 : Int32), .int ((s 4 0 12) - (1 : Int32))]) (rest := []) lk_X1_59 ⟨⟨by decide, by decide⟩, by decide, by decide⟩ rfl (Nat.le_of_ble_eq_true rfl) dX1_hasMill_8 (m_X10_within hZ  e8) ?_
  show AW Z l iX1_hasMill (Pq (rI R)) 0 0 11 [(0, .ref (za Z 4 0)), (1, .int a1)] [.int r8] s8
  obtain ⟨p1, hF⟩ := gd_some hF
  replace hF := Option.some.inj hF
  subst hF
  exact a_zret rfl (isb_n p1) (Nat.zero_le _) (Nat.zero_le _) dX1_hasMill_11 ⟨rfl, rfl⟩
theorem m_X1_hasMill {Z : ZE} {l : Launch} (hZ : OkX Z) {a1 : Int32}  {s : St} {R : Int32 × St} (hF : F_X1_hasMill (zg Z) a1 s = some R) : Sp Z l yX1_hasMill iX1_hasMill [.ref (za Z 4 0), .int a1] s (rI R) :=
  Sp.of (by decide) rfl (Nat.le_of_ble_eq_true rfl) (w_X1_hasMill hZ  s hF)
-- X1_sortRun
set_option maxRecDepth 100000 in
set_option maxHeartbeats 4000000 in
theorem w_X1_sortRun {Z : ZE} {l : Launch} (hZ : OkX Z) {a1 : Int32} {a2 : Int32}  {R : Int32 × St}    (s : St) (hF : F_X1_sortRun (zg Z) a1 a2  s = some R) : AW Z l iX1_sortRun (Pq (rI R)) 0 0 0 [(0, .ref (za Z 4 0)), (1, .int a1), (2, .int a2)] [] s := by
  unfold F_X1_sortRun at hF
  refine a_aload_n dX1_sortRun_0 0 rfl rfl ?_
  refine a_iload_n dX1_sortRun_1 1 rfl rfl ?_
  obtain ⟨r2, s2, e2, hF⟩ := bd_some hF
  refine a_invV hZ.1 (As := [.int a1]) (rest := []) (hZ.2 4 0 (by decide) Nat.one_pos) lk_X1_63 ⟨⟨by decide, by decide⟩, by decide, by decide⟩ rfl (Nat.le_of_ble_eq_true rfl) dX1_sortRun_2 (m_X1_hasMill hZ  e2) ?_
  show AW Z l iX1_sortRun (Pq (rI R)) 0 0 5 [(0, .ref (za Z 4 0)), (1, .int a1), (2, .int a2)] [.int r2] s2
  refine a_if_eq 29 dX1_sortRun_5 (by decide) (fun q1 => ?_) (fun q1 => ?_)
  · replace hF := (if_pos q1).symm.trans hF
    refine a_ldc (v := (-1000000)) kw_511 dX1_sortRun_29 ?_
    replace hF := Option.some.inj hF
    subst hF
    exact a_iret rfl (Nat.zero_le _) (Nat.zero_le _) dX1_sortRun_31 ⟨rfl, rfl⟩
  · replace hF := (if_neg q1).symm.trans hF
    refine a_iload_n dX1_sortRun_8 2 rfl rfl ?_
    obtain ⟨r9, s9, e9, hF⟩ := bd_some hF
    refine a_invN hZ.1 (As := [.int a2]) (rest := []) lk_X1_67 ⟨⟨by decide, by decide⟩, by decide, by decide⟩ rfl (Nat.le_of_ble_eq_true rfl) dX1_sortRun_9 (m_X10_isWeek hZ  e9) ?_
    show AW Z l iX1_sortRun (Pq (rI R)) 0 0 12 [(0, .ref (za Z 4 0)), (1, .int a1), (2, .int a2)] [.int r9] s9
    refine a_if_eq 29 dX1_sortRun_12 (by decide) (fun q2 => ?_) (fun q2 => ?_)
    · replace hF := (if_pos q2).symm.trans hF
      refine a_ldc (v := (-1000000)) kw_511 dX1_sortRun_29 ?_
      replace hF := Option.some.inj hF
      subst hF
      exact a_iret rfl (Nat.zero_le _) (Nat.zero_le _) dX1_sortRun_31 ⟨rfl, rfl⟩
    · replace hF := (if_neg q2).symm.trans hF
      refine a_aload_n dX1_sortRun_15 0 rfl rfl ?_
      refine a_getR hZ.1 (hZ.2 4 0 (by decide) Nat.one_pos) fl_X1_42 rfl 0 rfl dX1_sortRun_16 ?_
      refine a_iload_n dX1_sortRun_19 1 rfl rfl ?_
      obtain ⟨p3, hF⟩ := gd_some hF
      obtain ⟨p4, hF⟩ := gd_some hF
      refine a_aald hZ.1 (hZ.2 13 0 (by decide) Nat.one_pos) rfl rfl rfl rfl (inb_vp p3) (ltb_lt p4) dX1_sortRun_20 ?_
      refine a_getR hZ.1 (hZ.2 14 a1.toNatClampNeg (by decide) (ltb_lt p4)) fl_X1_70 rfl a1.toNatClampNeg rfl dX1_sortRun_21 ?_
      refine a_iload_n dX1_sortRun_24 2 rfl rfl ?_
      obtain ⟨p5, hF⟩ := gd_some hF
      refine a_iald hZ.1 (s9 16 a1.toNatClampNeg a2.toNatClampNeg) (hZ.2 16 a1.toNatClampNeg (by decide) (ltb_lt p4)) rfl rfl (inb_vp p5) rfl dX1_sortRun_25 ?_
      refine a_goto 31 dX1_sortRun_26 (by decide) ?_
      replace hF := Option.some.inj hF
      subst hF
      exact a_iret rfl (Nat.zero_le _) (Nat.zero_le _) dX1_sortRun_31 ⟨rfl, rfl⟩
theorem m_X1_sortRun {Z : ZE} {l : Launch} (hZ : OkX Z) {a1 : Int32} {a2 : Int32}  {s : St} {R : Int32 × St} (hF : F_X1_sortRun (zg Z) a1 a2 s = some R) : Sp Z l yX1_sortRun iX1_sortRun [.ref (za Z 4 0), .int a1, .int a2] s (rI R) :=
  Sp.of (by decide) rfl (Nat.le_of_ble_eq_true rfl) (w_X1_sortRun hZ  s hF)
-- X3_beRelieved
set_option maxRecDepth 100000 in
set_option maxHeartbeats 4000000 in
theorem w_X3_beRelieved_36 {Z : ZE} {l : Launch} (hZ : OkX Z) {k0 : Nat} {a1 : Int32} {a2 : Int32} {t3 : Nat} {k3 : Nat} {a4 : Int32} (h0 : k0 < shN (zg Z) 26) (hx3 : zx Z t3 k3) (ho3 : shO t3 = none) (ha3 : shA t3 = some (lna t3)) {R : Unit × St}  (v5 : Int32)  (s : St) (hF : F_X3_beRelieved_36 (zg Z) k0 a1 a2 t3 k3 a4 v5 s = some R) : AW Z l iX3_beRelieved (Pq (rU R)) 0 0 36 [(0, .ref (za Z 26 k0)), (1, .int a1), (2, .int a2), (5, .int v5)] [] s := by
  unfold F_X3_beRelieved_36 at hF
  refine a_iload dX3_beRelieved_36 3 rfl ?_
  refine a_iload_n dX3_beRelieved_38 2 rfl rfl ?_
  refine a_icmp_gt 72 dX3_beRelieved_39 (by decide) (fun q1 => ?_) (fun q1 => ?_)
  · replace hF := (if_pos q1).symm.trans hF
    replace hF := Option.some.inj hF
    subst hF
    exact a_vret rfl (Nat.zero_le _) (Nat.zero_le _) dX3_beRelieved_72 ⟨rfl, rfl⟩
  · replace hF := (if_neg q1).symm.trans hF
    refine a_aload_n dX3_beRelieved_42 0 rfl rfl ?_
    refine a_dup dX3_beRelieved_43 rfl ?_
    refine a_getI hZ.1 (s 26 k0 5) (hZ.2 26 k0 (by decide) h0) fl_X3_25 rfl rfl dX3_beRelieved_44 ?_
    refine a_iload_n dX3_beRelieved_47 1 rfl rfl ?_
    refine a_aload_n dX3_beRelieved_48 0 rfl rfl ?_
    refine a_getI hZ.1 (s 26 k0 1) (hZ.2 26 k0 (by decide) h0) fl_X3_19 rfl rfl dX3_beRelieved_49 ?_
    refine a_imul dX3_beRelieved_52 ?_
    refine a_iadd dX3_beRelieved_53 ?_
    refine a_put hZ.1 (hZ.2 26 k0 (by decide) h0) fl_X3_25 rfl rfl rfl dX3_beRelieved_54 ?_
    refine a_aload_n dX3_beRelieved_57 0 rfl rfl ?_
    refine a_dup dX3_beRelieved_58 rfl ?_
    refine a_getI hZ.1 (s 26 k0 7) (hZ.2 26 k0 (by decide) h0) fl_X3_37 rfl (by simp [up]) dX3_beRelieved_59 ?_
    refine a_iload_n dX3_beRelieved_62 1 rfl rfl ?_
    refine a_aload_n dX3_beRelieved_63 0 rfl rfl ?_
    refine a_getI hZ.1 (s 26 k0 1) (hZ.2 26 k0 (by decide) h0) fl_X3_19 rfl (by simp [up]) dX3_beRelieved_64 ?_
    refine a_imul dX3_beRelieved_67 ?_
    refine a_iadd dX3_beRelieved_68 ?_
    refine a_put hZ.1 (hZ.2 26 k0 (by decide) h0) fl_X3_37 rfl rfl rfl dX3_beRelieved_69 ?_
    replace hF := Option.some.inj hF
    subst hF
    exact a_vret rfl (Nat.zero_le _) (Nat.zero_le _) dX3_beRelieved_72 ⟨rfl, rfl⟩
set_option maxRecDepth 100000 in
set_option maxHeartbeats 4000000 in
theorem w_X3_beRelieved_9 {Z : ZE} {l : Launch} (hZ : OkX Z) {k0 : Nat} {a1 : Int32} {a2 : Int32} {t3 : Nat} {k3 : Nat} {a4 : Int32} (h0 : k0 < shN (zg Z) 26) (hx3 : zx Z t3 k3) (ho3 : shO t3 = none) (ha3 : shA t3 = some (lna t3)) {R : Unit × St} (h36_ : Int32 → St → Option (Unit × St)) (w36_ : ∀ (v5 : Int32)  (s : St), h36_ v5 s = some R → AW Z l iX3_beRelieved (Pq (rU R)) 0 0 36 [(0, .ref (za Z 26 k0)), (1, .int a1), (2, .int a2), (5, .int v5)] [] s) : ∀ (n_ : Nat) (v5 : Int32) (v6 : Int32)  (s : St), F_X3_beRelieved_9 (zg Z) k0 a1 a2 t3 k3 a4 h36_ n_ v5 v6 s = some R → AW Z l iX3_beRelieved (Pq (rU R)) 0 0 9 [(0, .ref (za Z 26 k0)), (1, .int a1), (2, .int a2), (3, .ref (za Z t3 k3)), (4, .int a4), (5, .int v5), (6, .int v6)] [] s := by
  intro n_
  induction n_ with
  | zero =>
    intro v5 v6 s hF
    exact absurd hF (by rw [F_X3_beRelieved_9]; exact fun q => by cases q)
  | succ n_ w9_ =>
    intro v5 v6 s hF
    rw [F_X3_beRelieved_9] at hF
    refine a_iload dX3_beRelieved_9 6 rfl ?_
    refine a_iload dX3_beRelieved_11 4 rfl ?_
    refine a_icmp_ge 36 dX3_beRelieved_13 (by decide) (fun q1 => ?_) (fun q1 => ?_)
    · replace hF := (if_pos q1).symm.trans hF
      refine a_loc [(0, .ref (za Z 26 k0)), (1, .int a1), (2, .int a2), (5, .int v5)] [0, 1, 2, 5] rfl ?_
      exact w36_ v5  _ hF
    · replace hF := (if_neg q1).symm.trans hF
      refine a_iload dX3_beRelieved_16 5 rfl ?_
      refine a_aload_n dX3_beRelieved_18 0 rfl rfl ?_
      refine a_getR hZ.1 (hZ.2 26 k0 (by decide) h0) fl_X3_9 rfl k0 rfl dX3_beRelieved_19 ?_
      refine a_aload_n dX3_beRelieved_22 3 rfl rfl ?_
      refine a_iload dX3_beRelieved_23 6 rfl ?_
      obtain ⟨p2, hF⟩ := gd_some hF
      refine a_iald hZ.1 (s t3 k3 v6.toNatClampNeg) hx3 ho3 ha3 (inb_vp p2) rfl dX3_beRelieved_25 ?_
      obtain ⟨p3, hF⟩ := gd_some hF
      refine a_iald hZ.1 (s 27 k0 (s t3 k3 v6.toNatClampNeg).toNatClampNeg) (hZ.2 27 k0 (by decide) h0) rfl rfl (inb_vp p3) rfl dX3_beRelieved_26 ?_
      refine a_iadd dX3_beRelieved_27 ?_
      refine a_istore [(5, .int (v5 + (s 27 k0 (s t3 k3 v6.toNatClampNeg).toNatClampNeg))), (0, .ref (za Z 26 k0)), (1, .int a1), (2, .int a2), (3, .ref (za Z t3 k3)), (4, .int a4), (6, .int v6)] dX3_beRelieved_28 (by decide) rfl ?_
      refine a_iinc [(6, .int (v6 + 1)), (5, .int (v5 + (s 27 k0 (s t3 k3 v6.toNatClampNeg).toNatClampNeg))), (0, .ref (za Z 26 k0)), (1, .int a1), (2, .int a2), (3, .ref (za Z t3 k3)), (4, .int a4)] dX3_beRelieved_30 6 rfl rfl (by decide) rfl ?_
      refine a_goto 9 dX3_beRelieved_33 (by decide) ?_
      refine a_loc [(0, .ref (za Z 26 k0)), (1, .int a1), (2, .int a2), (3, .ref (za Z t3 k3)), (4, .int a4), (5, .int (v5 + (s 27 k0 (s t3 k3 v6.toNatClampNeg).toNatClampNeg))), (6, .int (v6 + 1))] [2, 3, 4, 5, 6, 1, 0] rfl ?_
      exact w9_ (v5 + (s 27 k0 (s t3 k3 v6.toNatClampNeg).toNatClampNeg)) (v6 + 1)  _ hF
set_option maxRecDepth 100000 in
set_option maxHeartbeats 4000000 in
theorem w_X3_beRelieved {Z : ZE} {l : Launch} (hZ : OkX Z) {k0 : Nat} {a1 : Int32} {a2 : Int32} {t3 : Nat} {k3 : Nat} {a4 : Int32} (h0 : k0 < shN (zg Z) 26) (hx3 : zx Z t3 k3) (ho3 : shO t3 = none) (ha3 : shA t3 = some (lna t3)) {R : Unit × St}    (s : St) (hF : F_X3_beRelieved (zg Z) k0 a1 a2 t3 k3 a4  s = some R) : AW Z l iX3_beRelieved (Pq (rU R)) 0 0 0 [(0, .ref (za Z 26 k0)), (1, .int a1), (2, .int a2), (3, .ref (za Z t3 k3)), (4, .int a4)] [] s := by
  unfold F_X3_beRelieved at hF
  refine a_aload_n dX3_beRelieved_0 0 rfl rfl ?_
  refine a_getI hZ.1 (s 26 k0 5) (hZ.2 26 k0 (by decide) h0) fl_X3_25 rfl rfl dX3_beRelieved_1 ?_
  refine a_istore [(5, .int (s 26 k0 5)), (0, .ref (za Z 26 k0)), (1, .int a1), (2, .int a2), (3, .ref (za Z t3 k3)), (4, .int a4)] dX3_beRelieved_4 (by decide) rfl ?_
  refine a_iconst (v := (0 : Int32)) dX3_beRelieved_6 (by decide) ?_
  refine a_istore [(6, .int (0 : Int32)), (5, .int (s 26 k0 5)), (0, .ref (za Z 26 k0)), (1, .int a1), (2, .int a2), (3, .ref (za Z t3 k3)), (4, .int a4)] dX3_beRelieved_7 (by decide) rfl ?_
  refine a_loc [(0, .ref (za Z 26 k0)), (1, .int a1), (2, .int a2), (3, .ref (za Z t3 k3)), (4, .int a4), (5, .int (s 26 k0 5)), (6, .int (0 : Int32))] [2, 3, 4, 5, 6, 1, 0] rfl ?_
  exact w_X3_beRelieved_9 (l := l) hZ h0 hx3 ho3 ha3 (F_X3_beRelieved_36 (zg Z) k0 a1 a2 t3 k3 a4 ) (w_X3_beRelieved_36 (l := l) hZ h0 hx3 ho3 ha3 ) fu (s 26 k0 5) (0 : Int32)  _ hF
theorem m_X3_beRelieved {Z : ZE} {l : Launch} (hZ : OkX Z) {k0 : Nat} {a1 : Int32} {a2 : Int32} {t3 : Nat} {k3 : Nat} {a4 : Int32} (h0 : k0 < shN (zg Z) 26) (hx3 : zx Z t3 k3) (ho3 : shO t3 = none) (ha3 : shA t3 = some (lna t3)) {s : St} {R : Unit × St} (hF : F_X3_beRelieved (zg Z) k0 a1 a2 t3 k3 a4 s = some R) : Sp Z l yX3_beRelieved iX3_beRelieved [.ref (za Z 26 k0), .int a1, .int a2, .ref (za Z t3 k3), .int a4] s (rU R) :=
  Sp.of (by decide) rfl (Nat.le_of_ble_eq_true rfl) (w_X3_beRelieved hZ h0 hx3 ho3 ha3 s hF)
-- X3_hungerIfShort
set_option maxRecDepth 100000 in
set_option maxHeartbeats 4000000 in
theorem w_X3_hungerIfShort {Z : ZE} {l : Launch} (hZ : OkX Z) {k0 : Nat} (h0 : k0 < shN (zg Z) 26) {R : Unit × St}    (s : St) (hF : F_X3_hungerIfShort (zg Z) k0  s = some R) : AW Z l iX3_hungerIfShort (Pq (rU R)) 0 0 0 [(0, .ref (za Z 26 k0))] [] s := by
  unfold F_X3_hungerIfShort at hF
  refine a_aload_n dX3_hungerIfShort_0 0 rfl rfl ?_
  refine a_getI hZ.1 (s 26 k0 5) (hZ.2 26 k0 (by decide) h0) fl_X3_25 rfl rfl dX3_hungerIfShort_1 ?_
  refine a_if_ge 22 dX3_hungerIfShort_4 (by decide) (fun q1 => ?_) (fun q1 => ?_)
  · replace hF := (if_pos q1).symm.trans hF
    replace hF := Option.some.inj hF
    subst hF
    exact a_vret rfl (Nat.zero_le _) (Nat.zero_le _) dX3_hungerIfShort_22 ⟨rfl, rfl⟩
  · replace hF := (if_neg q1).symm.trans hF
    refine a_aload_n dX3_hungerIfShort_7 0 rfl rfl ?_
    refine a_iconst (v := (0 : Int32)) dX3_hungerIfShort_8 (by decide) ?_
    refine a_put hZ.1 (hZ.2 26 k0 (by decide) h0) fl_X3_25 rfl rfl rfl dX3_hungerIfShort_9 ?_
    refine a_aload_n dX3_hungerIfShort_12 0 rfl rfl ?_
    refine a_dup dX3_hungerIfShort_13 rfl ?_
    refine a_getI hZ.1 (s 26 k0 6) (hZ.2 26 k0 (by decide) h0) fl_X3_44 rfl (by simp [up]) dX3_hungerIfShort_14 ?_
    refine a_iconst (v := (1 : Int32)) dX3_hungerIfShort_17 (by decide) ?_
    refine a_iadd dX3_hungerIfShort_18 ?_
    refine a_put hZ.1 (hZ.2 26 k0 (by decide) h0) fl_X3_44 rfl rfl rfl dX3_hungerIfShort_19 ?_
    replace hF := Option.some.inj hF
    subst hF
    exact a_vret rfl (Nat.zero_le _) (Nat.zero_le _) dX3_hungerIfShort_22 ⟨rfl, rfl⟩
theorem m_X3_hungerIfShort {Z : ZE} {l : Launch} (hZ : OkX Z) {k0 : Nat} (h0 : k0 < shN (zg Z) 26) {s : St} {R : Unit × St} (hF : F_X3_hungerIfShort (zg Z) k0 s = some R) : Sp Z l yX3_hungerIfShort iX3_hungerIfShort [.ref (za Z 26 k0)] s (rU R) :=
  Sp.of (by decide) rfl (Nat.le_of_ble_eq_true rfl) (w_X3_hungerIfShort hZ h0 s hF)
-- X3_sellGoods
set_option maxRecDepth 100000 in
set_option maxHeartbeats 4000000 in
theorem w_X3_sellGoods_2 {Z : ZE} {l : Launch} (hZ : OkX Z) {k0 : Nat} {t1 : Nat} {k1 : Nat} (h0 : k0 < shN (zg Z) 26) (hx1 : zx Z t1 k1) (ho1 : shO t1 = none) (ha1 : shA t1 = some (lna t1)) {R : Unit × St}  : ∀ (n_ : Nat) (v2 : Int32)  (s : St), F_X3_sellGoods_2 (zg Z) k0 t1 k1 n_ v2 s = some R → AW Z l iX3_sellGoods (Pq (rU R)) 0 0 2 [(0, .ref (za Z 26 k0)), (1, .ref (za Z t1 k1)), (2, .int v2)] [] s := by
  intro n_
  induction n_ with
  | zero =>
    intro v2 s hF
    exact absurd hF (by rw [F_X3_sellGoods_2]; exact fun q => by cases q)
  | succ n_ w2_ =>
    intro v2 s hF
    rw [F_X3_sellGoods_2] at hF
    refine a_iload_n dX3_sellGoods_2 2 rfl rfl ?_
    refine a_iconst (v := (4 : Int32)) dX3_sellGoods_3 (by decide) ?_
    refine a_icmp_ge 40 dX3_sellGoods_4 (by decide) (fun q1 => ?_) (fun q1 => ?_)
    · replace hF := (if_pos q1).symm.trans hF
      replace hF := Option.some.inj hF
      subst hF
      exact a_vret rfl (Nat.zero_le _) (Nat.zero_le _) dX3_sellGoods_40 ⟨rfl, rfl⟩
    · replace hF := (if_neg q1).symm.trans hF
      refine a_aload_n dX3_sellGoods_7 0 rfl rfl ?_
      refine a_getI hZ.1 (s 26 k0 5) (hZ.2 26 k0 (by decide) h0) fl_X3_25 rfl rfl dX3_sellGoods_8 ?_
      refine a_if_ge 40 dX3_sellGoods_11 (by decide) (fun q2 => ?_) (fun q2 => ?_)
      · replace hF := (if_pos q2).symm.trans hF
        replace hF := Option.some.inj hF
        subst hF
        exact a_vret rfl (Nat.zero_le _) (Nat.zero_le _) dX3_sellGoods_40 ⟨rfl, rfl⟩
      · replace hF := (if_neg q2).symm.trans hF
        refine a_aload_n dX3_sellGoods_14 0 rfl rfl ?_
        refine a_dup dX3_sellGoods_15 rfl ?_
        refine a_getI hZ.1 (s 26 k0 5) (hZ.2 26 k0 (by decide) h0) fl_X3_25 rfl rfl dX3_sellGoods_16 ?_
        refine a_aload_n dX3_sellGoods_19 0 rfl rfl ?_
        refine a_getR hZ.1 (hZ.2 26 k0 (by decide) h0) fl_X3_9 rfl k0 rfl dX3_sellGoods_20 ?_
        refine a_aload_n dX3_sellGoods_23 1 rfl rfl ?_
        refine a_iload_n dX3_sellGoods_24 2 rfl rfl ?_
        obtain ⟨p3, hF⟩ := gd_some hF
        refine a_iald hZ.1 (s t1 k1 v2.toNatClampNeg) hx1 ho1 ha1 (inb_vp p3) rfl dX3_sellGoods_25 ?_
        refine a_iconst (v := (0 : Int32)) dX3_sellGoods_26 (by decide) ?_
        obtain ⟨r27, s27, e27, hF⟩ := bd_some hF
        refine a_invN hZ.1 (As := [.ref (za Z 27 k0), .int (s t1 k1 v2.toNatClampNeg), .int (0 : Int32)]) (rest := [.int (s 26 k0 5), .ref (za Z 26 k0)]) lk_X3_40 ⟨⟨by decide, by decide⟩, by decide, by decide⟩ rfl (Nat.le_of_ble_eq_true rfl) dX3_sellGoods_27 (m_X10_changed hZ (hZ.2 27 k0 (by decide) h0) rfl rfl e27) ?_
        show AW Z l iX3_sellGoods (Pq (rU R)) 0 0 30 [(0, .ref (za Z 26 k0)), (1, .ref (za Z t1 k1)), (2, .int v2)] [.int r27, .int (s 26 k0 5), .ref (za Z 26 k0)] s27
        refine a_iadd dX3_sellGoods_30 ?_
        refine a_put hZ.1 (hZ.2 26 k0 (by decide) h0) fl_X3_25 rfl rfl rfl dX3_sellGoods_31 ?_
        refine a_iinc [(2, .int (v2 + 1)), (0, .ref (za Z 26 k0)), (1, .ref (za Z t1 k1))] dX3_sellGoods_34 2 rfl rfl (by decide) rfl ?_
        refine a_goto 2 dX3_sellGoods_37 (by decide) ?_
        refine a_loc [(0, .ref (za Z 26 k0)), (1, .ref (za Z t1 k1)), (2, .int (v2 + 1))] [1, 2, 0] rfl ?_
        exact w2_ (v2 + 1)  _ hF
set_option maxRecDepth 100000 in
set_option maxHeartbeats 4000000 in
theorem w_X3_sellGoods {Z : ZE} {l : Launch} (hZ : OkX Z) {k0 : Nat} {t1 : Nat} {k1 : Nat} (h0 : k0 < shN (zg Z) 26) (hx1 : zx Z t1 k1) (ho1 : shO t1 = none) (ha1 : shA t1 = some (lna t1)) {R : Unit × St}    (s : St) (hF : F_X3_sellGoods (zg Z) k0 t1 k1  s = some R) : AW Z l iX3_sellGoods (Pq (rU R)) 0 0 0 [(0, .ref (za Z 26 k0)), (1, .ref (za Z t1 k1))] [] s := by
  unfold F_X3_sellGoods at hF
  refine a_iconst (v := (0 : Int32)) dX3_sellGoods_0 (by decide) ?_
  refine a_istore_n [(2, .int (0 : Int32)), (0, .ref (za Z 26 k0)), (1, .ref (za Z t1 k1))] dX3_sellGoods_1 rfl (by decide) rfl ?_
  refine a_loc [(0, .ref (za Z 26 k0)), (1, .ref (za Z t1 k1)), (2, .int (0 : Int32))] [1, 2, 0] rfl ?_
  exact w_X3_sellGoods_2 (l := l) hZ h0 hx1 ho1 ha1  fu (0 : Int32)  _ hF
theorem m_X3_sellGoods {Z : ZE} {l : Launch} (hZ : OkX Z) {k0 : Nat} {t1 : Nat} {k1 : Nat} (h0 : k0 < shN (zg Z) 26) (hx1 : zx Z t1 k1) (ho1 : shO t1 = none) (ha1 : shA t1 = some (lna t1)) {s : St} {R : Unit × St} (hF : F_X3_sellGoods (zg Z) k0 t1 k1 s = some R) : Sp Z l yX3_sellGoods iX3_sellGoods [.ref (za Z 26 k0), .ref (za Z t1 k1)] s (rU R) :=
  Sp.of (by decide) rfl (Nat.le_of_ble_eq_true rfl) (w_X3_sellGoods hZ h0 hx1 ho1 ha1 s hF)
-- X3_spend
set_option maxRecDepth 100000 in
set_option maxHeartbeats 4000000 in
theorem w_X3_spend {Z : ZE} {l : Launch} (hZ : OkX Z) {k0 : Nat} {a1 : Int32} (h0 : k0 < shN (zg Z) 26) {R : Unit × St}    (s : St) (hF : F_X3_spend (zg Z) k0 a1  s = some R) : AW Z l iX3_spend (Pq (rU R)) 0 0 0 [(0, .ref (za Z 26 k0)), (1, .int a1)] [] s := by
  unfold F_X3_spend at hF
  refine a_aload_n dX3_spend_0 0 rfl rfl ?_
  refine a_dup dX3_spend_1 rfl ?_
  refine a_getI hZ.1 (s 26 k0 5) (hZ.2 26 k0 (by decide) h0) fl_X3_25 rfl rfl dX3_spend_2 ?_
  refine a_aload_n dX3_spend_5 0 rfl rfl ?_
  refine a_getI hZ.1 (s 26 k0 1) (hZ.2 26 k0 (by decide) h0) fl_X3_19 rfl rfl dX3_spend_6 ?_
  refine a_iload_n dX3_spend_9 1 rfl rfl ?_
  refine a_imul dX3_spend_10 ?_
  refine a_aload_n dX3_spend_11 0 rfl rfl ?_
  refine a_getI hZ.1 (s 26 k0 3) (hZ.2 26 k0 (by decide) h0) fl_X3_28 rfl rfl dX3_spend_12 ?_
  refine a_iadd dX3_spend_15 ?_
  refine a_isub dX3_spend_16 ?_
  refine a_put hZ.1 (hZ.2 26 k0 (by decide) h0) fl_X3_25 rfl rfl rfl dX3_spend_17 ?_
  replace hF := Option.some.inj hF
  subst hF
  exact a_vret rfl (Nat.zero_le _) (Nat.zero_le _) dX3_spend_20 ⟨rfl, rfl⟩
theorem m_X3_spend {Z : ZE} {l : Launch} (hZ : OkX Z) {k0 : Nat} {a1 : Int32} (h0 : k0 < shN (zg Z) 26) {s : St} {R : Unit × St} (hF : F_X3_spend (zg Z) k0 a1 s = some R) : Sp Z l yX3_spend iX3_spend [.ref (za Z 26 k0), .int a1] s (rU R) :=
  Sp.of (by decide) rfl (Nat.le_of_ble_eq_true rfl) (w_X3_spend hZ h0 s hF)
-- X10_liveHomes
set_option maxRecDepth 100000 in
set_option maxHeartbeats 4000000 in
theorem w_X10_liveHomes_148 {Z : ZE} {l : Launch} (hZ : OkX Z)   {R : Unit × St} (h53_ : Int32 → Int32 → Int32 → Int32 → Int32 → Int32 → St → Option (Unit × St)) (w53_ : ∀ (v1 : Int32) (v2 : Int32) (v3 : Int32) (v4 : Int32) (v5 : Int32) (v6 : Int32)  (s : St), h53_ v1 v2 v3 v4 v5 v6 s = some R → AW Z l iX10_liveHomes (Pq (rU R)) 0 0 53 [(0, .ref (za Z 0 0)), (1, .int v1), (2, .int v2), (3, .int v3), (4, .int v4), (5, .int v5), (6, .int v6)] [] s) (v1 : Int32) (v2 : Int32) (v3 : Int32) (v4 : Int32) (v5 : Int32) (v6 : Int32) (k7 : Nat) (h7 : k7 < shN (zg Z) 26) (s : St) (hF : F_X10_liveHomes_148 (zg Z)  h53_ v1 v2 v3 v4 v5 v6 k7 s = some R) : AW Z l iX10_liveHomes (Pq (rU R)) 0 0 148 [(0, .ref (za Z 0 0)), (1, .int v1), (2, .int v2), (3, .int v3), (4, .int v4), (5, .int v5), (6, .int v6), (7, .ref (za Z 26 k7))] [] s := by
  unfold F_X10_liveHomes_148 at hF
  refine a_aload dX10_liveHomes_148 7 rfl ?_
  refine a_aload_n dX10_liveHomes_150 0 rfl rfl ?_
  refine a_getR hZ.1 (hZ.2 0 0 (by decide) Nat.one_pos) fl_X10_25 rfl 0 rfl dX10_liveHomes_151 ?_
  refine a_getR hZ.1 (hZ.2 17 0 (by decide) Nat.one_pos) fl_X10_230 rfl 0 rfl dX10_liveHomes_154 ?_
  obtain ⟨r157, s157, e157, hF⟩ := bd_some hF
  refine a_invV hZ.1 (As := [.ref (za Z 21 0)]) (rest := []) (hZ.2 26 k7 (by decide) h7) lk_X10_349 ⟨⟨by decide, by decide⟩, by decide, by decide⟩ rfl (Nat.le_of_ble_eq_true rfl) dX10_liveHomes_157 (m_X3_sellGoods hZ h7 (hZ.2 21 0 (by decide) Nat.one_pos) rfl rfl e157) ?_
  show AW Z l iX10_liveHomes (Pq (rU R)) 0 0 160 [(0, .ref (za Z 0 0)), (1, .int v1), (2, .int v2), (3, .int v3), (4, .int v4), (5, .int v5), (6, .int v6), (7, .ref (za Z 26 k7))] [] s157
  refine a_aload dX10_liveHomes_160 7 rfl ?_
  obtain ⟨r162, s162, e162, hF⟩ := bd_some hF
  refine a_invV hZ.1 (As := []) (rest := []) (hZ.2 26 k7 (by decide) h7) lk_X10_353 ⟨⟨by decide, by decide⟩, by decide, by decide⟩ rfl (Nat.le_of_ble_eq_true rfl) dX10_liveHomes_162 (m_X3_hungerIfShort hZ h7 e162) ?_
  show AW Z l iX10_liveHomes (Pq (rU R)) 0 0 165 [(0, .ref (za Z 0 0)), (1, .int v1), (2, .int v2), (3, .int v3), (4, .int v4), (5, .int v5), (6, .int v6), (7, .ref (za Z 26 k7))] [] s162
  refine a_iinc [(6, .int (v6 + 1)), (0, .ref (za Z 0 0)), (1, .int v1), (2, .int v2), (3, .int v3), (4, .int v4), (5, .int v5), (7, .ref (za Z 26 k7))] dX10_liveHomes_165 6 rfl rfl (by decide) rfl ?_
  refine a_goto 53 dX10_liveHomes_168 (by decide) ?_
  refine a_loc [(0, .ref (za Z 0 0)), (1, .int v1), (2, .int v2), (3, .int v3), (4, .int v4), (5, .int v5), (6, .int (v6 + 1))] [1, 2, 3, 4, 5, 6, 0] rfl ?_
  exact w53_ v1 v2 v3 v4 v5 (v6 + 1)  _ hF
set_option maxRecDepth 100000 in
set_option maxHeartbeats 4000000 in
theorem w_X10_liveHomes_53 {Z : ZE} {l : Launch} (hZ : OkX Z)   {R : Unit × St}  : ∀ (n_ : Nat) (v1 : Int32) (v2 : Int32) (v3 : Int32) (v4 : Int32) (v5 : Int32) (v6 : Int32)  (s : St), F_X10_liveHomes_53 (zg Z)  n_ v1 v2 v3 v4 v5 v6 s = some R → AW Z l iX10_liveHomes (Pq (rU R)) 0 0 53 [(0, .ref (za Z 0 0)), (1, .int v1), (2, .int v2), (3, .int v3), (4, .int v4), (5, .int v5), (6, .int v6)] [] s := by
  intro n_
  induction n_ with
  | zero =>
    intro v1 v2 v3 v4 v5 v6 s hF
    exact absurd hF (by rw [F_X10_liveHomes_53]; exact fun q => by cases q)
  | succ n_ w53_ =>
    intro v1 v2 v3 v4 v5 v6 s hF
    rw [F_X10_liveHomes_53] at hF
    refine a_iload dX10_liveHomes_53 6 rfl ?_
    refine a_aload_n dX10_liveHomes_55 0 rfl rfl ?_
    refine a_getI hZ.1 (s 0 0 9) (hZ.2 0 0 (by decide) Nat.one_pos) fl_X10_233 rfl rfl dX10_liveHomes_56 ?_
    refine a_icmp_ge 171 dX10_liveHomes_59 (by decide) (fun q1 => ?_) (fun q1 => ?_)
    · replace hF := (if_pos q1).symm.trans hF
      replace hF := Option.some.inj hF
      subst hF
      exact a_vret rfl (Nat.zero_le _) (Nat.zero_le _) dX10_liveHomes_171 ⟨rfl, rfl⟩
    · replace hF := (if_neg q1).symm.trans hF
      refine a_aload_n dX10_liveHomes_62 0 rfl rfl ?_
      refine a_getR hZ.1 (hZ.2 0 0 (by decide) Nat.one_pos) fl_X10_38 rfl 0 rfl dX10_liveHomes_63 ?_
      refine a_iload dX10_liveHomes_66 6 rfl ?_
      obtain ⟨p2, hF⟩ := gd_some hF
      obtain ⟨p3, hF⟩ := gd_some hF
      refine a_aald hZ.1 (hZ.2 25 0 (by decide) Nat.one_pos) rfl rfl rfl rfl (inb_vp p2) (ltb_lt p3) dX10_liveHomes_68 ?_
      refine a_astore [(7, .ref (za Z 26 v6.toNatClampNeg)), (0, .ref (za Z 0 0)), (1, .int v1), (2, .int v2), (3, .int v3), (4, .int v4), (5, .int v5), (6, .int v6)] dX10_liveHomes_69 (by decide) rfl ?_
      refine a_aload_n dX10_liveHomes_71 1 rfl rfl ?_
      refine a_getR hZ.1 (hZ.2 0 0 (by decide) Nat.one_pos) fl_X10_18 rfl 0 rfl dX10_liveHomes_72 ?_
      refine a_aload dX10_liveHomes_75 0 rfl ?_
      refine a_getI hZ.1 (s 26 v6.toNatClampNeg 0) (hZ.2 26 v6.toNatClampNeg (by decide) (ltb_lt p3)) fl_X10_332 rfl rfl dX10_liveHomes_77 ?_
      refine a_iload_n dX10_liveHomes_80 2 rfl rfl ?_
      obtain ⟨r81, s81, e81, hF⟩ := bd_some hF
      refine a_invV hZ.1 (As := [.int (s 26 v6.toNatClampNeg 0), .int v1]) (rest := []) (hZ.2 4 0 (by decide) Nat.one_pos) lk_X10_184 ⟨⟨by decide, by decide⟩, by decide, by decide⟩ rfl (Nat.le_of_ble_eq_true rfl) dX10_liveHomes_81 (m_X1_sortRun hZ  e81) ?_
      show AW Z l iX10_liveHomes (Pq (rU R)) 0 0 84 [(7, .ref (za Z 26 v6.toNatClampNeg)), (0, .ref (za Z 0 0)), (1, .int v1), (2, .int v2), (3, .int v3), (4, .int v4), (5, .int v5), (6, .int v6)] [.int r81] s81
      refine a_istore [(8, .int r81), (7, .ref (za Z 26 v6.toNatClampNeg)), (0, .ref (za Z 0 0)), (1, .int v1), (2, .int v2), (3, .int v3), (4, .int v4), (5, .int v5), (6, .int v6)] dX10_liveHomes_84 (by decide) rfl ?_
      refine a_iload dX10_liveHomes_86 0 rfl ?_
      refine a_ldc (v := (-1000000)) kw_553 dX10_liveHomes_88 ?_
      refine a_icmp_ne 119 dX10_liveHomes_90 (by decide) (fun q4 => ?_) (fun q4 => ?_)
      · replace hF := (if_neg q4).symm.trans hF
        refine a_aload dX10_liveHomes_119 1 rfl ?_
        refine a_dup dX10_liveHomes_121 rfl ?_
        refine a_getI hZ.1 (s81 26 v6.toNatClampNeg 5) (hZ.2 26 v6.toNatClampNeg (by decide) (ltb_lt p3)) fl_X10_343 rfl rfl dX10_liveHomes_122 ?_
        refine a_aload dX10_liveHomes_125 1 rfl ?_
        refine a_getI hZ.1 (s81 26 v6.toNatClampNeg 2) (hZ.2 26 v6.toNatClampNeg (by decide) (ltb_lt p3)) fl_X10_346 rfl rfl dX10_liveHomes_127 ?_
        refine a_aload_n dX10_liveHomes_130 2 rfl rfl ?_
        refine a_iload dX10_liveHomes_131 0 rfl ?_
        refine a_iload_n dX10_liveHomes_133 3 rfl rfl ?_
        obtain ⟨r134, s134, e134, hF⟩ := bd_some hF
        refine a_invV hZ.1 (As := [.int r81, .int v1]) (rest := [.int (s81 26 v6.toNatClampNeg 2), .int (s81 26 v6.toNatClampNeg 5), .ref (za Z 26 v6.toNatClampNeg)]) (hZ.2 0 0 (by decide) Nat.one_pos) lk_X10_218 ⟨⟨by decide, by decide⟩, by decide, by decide⟩ rfl (Nat.le_of_ble_eq_true rfl) dX10_liveHomes_134 (m_X10_earned hZ  e134) ?_
        show AW Z l iX10_liveHomes (Pq (rU R)) 0 0 137 [(8, .int r81), (7, .ref (za Z 26 v6.toNatClampNeg)), (0, .ref (za Z 0 0)), (1, .int v1), (2, .int v2), (3, .int v3), (4, .int v4), (5, .int v5), (6, .int v6)] [.int r134, .int (s81 26 v6.toNatClampNeg 2), .int (s81 26 v6.toNatClampNeg 5), .ref (za Z 26 v6.toNatClampNeg)] s134
        refine a_imul dX10_liveHomes_137 ?_
        refine a_iadd dX10_liveHomes_138 ?_
        refine a_put hZ.1 (hZ.2 26 v6.toNatClampNeg (by decide) (ltb_lt p3)) fl_X10_343 rfl rfl rfl dX10_liveHomes_139 ?_
        refine a_aload dX10_liveHomes_142 1 rfl ?_
        refine a_iload_n dX10_liveHomes_144 4 rfl rfl ?_
        obtain ⟨r145, s145, e145, hF⟩ := bd_some hF
        refine a_invV hZ.1 (As := [.int v2]) (rest := []) (hZ.2 26 v6.toNatClampNeg (by decide) (ltb_lt p3)) lk_X10_335 ⟨⟨by decide, by decide⟩, by decide, by decide⟩ rfl (Nat.le_of_ble_eq_true rfl) dX10_liveHomes_145 (m_X3_spend hZ (ltb_lt p3) e145) ?_
        show AW Z l iX10_liveHomes (Pq (rU R)) 0 0 148 [(8, .int r81), (7, .ref (za Z 26 v6.toNatClampNeg)), (0, .ref (za Z 0 0)), (1, .int v1), (2, .int v2), (3, .int v3), (4, .int v4), (5, .int v5), (6, .int v6)] [] s145
        refine a_loc [(0, .ref (za Z 0 0)), (1, .int v1), (2, .int v2), (3, .int v3), (4, .int v4), (5, .int v5), (6, .int v6), (7, .ref (za Z 26 v6.toNatClampNeg))] [2, 3, 4, 5, 6, 7, 8, 1] rfl ?_
        exact w_X10_liveHomes_148 (l := l) hZ  (F_X10_liveHomes_53 (zg Z)  n_) w53_ v1 v2 v3 v4 v5 v6 v6.toNatClampNeg (ltb_lt p3) _ hF
      · replace hF := (if_pos q4).symm.trans hF
        refine a_aload dX10_liveHomes_93 1 rfl ?_
        refine a_iload_n dX10_liveHomes_95 4 rfl rfl ?_
        obtain ⟨r96, s96, e96, hF⟩ := bd_some hF
        refine a_invV hZ.1 (As := [.int v2]) (rest := []) (hZ.2 26 v6.toNatClampNeg (by decide) (ltb_lt p3)) lk_X10_335 ⟨⟨by decide, by decide⟩, by decide, by decide⟩ rfl (Nat.le_of_ble_eq_true rfl) dX10_liveHomes_96 (m_X3_spend hZ (ltb_lt p3) e96) ?_
        show AW Z l iX10_liveHomes (Pq (rU R)) 0 0 99 [(8, .int r81), (7, .ref (za Z 26 v6.toNatClampNeg)), (0, .ref (za Z 0 0)), (1, .int v1), (2, .int v2), (3, .int v3), (4, .int v4), (5, .int v5), (6, .int v6)] [] s96
        refine a_aload dX10_liveHomes_99 1 rfl ?_
        refine a_iload_n dX10_liveHomes_101 5 rfl rfl ?_
        refine a_iload dX10_liveHomes_102 6 rfl ?_
        refine a_aload_n dX10_liveHomes_104 2 rfl rfl ?_
        refine a_getR hZ.1 (hZ.2 0 0 (by decide) Nat.one_pos) fl_X10_25 rfl 0 rfl dX10_liveHomes_105 ?_
        refine a_getR hZ.1 (hZ.2 17 0 (by decide) Nat.one_pos) fl_X10_230 rfl 0 rfl dX10_liveHomes_108 ?_
        refine a_iload dX10_liveHomes_111 7 rfl ?_
        obtain ⟨r113, s113, e113, hF⟩ := bd_some hF
        refine a_invV hZ.1 (As := [.int v3, .int v4, .ref (za Z 21 0), .int v5]) (rest := []) (hZ.2 26 v6.toNatClampNeg (by decide) (ltb_lt p3)) lk_X10_339 ⟨⟨by decide, by decide⟩, by decide, by decide⟩ rfl (Nat.le_of_ble_eq_true rfl) dX10_liveHomes_113 (m_X3_beRelieved hZ (ltb_lt p3) (hZ.2 21 0 (by decide) Nat.one_pos) rfl rfl e113) ?_
        show AW Z l iX10_liveHomes (Pq (rU R)) 0 0 116 [(8, .int r81), (7, .ref (za Z 26 v6.toNatClampNeg)), (0, .ref (za Z 0 0)), (1, .int v1), (2, .int v2), (3, .int v3), (4, .int v4), (5, .int v5), (6, .int v6)] [] s113
        refine a_goto 148 dX10_liveHomes_116 (by decide) ?_
        refine a_loc [(0, .ref (za Z 0 0)), (1, .int v1), (2, .int v2), (3, .int v3), (4, .int v4), (5, .int v5), (6, .int v6), (7, .ref (za Z 26 v6.toNatClampNeg))] [2, 3, 4, 5, 6, 7, 8, 1] rfl ?_
        exact w_X10_liveHomes_148 (l := l) hZ  (F_X10_liveHomes_53 (zg Z)  n_) w53_ v1 v2 v3 v4 v5 v6 v6.toNatClampNeg (ltb_lt p3) _ hF
set_option maxRecDepth 100000 in
set_option maxHeartbeats 4000000 in
theorem w_X10_liveHomes {Z : ZE} {l : Launch} (hZ : OkX Z)   {R : Unit × St}    (s : St) (hF : F_X10_liveHomes (zg Z)   s = some R) : AW Z l iX10_liveHomes (Pq (rU R)) 0 0 0 [(0, .ref (za Z 0 0))] [] s := by
  unfold F_X10_liveHomes at hF
  refine a_aload_n dX10_liveHomes_0 0 rfl rfl ?_
  refine a_getR hZ.1 (hZ.2 0 0 (by decide) Nat.one_pos) fl_X10_18 rfl 0 rfl dX10_liveHomes_1 ?_
  refine a_getI hZ.1 (s 4 0 13) (hZ.2 4 0 (by decide) Nat.one_pos) fl_X10_173 rfl rfl dX10_liveHomes_4 ?_
  refine a_istore_n [(1, .int (s 4 0 13)), (0, .ref (za Z 0 0))] dX10_liveHomes_7 rfl (by decide) rfl ?_
  refine a_aload_n dX10_liveHomes_8 1 rfl rfl ?_
  refine a_getR hZ.1 (hZ.2 0 0 (by decide) Nat.one_pos) fl_X10_25 rfl 0 rfl dX10_liveHomes_9 ?_
  refine a_iload_n dX10_liveHomes_12 0 rfl rfl ?_
  refine a_bipush (v := (6 : Int32)) dX10_liveHomes_13 (by decide) ?_
  obtain ⟨r15, s15, e15, hF⟩ := bd_some hF
  refine a_invV hZ.1 (As := [.int (s 4 0 13), .int (6 : Int32)]) (rest := []) (hZ.2 17 0 (by decide) Nat.one_pos) lk_X10_224 ⟨⟨by decide, by decide⟩, by decide, by decide⟩ rfl (Nat.le_of_ble_eq_true rfl) dX10_liveHomes_15 (m_X6_inForce hZ  e15) ?_
  show AW Z l iX10_liveHomes (Pq (rU R)) 0 0 18 [(1, .int (s 4 0 13)), (0, .ref (za Z 0 0))] [.int r15] s15
  refine a_istore_n [(2, .int r15), (1, .int (s 4 0 13)), (0, .ref (za Z 0 0))] dX10_liveHomes_18 rfl (by decide) rfl ?_
  refine a_aload_n dX10_liveHomes_19 2 rfl rfl ?_
  refine a_getR hZ.1 (hZ.2 0 0 (by decide) Nat.one_pos) fl_X10_25 rfl 0 rfl dX10_liveHomes_20 ?_
  refine a_iload_n dX10_liveHomes_23 1 rfl rfl ?_
  refine a_iconst (v := (4 : Int32)) dX10_liveHomes_24 (by decide) ?_
  obtain ⟨r25, s25, e25, hF⟩ := bd_some hF
  refine a_invV hZ.1 (As := [.int (s 4 0 13), .int (4 : Int32)]) (rest := []) (hZ.2 17 0 (by decide) Nat.one_pos) lk_X10_224 ⟨⟨by decide, by decide⟩, by decide, by decide⟩ rfl (Nat.le_of_ble_eq_true rfl) dX10_liveHomes_25 (m_X6_inForce hZ  e25) ?_
  show AW Z l iX10_liveHomes (Pq (rU R)) 0 0 28 [(2, .int r15), (1, .int (s 4 0 13)), (0, .ref (za Z 0 0))] [.int r25] s25
  refine a_istore_n [(3, .int r25), (2, .int r15), (1, .int (s 4 0 13)), (0, .ref (za Z 0 0))] dX10_liveHomes_28 rfl (by decide) rfl ?_
  refine a_aload_n dX10_liveHomes_29 3 rfl rfl ?_
  refine a_getR hZ.1 (hZ.2 0 0 (by decide) Nat.one_pos) fl_X10_25 rfl 0 rfl dX10_liveHomes_30 ?_
  refine a_iload_n dX10_liveHomes_33 2 rfl rfl ?_
  refine a_iconst (v := (5 : Int32)) dX10_liveHomes_34 (by decide) ?_
  obtain ⟨r35, s35, e35, hF⟩ := bd_some hF
  refine a_invV hZ.1 (As := [.int (s 4 0 13), .int (5 : Int32)]) (rest := []) (hZ.2 17 0 (by decide) Nat.one_pos) lk_X10_224 ⟨⟨by decide, by decide⟩, by decide, by decide⟩ rfl (Nat.le_of_ble_eq_true rfl) dX10_liveHomes_35 (m_X6_inForce hZ  e35) ?_
  show AW Z l iX10_liveHomes (Pq (rU R)) 0 0 38 [(3, .int r25), (2, .int r15), (1, .int (s 4 0 13)), (0, .ref (za Z 0 0))] [.int r35] s35
  refine a_istore [(4, .int r35), (3, .int r25), (2, .int r15), (1, .int (s 4 0 13)), (0, .ref (za Z 0 0))] dX10_liveHomes_38 (by decide) rfl ?_
  refine a_aload_n dX10_liveHomes_40 4 rfl rfl ?_
  refine a_getR hZ.1 (hZ.2 0 0 (by decide) Nat.one_pos) fl_X10_25 rfl 0 rfl dX10_liveHomes_41 ?_
  refine a_iload_n dX10_liveHomes_44 3 rfl rfl ?_
  obtain ⟨r45, s45, e45, hF⟩ := bd_some hF
  refine a_invV hZ.1 (As := [.int (s 4 0 13)]) (rest := []) (hZ.2 17 0 (by decide) Nat.one_pos) lk_X10_227 ⟨⟨by decide, by decide⟩, by decide, by decide⟩ rfl (Nat.le_of_ble_eq_true rfl) dX10_liveHomes_45 (m_X6_orderGoods hZ  e45) ?_
  show AW Z l iX10_liveHomes (Pq (rU R)) 0 0 48 [(4, .int r35), (3, .int r25), (2, .int r15), (1, .int (s 4 0 13)), (0, .ref (za Z 0 0))] [.int r45] s45
  refine a_istore [(5, .int r45), (4, .int r35), (3, .int r25), (2, .int r15), (1, .int (s 4 0 13)), (0, .ref (za Z 0 0))] dX10_liveHomes_48 (by decide) rfl ?_
  refine a_iconst (v := (0 : Int32)) dX10_liveHomes_50 (by decide) ?_
  refine a_istore [(6, .int (0 : Int32)), (5, .int r45), (4, .int r35), (3, .int r25), (2, .int r15), (1, .int (s 4 0 13)), (0, .ref (za Z 0 0))] dX10_liveHomes_51 (by decide) rfl ?_
  refine a_loc [(0, .ref (za Z 0 0)), (1, .int (s 4 0 13)), (2, .int r15), (3, .int r25), (4, .int r35), (5, .int r45), (6, .int (0 : Int32))] [6, 5, 4, 3, 2, 1, 0] rfl ?_
  exact w_X10_liveHomes_53 (l := l) hZ   fu (s 4 0 13) r15 r25 r35 r45 (0 : Int32)  _ hF
theorem m_X10_liveHomes {Z : ZE} {l : Launch} (hZ : OkX Z)   {s : St} {R : Unit × St} (hF : F_X10_liveHomes (zg Z)  s = some R) : Sp Z l yX10_liveHomes iX10_liveHomes [.ref (za Z 0 0)] s (rU R) :=
  Sp.of (by decide) rfl (Nat.le_of_ble_eq_true rfl) (w_X10_liveHomes hZ  s hF)
-- X5_print
set_option maxRecDepth 100000 in
set_option maxHeartbeats 4000000 in
theorem w_X5_print {Z : ZE} {l : Launch} (hZ : OkX Z) {a1 : Int32} {a2 : Int32} {a3 : Int32}  {R : Int32 × St}    (s : St) (hF : F_X5_print (zg Z) a1 a2 a3  s = some R) : AW Z l iX5_print (Pq (rI R)) 0 0 0 [(0, .ref (za Z 43 0)), (1, .int a1), (2, .int a2), (3, .int a3)] [] s := by
  unfold F_X5_print at hF
  refine a_aload_n dX5_print_0 0 rfl rfl ?_
  refine a_getI hZ.1 (s 43 0 3) (hZ.2 43 0 (by decide) Nat.one_pos) fl_X5_21 rfl rfl dX5_print_1 ?_
  refine a_bipush (v := (20 : Int32)) dX5_print_4 (by decide) ?_
  refine a_icmp_lt 12 dX5_print_6 (by decide) (fun q1 => ?_) (fun q1 => ?_)
  · replace hF := (if_pos q1).symm.trans hF
    refine a_aload_n dX5_print_12 0 rfl rfl ?_
    refine a_getR hZ.1 (hZ.2 43 0 (by decide) Nat.one_pos) fl_X5_9 rfl 0 rfl dX5_print_13 ?_
    refine a_aload_n dX5_print_16 0 rfl rfl ?_
    refine a_getI hZ.1 (s 43 0 3) (hZ.2 43 0 (by decide) Nat.one_pos) fl_X5_21 rfl rfl dX5_print_17 ?_
    refine a_iload_n dX5_print_20 1 rfl rfl ?_
    obtain ⟨p2, hF⟩ := gd_some hF
    refine a_iast hZ.1 (hZ.2 44 0 (by decide) Nat.one_pos) rfl rfl (inb_vp p2) dX5_print_21 ?_
    refine a_aload_n dX5_print_22 0 rfl rfl ?_
    refine a_getR hZ.1 (hZ.2 43 0 (by decide) Nat.one_pos) fl_X5_15 rfl 0 rfl dX5_print_23 ?_
    refine a_aload_n dX5_print_26 0 rfl rfl ?_
    refine a_getI hZ.1 (s 43 0 3) (hZ.2 43 0 (by decide) Nat.one_pos) fl_X5_21 rfl rfl dX5_print_27 ?_
    refine a_iload_n dX5_print_30 2 rfl rfl ?_
    obtain ⟨p3, hF⟩ := gd_some hF
    refine a_iast hZ.1 (hZ.2 45 0 (by decide) Nat.one_pos) rfl rfl (inb_vp p3) dX5_print_31 ?_
    refine a_aload_n dX5_print_32 0 rfl rfl ?_
    refine a_getR hZ.1 (hZ.2 43 0 (by decide) Nat.one_pos) fl_X5_18 rfl 0 rfl dX5_print_33 ?_
    refine a_aload_n dX5_print_36 0 rfl rfl ?_
    refine a_getI hZ.1 (s 43 0 3) (hZ.2 43 0 (by decide) Nat.one_pos) fl_X5_21 rfl rfl dX5_print_37 ?_
    refine a_iload_n dX5_print_40 3 rfl rfl ?_
    obtain ⟨p4, hF⟩ := gd_some hF
    refine a_iast hZ.1 (hZ.2 46 0 (by decide) Nat.one_pos) rfl rfl (inb_vp p4) dX5_print_41 ?_
    refine a_aload_n dX5_print_42 0 rfl rfl ?_
    refine a_dup dX5_print_43 rfl ?_
    refine a_getI hZ.1 (s 43 0 3) (hZ.2 43 0 (by decide) Nat.one_pos) fl_X5_21 rfl rfl dX5_print_44 ?_
    refine a_iconst (v := (1 : Int32)) dX5_print_47 (by decide) ?_
    refine a_iadd dX5_print_48 ?_
    refine a_put hZ.1 (hZ.2 43 0 (by decide) Nat.one_pos) fl_X5_21 rfl rfl rfl dX5_print_49 ?_
    refine a_aload_n dX5_print_52 0 rfl rfl ?_
    refine a_getI hZ.1 ((s 43 0 3) + (1 : Int32)) (hZ.2 43 0 (by decide) Nat.one_pos) fl_X5_21 rfl (by simp [up]) dX5_print_53 ?_
    replace hF := Option.some.inj hF
    subst hF
    exact a_iret rfl (Nat.zero_le _) (Nat.zero_le _) dX5_print_56 ⟨rfl, rfl⟩
  · replace hF := (if_neg q1).symm.trans hF
    refine a_ldc (v := (-1000003)) kw_869 dX5_print_9 ?_
    replace hF := Option.some.inj hF
    subst hF
    exact a_iret rfl (Nat.zero_le _) (Nat.zero_le _) dX5_print_11 ⟨rfl, rfl⟩
theorem m_X5_print {Z : ZE} {l : Launch} (hZ : OkX Z) {a1 : Int32} {a2 : Int32} {a3 : Int32}  {s : St} {R : Int32 × St} (hF : F_X5_print (zg Z) a1 a2 a3 s = some R) : Sp Z l yX5_print iX5_print [.ref (za Z 43 0), .int a1, .int a2, .int a3] s (rI R) :=
  Sp.of (by decide) rfl (Nat.le_of_ble_eq_true rfl) (w_X5_print hZ  s hF)
-- X10_news
set_option maxRecDepth 100000 in
set_option maxHeartbeats 4000000 in
theorem w_X10_news {Z : ZE} {l : Launch} (hZ : OkX Z) {a1 : Int32} {a2 : Int32} {a3 : Int32} {a4 : Int32}  {R : Int32 × St}    (s : St) (hF : F_X10_news (zg Z) a1 a2 a3 a4  s = some R) : AW Z l iX10_news (Pq (rI R)) 0 0 0 [(0, .ref (za Z 0 0)), (1, .int a1), (2, .int a2), (3, .int a3), (4, .int a4)] [] s := by
  unfold F_X10_news at hF
  refine a_iload_n dX10_news_0 1 rfl rfl ?_
  refine a_iconst (v := (0 : Int32)) dX10_news_1 (by decide) ?_
  refine a_bipush (v := (9 : Int32)) dX10_news_2 (by decide) ?_
  obtain ⟨r4, s4, e4, hF⟩ := bd_some hF
  refine a_invS hZ.1 (As := [.int a1, .int (0 : Int32), .int (9 : Int32)]) (rest := []) lk_X10_75 ⟨⟨by decide, by decide⟩, by decide, by decide⟩ rfl (Nat.le_of_ble_eq_true rfl) dX10_news_4 (m_X10_within hZ  e4) ?_
  show AW Z l iX10_news (Pq (rI R)) 0 0 7 [(0, .ref (za Z 0 0)), (1, .int a1), (2, .int a2), (3, .int a3), (4, .int a4)] [.int r4] s4
  refine a_if_eq 37 dX10_news_7 (by decide) (fun q1 => ?_) (fun q1 => ?_)
  · replace hF := (if_pos q1).symm.trans hF
    refine a_ldc (v := (-1000001)) kw_324 dX10_news_37 ?_
    replace hF := Option.some.inj hF
    subst hF
    exact a_iret rfl (Nat.zero_le _) (Nat.zero_le _) dX10_news_39 ⟨rfl, rfl⟩
  · replace hF := (if_neg q1).symm.trans hF
    refine a_iload_n dX10_news_10 2 rfl rfl ?_
    obtain ⟨r11, s11, e11, hF⟩ := bd_some hF
    refine a_invS hZ.1 (As := [.int a2]) (rest := []) lk_X10_142 ⟨⟨by decide, by decide⟩, by decide, by decide⟩ rfl (Nat.le_of_ble_eq_true rfl) dX10_news_11 (m_X10_isWeek hZ  e11) ?_
    show AW Z l iX10_news (Pq (rI R)) 0 0 14 [(0, .ref (za Z 0 0)), (1, .int a1), (2, .int a2), (3, .int a3), (4, .int a4)] [.int r11] s11
    refine a_if_eq 37 dX10_news_14 (by decide) (fun q2 => ?_) (fun q2 => ?_)
    · replace hF := (if_pos q2).symm.trans hF
      refine a_ldc (v := (-1000001)) kw_324 dX10_news_37 ?_
      replace hF := Option.some.inj hF
      subst hF
      exact a_iret rfl (Nat.zero_le _) (Nat.zero_le _) dX10_news_39 ⟨rfl, rfl⟩
    · replace hF := (if_neg q2).symm.trans hF
      refine a_iload_n dX10_news_17 3 rfl rfl ?_
      refine a_iconst (v := (0 : Int32)) dX10_news_18 (by decide) ?_
      refine a_iconst (v := (3 : Int32)) dX10_news_19 (by decide) ?_
      obtain ⟨r20, s20, e20, hF⟩ := bd_some hF
      refine a_invS hZ.1 (As := [.int a3, .int (0 : Int32), .int (3 : Int32)]) (rest := []) lk_X10_75 ⟨⟨by decide, by decide⟩, by decide, by decide⟩ rfl (Nat.le_of_ble_eq_true rfl) dX10_news_20 (m_X10_within hZ  e20) ?_
      show AW Z l iX10_news (Pq (rI R)) 0 0 23 [(0, .ref (za Z 0 0)), (1, .int a1), (2, .int a2), (3, .int a3), (4, .int a4)] [.int r20] s20
      refine a_if_eq 37 dX10_news_23 (by decide) (fun q3 => ?_) (fun q3 => ?_)
      · replace hF := (if_pos q3).symm.trans hF
        refine a_ldc (v := (-1000001)) kw_324 dX10_news_37 ?_
        replace hF := Option.some.inj hF
        subst hF
        exact a_iret rfl (Nat.zero_le _) (Nat.zero_le _) dX10_news_39 ⟨rfl, rfl⟩
      · replace hF := (if_neg q3).symm.trans hF
        refine a_iload dX10_news_26 4 rfl ?_
        refine a_iconst (v := (0 : Int32)) dX10_news_28 (by decide) ?_
        refine a_bipush (v := (30 : Int32)) dX10_news_29 (by decide) ?_
        obtain ⟨r31, s31, e31, hF⟩ := bd_some hF
        refine a_invS hZ.1 (As := [.int a4, .int (0 : Int32), .int (30 : Int32)]) (rest := []) lk_X10_75 ⟨⟨by decide, by decide⟩, by decide, by decide⟩ rfl (Nat.le_of_ble_eq_true rfl) dX10_news_31 (m_X10_within hZ  e31) ?_
        show AW Z l iX10_news (Pq (rI R)) 0 0 34 [(0, .ref (za Z 0 0)), (1, .int a1), (2, .int a2), (3, .int a3), (4, .int a4)] [.int r31] s31
        refine a_if_ne 40 dX10_news_34 (by decide) (fun q4 => ?_) (fun q4 => ?_)
        · replace hF := (if_neg q4).symm.trans hF
          refine a_aload_n dX10_news_40 0 rfl rfl ?_
          refine a_getR hZ.1 (hZ.2 0 0 (by decide) Nat.one_pos) fl_X10_66 rfl 0 rfl dX10_news_41 ?_
          refine a_iload_n dX10_news_44 1 rfl rfl ?_
          refine a_iload_n dX10_news_45 3 rfl rfl ?_
          refine a_iload_n dX10_news_46 2 rfl rfl ?_
          refine a_iload dX10_news_47 4 rfl ?_
          refine a_iadd dX10_news_49 ?_
          obtain ⟨r50, s50, e50, hF⟩ := bd_some hF
          refine a_invV hZ.1 (As := [.int a1, .int a3, .int (a2 + a4)]) (rest := []) (hZ.2 43 0 (by decide) Nat.one_pos) lk_X10_267 ⟨⟨by decide, by decide⟩, by decide, by decide⟩ rfl (Nat.le_of_ble_eq_true rfl) dX10_news_50 (m_X5_print hZ  e50) ?_
          show AW Z l iX10_news (Pq (rI R)) 0 0 53 [(0, .ref (za Z 0 0)), (1, .int a1), (2, .int a2), (3, .int a3), (4, .int a4)] [.int r50] s50
          replace hF := Option.some.inj hF
          subst hF
          exact a_iret rfl (Nat.zero_le _) (Nat.zero_le _) dX10_news_53 ⟨rfl, rfl⟩
        · replace hF := (if_pos q4).symm.trans hF
          refine a_ldc (v := (-1000001)) kw_324 dX10_news_37 ?_
          replace hF := Option.some.inj hF
          subst hF
          exact a_iret rfl (Nat.zero_le _) (Nat.zero_le _) dX10_news_39 ⟨rfl, rfl⟩
theorem m_X10_news {Z : ZE} {l : Launch} (hZ : OkX Z) {a1 : Int32} {a2 : Int32} {a3 : Int32} {a4 : Int32}  {s : St} {R : Int32 × St} (hF : F_X10_news (zg Z) a1 a2 a3 a4 s = some R) : Sp Z l yX10_news iX10_news [.ref (za Z 0 0), .int a1, .int a2, .int a3, .int a4] s (rI R) :=
  Sp.of (by decide) rfl (Nat.le_of_ble_eq_true rfl) (w_X10_news hZ  s hF)
-- X10_ofSort
set_option maxRecDepth 100000 in
set_option maxHeartbeats 4000000 in
theorem w_X10_ofSort {Z : ZE} {l : Launch} (hZ : OkX Z) {t0 : Nat} {k0 : Nat} {a1 : Int32} {a2 : Int32} (hx0 : zx Z t0 k0) (ho0 : shO t0 = none) (ha0 : shA t0 = some (lna t0)) {R : Int32 × St}    (s : St) (hF : F_X10_ofSort (zg Z) t0 k0 a1 a2  s = some R) : AW Z l iX10_ofSort (Pq (rI R)) 0 0 0 [(0, .ref (za Z t0 k0)), (1, .int a1), (2, .int a2)] [] s := by
  unfold F_X10_ofSort at hF
  refine a_iload_n dX10_ofSort_0 1 rfl rfl ?_
  obtain ⟨r1, s1, e1, hF⟩ := bd_some hF
  refine a_invS hZ.1 (As := [.int a1]) (rest := []) lk_X10_145 ⟨⟨by decide, by decide⟩, by decide, by decide⟩ rfl (Nat.le_of_ble_eq_true rfl) dX10_ofSort_1 (m_X10_isSort hZ  e1) ?_
  show AW Z l iX10_ofSort (Pq (rI R)) 0 0 4 [(0, .ref (za Z t0 k0)), (1, .int a1), (2, .int a2)] [.int r1] s1
  refine a_if_eq 16 dX10_ofSort_4 (by decide) (fun q1 => ?_) (fun q1 => ?_)
  · replace hF := (if_pos q1).symm.trans hF
    refine a_ldc (v := (-1000001)) kw_324 dX10_ofSort_16 ?_
    replace hF := Option.some.inj hF
    subst hF
    exact a_iret rfl (Nat.zero_le _) (Nat.zero_le _) dX10_ofSort_18 ⟨rfl, rfl⟩
  · replace hF := (if_neg q1).symm.trans hF
    refine a_aload_n dX10_ofSort_7 0 rfl rfl ?_
    refine a_iload_n dX10_ofSort_8 1 rfl rfl ?_
    refine a_iload_n dX10_ofSort_9 2 rfl rfl ?_
    obtain ⟨r10, s10, e10, hF⟩ := bd_some hF
    refine a_invS hZ.1 (As := [.ref (za Z t0 k0), .int a1, .int a2]) (rest := []) lk_X10_167 ⟨⟨by decide, by decide⟩, by decide, by decide⟩ rfl (Nat.le_of_ble_eq_true rfl) dX10_ofSort_10 (m_X10_changed hZ hx0 ho0 ha0 e10) ?_
    show AW Z l iX10_ofSort (Pq (rI R)) 0 0 13 [(0, .ref (za Z t0 k0)), (1, .int a1), (2, .int a2)] [.int r10] s10
    refine a_goto 18 dX10_ofSort_13 (by decide) ?_
    replace hF := Option.some.inj hF
    subst hF
    exact a_iret rfl (Nat.zero_le _) (Nat.zero_le _) dX10_ofSort_18 ⟨rfl, rfl⟩
theorem m_X10_ofSort {Z : ZE} {l : Launch} (hZ : OkX Z) {t0 : Nat} {k0 : Nat} {a1 : Int32} {a2 : Int32} (hx0 : zx Z t0 k0) (ho0 : shO t0 = none) (ha0 : shA t0 = some (lna t0)) {s : St} {R : Int32 × St} (hF : F_X10_ofSort (zg Z) t0 k0 a1 a2 s = some R) : Sp Z l yX10_ofSort iX10_ofSort [.ref (za Z t0 k0), .int a1, .int a2] s (rI R) :=
  Sp.of (by decide) rfl (Nat.le_of_ble_eq_true rfl) (w_X10_ofSort hZ hx0 ho0 ha0 s hF)
-- X2_paidTo
set_option maxRecDepth 100000 in
set_option maxHeartbeats 4000000 in
theorem w_X2_paidTo_55 {Z : ZE} {l : Launch} (hZ : OkX Z) {a1 : Int32} {a2 : Int32}  {R : Int32 × St} (h5_ : Int32 → Int32 → St → Option (Int32 × St)) (w5_ : ∀ (v3 : Int32) (v4 : Int32)  (s : St), h5_ v3 v4 s = some R → AW Z l iX2_paidTo (Pq (rI R)) 0 0 5 [(0, .ref (za Z 28 0)), (1, .int a1), (2, .int a2), (3, .int v3), (4, .int v4)] [] s) (v3 : Int32) (v4 : Int32)  (s : St) (hF : F_X2_paidTo_55 (zg Z) a1 a2 h5_ v3 v4 s = some R) : AW Z l iX2_paidTo (Pq (rI R)) 0 0 55 [(0, .ref (za Z 28 0)), (1, .int a1), (2, .int a2), (3, .int v3), (4, .int v4)] [] s := by
  unfold F_X2_paidTo_55 at hF
  refine a_iinc [(4, .int (v4 + 1)), (0, .ref (za Z 28 0)), (1, .int a1), (2, .int a2), (3, .int v3)] dX2_paidTo_55 4 rfl rfl (by decide) rfl ?_
  refine a_goto 5 dX2_paidTo_58 (by decide) ?_
  refine a_loc [(0, .ref (za Z 28 0)), (1, .int a1), (2, .int a2), (3, .int v3), (4, .int (v4 + 1))] [1, 2, 3, 4, 0] rfl ?_
  exact w5_ v3 (v4 + 1)  _ hF
set_option maxRecDepth 100000 in
set_option maxHeartbeats 4000000 in
theorem w_X2_paidTo_5 {Z : ZE} {l : Launch} (hZ : OkX Z) {a1 : Int32} {a2 : Int32}  {R : Int32 × St}  : ∀ (n_ : Nat) (v3 : Int32) (v4 : Int32)  (s : St), F_X2_paidTo_5 (zg Z) a1 a2 n_ v3 v4 s = some R → AW Z l iX2_paidTo (Pq (rI R)) 0 0 5 [(0, .ref (za Z 28 0)), (1, .int a1), (2, .int a2), (3, .int v3), (4, .int v4)] [] s := by
  intro n_
  induction n_ with
  | zero =>
    intro v3 v4 s hF
    exact absurd hF (by rw [F_X2_paidTo_5]; exact fun q => by cases q)
  | succ n_ w5_ =>
    intro v3 v4 s hF
    rw [F_X2_paidTo_5] at hF
    refine a_iload dX2_paidTo_5 4 rfl ?_
    refine a_iload_n dX2_paidTo_7 2 rfl rfl ?_
    refine a_icmp_ge 61 dX2_paidTo_8 (by decide) (fun q1 => ?_) (fun q1 => ?_)
    · replace hF := (if_pos q1).symm.trans hF
      refine a_iload_n dX2_paidTo_61 3 rfl rfl ?_
      replace hF := Option.some.inj hF
      subst hF
      exact a_iret rfl (Nat.zero_le _) (Nat.zero_le _) dX2_paidTo_62 ⟨rfl, rfl⟩
    · replace hF := (if_neg q1).symm.trans hF
      refine a_iload dX2_paidTo_11 4 rfl ?_
      refine a_iload_n dX2_paidTo_13 1 rfl rfl ?_
      refine a_icmp_eq 55 dX2_paidTo_14 (by decide) (fun q2 => ?_) (fun q2 => ?_)
      · replace hF := (if_pos q2).symm.trans hF
        exact w_X2_paidTo_55 (l := l) hZ  (F_X2_paidTo_5 (zg Z) a1 a2 n_) w5_ v3 v4  _ hF
      · replace hF := (if_neg q2).symm.trans hF
        refine a_aload_n dX2_paidTo_17 0 rfl rfl ?_
        refine a_getR hZ.1 (hZ.2 28 0 (by decide) Nat.one_pos) fl_X2_20 rfl 0 rfl dX2_paidTo_18 ?_
        refine a_iload dX2_paidTo_21 4 rfl ?_
        obtain ⟨p3, hF⟩ := gd_some hF
        refine a_iald hZ.1 (s 32 0 v4.toNatClampNeg) (hZ.2 32 0 (by decide) Nat.one_pos) rfl rfl (inb_vp p3) rfl dX2_paidTo_23 ?_
        refine a_if_le 55 dX2_paidTo_24 (by decide) (fun q4 => ?_) (fun q4 => ?_)
        · replace hF := (if_pos q4).symm.trans hF
          exact w_X2_paidTo_55 (l := l) hZ  (F_X2_paidTo_5 (zg Z) a1 a2 n_) w5_ v3 v4  _ hF
        · replace hF := (if_neg q4).symm.trans hF
          refine a_iload_n dX2_paidTo_27 3 rfl rfl ?_
          refine a_aload_n dX2_paidTo_28 0 rfl rfl ?_
          refine a_getR hZ.1 (hZ.2 28 0 (by decide) Nat.one_pos) fl_X2_23 rfl 0 rfl dX2_paidTo_29 ?_
          refine a_iload dX2_paidTo_32 4 rfl ?_
          obtain ⟨p5, hF⟩ := gd_some hF
          refine a_iald hZ.1 (s 33 0 v4.toNatClampNeg) (hZ.2 33 0 (by decide) Nat.one_pos) rfl rfl (inb_vp p5) rfl dX2_paidTo_34 ?_
          refine a_aload_n dX2_paidTo_35 0 rfl rfl ?_
          refine a_getR hZ.1 (hZ.2 28 0 (by decide) Nat.one_pos) fl_X2_17 rfl 0 rfl dX2_paidTo_36 ?_
          refine a_iload dX2_paidTo_39 4 rfl ?_
          obtain ⟨p6, hF⟩ := gd_some hF
          refine a_aaldA hZ.1 (hZ.2 30 0 (by decide) Nat.one_pos) rfl rfl rfl rfl (inb_vp p6) (inb_lt p6) dX2_paidTo_41 ?_
          refine a_iload_n dX2_paidTo_42 1 rfl rfl ?_
          obtain ⟨p7, hF⟩ := gd_some hF
          refine a_iald hZ.1 (s 31 v4.toNatClampNeg a1.toNatClampNeg) (hZ.2 31 v4.toNatClampNeg (by decide) (inb_lt p6)) rfl rfl (inb_vp p7) rfl dX2_paidTo_43 ?_
          refine a_imul dX2_paidTo_44 ?_
          refine a_aload_n dX2_paidTo_45 0 rfl rfl ?_
          refine a_getR hZ.1 (hZ.2 28 0 (by decide) Nat.one_pos) fl_X2_20 rfl 0 rfl dX2_paidTo_46 ?_
          refine a_iload dX2_paidTo_49 4 rfl ?_
          obtain ⟨p8, hF⟩ := gd_some hF
          refine a_iald hZ.1 (s 32 0 v4.toNatClampNeg) (hZ.2 32 0 (by decide) Nat.one_pos) rfl rfl (inb_vp p8) rfl dX2_paidTo_51 ?_
          obtain ⟨p9, hF⟩ := gd_some hF
          refine a_idiv dX2_paidTo_52 (ne0_n p9) ?_
          refine a_iadd dX2_paidTo_53 ?_
          refine a_istore_n [(3, .int (v3 + (((s 33 0 v4.toNatClampNeg) * (s 31 v4.toNatClampNeg a1.toNatClampNeg)) / (s 32 0 v4.toNatClampNeg)))), (0, .ref (za Z 28 0)), (1, .int a1), (2, .int a2), (4, .int v4)] dX2_paidTo_54 rfl (by decide) rfl ?_
          refine a_loc [(0, .ref (za Z 28 0)), (1, .int a1), (2, .int a2), (3, .int (v3 + (((s 33 0 v4.toNatClampNeg) * (s 31 v4.toNatClampNeg a1.toNatClampNeg)) / (s 32 0 v4.toNatClampNeg)))), (4, .int v4)] [1, 2, 3, 0, 4] rfl ?_
          exact w_X2_paidTo_55 (l := l) hZ  (F_X2_paidTo_5 (zg Z) a1 a2 n_) w5_ (v3 + (((s 33 0 v4.toNatClampNeg) * (s 31 v4.toNatClampNeg a1.toNatClampNeg)) / (s 32 0 v4.toNatClampNeg))) v4  _ hF
set_option maxRecDepth 100000 in
set_option maxHeartbeats 4000000 in
theorem w_X2_paidTo {Z : ZE} {l : Launch} (hZ : OkX Z) {a1 : Int32} {a2 : Int32}  {R : Int32 × St}    (s : St) (hF : F_X2_paidTo (zg Z) a1 a2  s = some R) : AW Z l iX2_paidTo (Pq (rI R)) 0 0 0 [(0, .ref (za Z 28 0)), (1, .int a1), (2, .int a2)] [] s := by
  unfold F_X2_paidTo at hF
  refine a_iconst (v := (0 : Int32)) dX2_paidTo_0 (by decide) ?_
  refine a_istore_n [(3, .int (0 : Int32)), (0, .ref (za Z 28 0)), (1, .int a1), (2, .int a2)] dX2_paidTo_1 rfl (by decide) rfl ?_
  refine a_iconst (v := (0 : Int32)) dX2_paidTo_2 (by decide) ?_
  refine a_istore [(4, .int (0 : Int32)), (3, .int (0 : Int32)), (0, .ref (za Z 28 0)), (1, .int a1), (2, .int a2)] dX2_paidTo_3 (by decide) rfl ?_
  refine a_loc [(0, .ref (za Z 28 0)), (1, .int a1), (2, .int a2), (3, .int (0 : Int32)), (4, .int (0 : Int32))] [2, 3, 4, 1, 0] rfl ?_
  exact w_X2_paidTo_5 (l := l) hZ   fu (0 : Int32) (0 : Int32)  _ hF
theorem m_X2_paidTo {Z : ZE} {l : Launch} (hZ : OkX Z) {a1 : Int32} {a2 : Int32}  {s : St} {R : Int32 × St} (hF : F_X2_paidTo (zg Z) a1 a2 s = some R) : Sp Z l yX2_paidTo iX2_paidTo [.ref (za Z 28 0), .int a1, .int a2] s (rI R) :=
  Sp.of (by decide) rfl (Nat.le_of_ble_eq_true rfl) (w_X2_paidTo hZ  s hF)
-- X2_roundChanges
set_option maxRecDepth 100000 in
set_option maxHeartbeats 4000000 in
theorem w_X2_roundChanges_68 {Z : ZE} {l : Launch} (hZ : OkX Z) {a1 : Int32}  {R : Int32 × St}  (v2 : Int32)  (s : St) (hF : F_X2_roundChanges_68 (zg Z) a1 v2 s = some R) : AW Z l iX2_roundChanges (Pq (rI R)) 0 0 68 [(0, .ref (za Z 28 0)), (1, .int a1), (2, .int v2)] [] s := by
  unfold F_X2_roundChanges_68 at hF
  refine a_aload_n dX2_roundChanges_68 0 rfl rfl ?_
  refine a_getR hZ.1 (hZ.2 28 0 (by decide) Nat.one_pos) fl_X2_26 rfl 0 rfl dX2_roundChanges_69 ?_
  refine a_iconst (v := (0 : Int32)) dX2_roundChanges_72 (by decide) ?_
  refine a_aload_n dX2_roundChanges_73 0 rfl rfl ?_
  refine a_getR hZ.1 (hZ.2 28 0 (by decide) Nat.one_pos) fl_X2_23 rfl 0 rfl dX2_roundChanges_74 ?_
  refine a_iconst (v := (0 : Int32)) dX2_roundChanges_77 (by decide) ?_
  refine a_iload_n dX2_roundChanges_78 1 rfl rfl ?_
  obtain ⟨p1, hF⟩ := gd_some hF
  refine a_copy hZ.1 (hZ.2 34 0 (by decide) Nat.one_pos) (hZ.2 33 0 (by decide) Nat.one_pos) rfl rfl rfl rfl (cpb_ok p1) kw_809 kw_364 kw_363 kw_12 ⟨by decide, Nat.le_of_ble_eq_true rfl⟩ dX2_roundChanges_79 ?_
  refine a_iload_n dX2_roundChanges_82 2 rfl rfl ?_
  obtain ⟨p2, hF⟩ := gd_some hF
  replace hF := Option.some.inj hF
  subst hF
  exact a_zret rfl (isb_n p2) (Nat.zero_le _) (Nat.zero_le _) dX2_roundChanges_83 ⟨rfl, rfl⟩
set_option maxRecDepth 100000 in
set_option maxHeartbeats 4000000 in
theorem w_X2_roundChanges_61 {Z : ZE} {l : Launch} (hZ : OkX Z) {a1 : Int32}  {R : Int32 × St} (h4_ : Int32 → Int32 → St → Option (Int32 × St)) (w4_ : ∀ (v2 : Int32) (v3 : Int32)  (s : St), h4_ v2 v3 s = some R → AW Z l iX2_roundChanges (Pq (rI R)) 0 0 4 [(0, .ref (za Z 28 0)), (1, .int a1), (2, .int v2), (3, .int v3)] [] s) (h68_ : Int32 → St → Option (Int32 × St)) (w68_ : ∀ (v2 : Int32)  (s : St), h68_ v2 s = some R → AW Z l iX2_roundChanges (Pq (rI R)) 0 0 68 [(0, .ref (za Z 28 0)), (1, .int a1), (2, .int v2)] [] s) (v3 : Int32) (x0 : Int32)  (s : St) (hF : F_X2_roundChanges_61 (zg Z) a1 h4_ h68_ v3 x0 s = some R) : AW Z l iX2_roundChanges (Pq (rI R)) 0 0 61 [(0, .ref (za Z 28 0)), (1, .int a1), (3, .int v3)] [.int x0] s := by
  unfold F_X2_roundChanges_61 at hF
  refine a_istore_n [(2, .int x0), (0, .ref (za Z 28 0)), (1, .int a1), (3, .int v3)] dX2_roundChanges_61 rfl (by decide) rfl ?_
  refine a_iinc [(3, .int (v3 + 1)), (2, .int x0), (0, .ref (za Z 28 0)), (1, .int a1)] dX2_roundChanges_62 3 rfl rfl (by decide) rfl ?_
  refine a_goto 4 dX2_roundChanges_65 (by decide) ?_
  refine a_loc [(0, .ref (za Z 28 0)), (1, .int a1), (2, .int x0), (3, .int (v3 + 1))] [2, 3, 1, 0] rfl ?_
  exact w4_ x0 (v3 + 1)  _ hF
set_option maxRecDepth 100000 in
set_option maxHeartbeats 4000000 in
theorem w_X2_roundChanges_56 {Z : ZE} {l : Launch} (hZ : OkX Z) {a1 : Int32}  {R : Int32 × St} (h4_ : Int32 → Int32 → St → Option (Int32 × St)) (w4_ : ∀ (v2 : Int32) (v3 : Int32)  (s : St), h4_ v2 v3 s = some R → AW Z l iX2_roundChanges (Pq (rI R)) 0 0 4 [(0, .ref (za Z 28 0)), (1, .int a1), (2, .int v2), (3, .int v3)] [] s) (h68_ : Int32 → St → Option (Int32 × St)) (w68_ : ∀ (v2 : Int32)  (s : St), h68_ v2 s = some R → AW Z l iX2_roundChanges (Pq (rI R)) 0 0 68 [(0, .ref (za Z 28 0)), (1, .int a1), (2, .int v2)] [] s) (v3 : Int32)  (s : St) (hF : F_X2_roundChanges_56 (zg Z) a1 h4_ h68_ v3 s = some R) : AW Z l iX2_roundChanges (Pq (rI R)) 0 0 56 [(0, .ref (za Z 28 0)), (1, .int a1), (3, .int v3)] [] s := by
  unfold F_X2_roundChanges_56 at hF
  refine a_iconst (v := (1 : Int32)) dX2_roundChanges_56 (by decide) ?_
  refine a_goto 61 dX2_roundChanges_57 (by decide) ?_
  exact w_X2_roundChanges_61 (l := l) hZ  h4_ w4_ h68_ w68_ v3 (1 : Int32)  _ hF
set_option maxRecDepth 100000 in
set_option maxHeartbeats 4000000 in
theorem w_X2_roundChanges_4 {Z : ZE} {l : Launch} (hZ : OkX Z) {a1 : Int32}  {R : Int32 × St} (h68_ : Int32 → St → Option (Int32 × St)) (w68_ : ∀ (v2 : Int32)  (s : St), h68_ v2 s = some R → AW Z l iX2_roundChanges (Pq (rI R)) 0 0 68 [(0, .ref (za Z 28 0)), (1, .int a1), (2, .int v2)] [] s) : ∀ (n_ : Nat) (v2 : Int32) (v3 : Int32)  (s : St), F_X2_roundChanges_4 (zg Z) a1 h68_ n_ v2 v3 s = some R → AW Z l iX2_roundChanges (Pq (rI R)) 0 0 4 [(0, .ref (za Z 28 0)), (1, .int a1), (2, .int v2), (3, .int v3)] [] s := by
  intro n_
  induction n_ with
  | zero =>
    intro v2 v3 s hF
    exact absurd hF (by rw [F_X2_roundChanges_4]; exact fun q => by cases q)
  | succ n_ w4_ =>
    intro v2 v3 s hF
    rw [F_X2_roundChanges_4] at hF
    refine a_iload_n dX2_roundChanges_4 3 rfl rfl ?_
    refine a_iload_n dX2_roundChanges_5 1 rfl rfl ?_
    refine a_icmp_ge 68 dX2_roundChanges_6 (by decide) (fun q1 => ?_) (fun q1 => ?_)
    · replace hF := (if_pos q1).symm.trans hF
      refine a_loc [(0, .ref (za Z 28 0)), (1, .int a1), (2, .int v2)] [0, 1, 2] rfl ?_
      exact w68_ v2  _ hF
    · replace hF := (if_neg q1).symm.trans hF
      refine a_aload_n dX2_roundChanges_9 0 rfl rfl ?_
      refine a_getR hZ.1 (hZ.2 28 0 (by decide) Nat.one_pos) fl_X2_26 rfl 0 rfl dX2_roundChanges_10 ?_
      refine a_iload_n dX2_roundChanges_13 3 rfl rfl ?_
      refine a_aload_n dX2_roundChanges_14 0 rfl rfl ?_
      refine a_getR hZ.1 (hZ.2 28 0 (by decide) Nat.one_pos) fl_X2_20 rfl 0 rfl dX2_roundChanges_15 ?_
      refine a_iload_n dX2_roundChanges_18 3 rfl rfl ?_
      obtain ⟨p2, hF⟩ := gd_some hF
      refine a_iald hZ.1 (s 32 0 v3.toNatClampNeg) (hZ.2 32 0 (by decide) Nat.one_pos) rfl rfl (inb_vp p2) rfl dX2_roundChanges_19 ?_
      refine a_aload_n dX2_roundChanges_20 0 rfl rfl ?_
      refine a_getR hZ.1 (hZ.2 28 0 (by decide) Nat.one_pos) fl_X2_9 rfl 0 rfl dX2_roundChanges_21 ?_
      refine a_iload_n dX2_roundChanges_24 3 rfl rfl ?_
      obtain ⟨p3, hF⟩ := gd_some hF
      refine a_iald hZ.1 (s 29 0 v3.toNatClampNeg) (hZ.2 29 0 (by decide) Nat.one_pos) rfl rfl (inb_vp p3) rfl dX2_roundChanges_25 ?_
      refine a_aload_n dX2_roundChanges_26 0 rfl rfl ?_
      refine a_iload_n dX2_roundChanges_27 3 rfl rfl ?_
      refine a_iload_n dX2_roundChanges_28 1 rfl rfl ?_
      obtain ⟨r29, s29, e29, hF⟩ := bd_some hF
      refine a_invV hZ.1 (As := [.int v3, .int a1]) (rest := [.int (s 29 0 v3.toNatClampNeg), .int (s 32 0 v3.toNatClampNeg), .int v3, .ref (za Z 34 0)]) (hZ.2 28 0 (by decide) Nat.one_pos) lk_X2_48 ⟨⟨by decide, by decide⟩, by decide, by decide⟩ rfl (Nat.le_of_ble_eq_true rfl) dX2_roundChanges_29 (m_X2_paidTo hZ  e29) ?_
      show AW Z l iX2_roundChanges (Pq (rI R)) 0 0 32 [(0, .ref (za Z 28 0)), (1, .int a1), (2, .int v2), (3, .int v3)] [.int r29, .int (s 29 0 v3.toNatClampNeg), .int (s 32 0 v3.toNatClampNeg), .int v3, .ref (za Z 34 0)] s29
      refine a_iadd dX2_roundChanges_32 ?_
      refine a_mmin kw_819 kw_473 kw_14 kw_474 ⟨by decide, Nat.le_of_ble_eq_true rfl, Nat.zero_le _, Nat.zero_le _⟩ dX2_roundChanges_33 ?_
      obtain ⟨p4, hF⟩ := gd_some hF
      refine a_iast hZ.1 (hZ.2 34 0 (by decide) Nat.one_pos) rfl rfl (inb_vp p4) dX2_roundChanges_36 ?_
      refine a_iload_n dX2_roundChanges_37 2 rfl rfl ?_
      refine a_if_ne 56 dX2_roundChanges_38 (by decide) (fun q5 => ?_) (fun q5 => ?_)
      · replace hF := (if_neg q5).symm.trans hF
        refine a_loc [(0, .ref (za Z 28 0)), (1, .int a1), (3, .int v3)] [0, 1, 3] rfl ?_
        exact w_X2_roundChanges_56 (l := l) hZ  (F_X2_roundChanges_4 (zg Z) a1 h68_ n_) w4_ h68_ w68_ v3  _ hF
      · replace hF := (if_pos q5).symm.trans hF
        refine a_aload_n dX2_roundChanges_41 0 rfl rfl ?_
        refine a_getR hZ.1 (hZ.2 28 0 (by decide) Nat.one_pos) fl_X2_26 rfl 0 rfl dX2_roundChanges_42 ?_
        refine a_iload_n dX2_roundChanges_45 3 rfl rfl ?_
        obtain ⟨p6, hF⟩ := gd_some hF
        refine a_iald hZ.1 (if ((s 29 0 v3.toNatClampNeg) + r29) < (s 32 0 v3.toNatClampNeg) then ((s 29 0 v3.toNatClampNeg) + r29) else (s 32 0 v3.toNatClampNeg)) (hZ.2 34 0 (by decide) Nat.one_pos) rfl rfl (inb_vp p6) (by simp [up]) dX2_roundChanges_46 ?_
        refine a_aload_n dX2_roundChanges_47 0 rfl rfl ?_
        refine a_getR hZ.1 (hZ.2 28 0 (by decide) Nat.one_pos) fl_X2_23 rfl 0 rfl dX2_roundChanges_48 ?_
        refine a_iload_n dX2_roundChanges_51 3 rfl rfl ?_
        obtain ⟨p7, hF⟩ := gd_some hF
        refine a_iald hZ.1 (s29 33 0 v3.toNatClampNeg) (hZ.2 33 0 (by decide) Nat.one_pos) rfl rfl (inb_vp p7) rfl dX2_roundChanges_52 ?_
        refine a_icmp_eq 60 dX2_roundChanges_53 (by decide) (fun q8 => ?_) (fun q8 => ?_)
        · replace hF := (if_pos q8).symm.trans hF
          refine a_iconst (v := (0 : Int32)) dX2_roundChanges_60 (by decide) ?_
          refine a_loc [(0, .ref (za Z 28 0)), (1, .int a1), (3, .int v3)] [0, 1, 3] rfl ?_
          exact w_X2_roundChanges_61 (l := l) hZ  (F_X2_roundChanges_4 (zg Z) a1 h68_ n_) w4_ h68_ w68_ v3 (0 : Int32)  _ hF
        · replace hF := (if_neg q8).symm.trans hF
          refine a_loc [(0, .ref (za Z 28 0)), (1, .int a1), (3, .int v3)] [0, 1, 3] rfl ?_
          exact w_X2_roundChanges_56 (l := l) hZ  (F_X2_roundChanges_4 (zg Z) a1 h68_ n_) w4_ h68_ w68_ v3  _ hF
set_option maxRecDepth 100000 in
set_option maxHeartbeats 4000000 in
theorem w_X2_roundChanges {Z : ZE} {l : Launch} (hZ : OkX Z) {a1 : Int32}  {R : Int32 × St}    (s : St) (hF : F_X2_roundChanges (zg Z) a1  s = some R) : AW Z l iX2_roundChanges (Pq (rI R)) 0 0 0 [(0, .ref (za Z 28 0)), (1, .int a1)] [] s := by
  unfold F_X2_roundChanges at hF
  refine a_iconst (v := (0 : Int32)) dX2_roundChanges_0 (by decide) ?_
  refine a_istore_n [(2, .int (0 : Int32)), (0, .ref (za Z 28 0)), (1, .int a1)] dX2_roundChanges_1 rfl (by decide) rfl ?_
  refine a_iconst (v := (0 : Int32)) dX2_roundChanges_2 (by decide) ?_
  refine a_istore_n [(3, .int (0 : Int32)), (2, .int (0 : Int32)), (0, .ref (za Z 28 0)), (1, .int a1)] dX2_roundChanges_3 rfl (by decide) rfl ?_
  refine a_loc [(0, .ref (za Z 28 0)), (1, .int a1), (2, .int (0 : Int32)), (3, .int (0 : Int32))] [2, 3, 1, 0] rfl ?_
  exact w_X2_roundChanges_4 (l := l) hZ  (F_X2_roundChanges_68 (zg Z) a1 ) (w_X2_roundChanges_68 (l := l) hZ  ) fu (0 : Int32) (0 : Int32)  _ hF
theorem m_X2_roundChanges {Z : ZE} {l : Launch} (hZ : OkX Z) {a1 : Int32}  {s : St} {R : Int32 × St} (hF : F_X2_roundChanges (zg Z) a1 s = some R) : Sp Z l yX2_roundChanges iX2_roundChanges [.ref (za Z 28 0), .int a1] s (rI R) :=
  Sp.of (by decide) rfl (Nat.le_of_ble_eq_true rfl) (w_X2_roundChanges hZ  s hF)
-- X2_settle
set_option maxRecDepth 100000 in
set_option maxHeartbeats 4000000 in
theorem w_X2_settle_16 {Z : ZE} {l : Launch} (hZ : OkX Z) {a1 : Int32}  {R : Int32 × St}  : ∀ (n_ : Nat) (v2 : Int32)  (s : St), F_X2_settle_16 (zg Z) a1 n_ v2 s = some R → AW Z l iX2_settle (Pq (rI R)) 0 0 16 [(0, .ref (za Z 28 0)), (1, .int a1), (2, .int v2)] [] s := by
  intro n_
  induction n_ with
  | zero =>
    intro v2 s hF
    exact absurd hF (by rw [F_X2_settle_16]; exact fun q => by cases q)
  | succ n_ w16_ =>
    intro v2 s hF
    rw [F_X2_settle_16] at hF
    refine a_iload_n dX2_settle_16 2 rfl rfl ?_
    refine a_ldc (v := (100000 : Int32)) kw_810 dX2_settle_17 ?_
    refine a_icmp_ge 36 dX2_settle_19 (by decide) (fun q1 => ?_) (fun q1 => ?_)
    · replace hF := (if_pos q1).symm.trans hF
      refine a_iload_n dX2_settle_36 2 rfl rfl ?_
      replace hF := Option.some.inj hF
      subst hF
      exact a_iret rfl (Nat.zero_le _) (Nat.zero_le _) dX2_settle_37 ⟨rfl, rfl⟩
    · replace hF := (if_neg q1).symm.trans hF
      refine a_aload_n dX2_settle_22 0 rfl rfl ?_
      refine a_iload_n dX2_settle_23 1 rfl rfl ?_
      obtain ⟨r24, s24, e24, hF⟩ := bd_some hF
      refine a_invV hZ.1 (As := [.int a1]) (rest := []) (hZ.2 28 0 (by decide) Nat.one_pos) lk_X2_44 ⟨⟨by decide, by decide⟩, by decide, by decide⟩ rfl (Nat.le_of_ble_eq_true rfl) dX2_settle_24 (m_X2_roundChanges hZ  e24) ?_
      show AW Z l iX2_settle (Pq (rI R)) 0 0 27 [(0, .ref (za Z 28 0)), (1, .int a1), (2, .int v2)] [.int r24] s24
      refine a_if_eq 36 dX2_settle_27 (by decide) (fun q2 => ?_) (fun q2 => ?_)
      · replace hF := (if_pos q2).symm.trans hF
        refine a_iload_n dX2_settle_36 2 rfl rfl ?_
        replace hF := Option.some.inj hF
        subst hF
        exact a_iret rfl (Nat.zero_le _) (Nat.zero_le _) dX2_settle_37 ⟨rfl, rfl⟩
      · replace hF := (if_neg q2).symm.trans hF
        refine a_iinc [(2, .int (v2 + 1)), (0, .ref (za Z 28 0)), (1, .int a1)] dX2_settle_30 2 rfl rfl (by decide) rfl ?_
        refine a_goto 16 dX2_settle_33 (by decide) ?_
        refine a_loc [(0, .ref (za Z 28 0)), (1, .int a1), (2, .int (v2 + 1))] [1, 2, 0] rfl ?_
        exact w16_ (v2 + 1)  _ hF
set_option maxRecDepth 100000 in
set_option maxHeartbeats 4000000 in
theorem w_X2_settle {Z : ZE} {l : Launch} (hZ : OkX Z) {a1 : Int32}  {R : Int32 × St}    (s : St) (hF : F_X2_settle (zg Z) a1  s = some R) : AW Z l iX2_settle (Pq (rI R)) 0 0 0 [(0, .ref (za Z 28 0)), (1, .int a1)] [] s := by
  unfold F_X2_settle at hF
  refine a_aload_n dX2_settle_0 0 rfl rfl ?_
  refine a_getR hZ.1 (hZ.2 28 0 (by decide) Nat.one_pos) fl_X2_20 rfl 0 rfl dX2_settle_1 ?_
  refine a_iconst (v := (0 : Int32)) dX2_settle_4 (by decide) ?_
  refine a_aload_n dX2_settle_5 0 rfl rfl ?_
  refine a_getR hZ.1 (hZ.2 28 0 (by decide) Nat.one_pos) fl_X2_23 rfl 0 rfl dX2_settle_6 ?_
  refine a_iconst (v := (0 : Int32)) dX2_settle_9 (by decide) ?_
  refine a_iload_n dX2_settle_10 1 rfl rfl ?_
  obtain ⟨p1, hF⟩ := gd_some hF
  refine a_copy hZ.1 (hZ.2 32 0 (by decide) Nat.one_pos) (hZ.2 33 0 (by decide) Nat.one_pos) rfl rfl rfl rfl (cpb_ok p1) kw_809 kw_364 kw_363 kw_12 ⟨by decide, Nat.le_of_ble_eq_true rfl⟩ dX2_settle_11 ?_
  refine a_iconst (v := (0 : Int32)) dX2_settle_14 (by decide) ?_
  refine a_istore_n [(2, .int (0 : Int32)), (0, .ref (za Z 28 0)), (1, .int a1)] dX2_settle_15 rfl (by decide) rfl ?_
  refine a_loc [(0, .ref (za Z 28 0)), (1, .int a1), (2, .int (0 : Int32))] [1, 2, 0] rfl ?_
  exact w_X2_settle_16 (l := l) hZ   fu (0 : Int32)  _ hF
theorem m_X2_settle {Z : ZE} {l : Launch} (hZ : OkX Z) {a1 : Int32}  {s : St} {R : Int32 × St} (hF : F_X2_settle (zg Z) a1 s = some R) : Sp Z l yX2_settle iX2_settle [.ref (za Z 28 0), .int a1] s (rI R) :=
  Sp.of (by decide) rfl (Nat.le_of_ble_eq_true rfl) (w_X2_settle hZ  s hF)
-- X2_takeRow
set_option maxRecDepth 100000 in
set_option maxHeartbeats 4000000 in
theorem w_X2_takeRow_41 {Z : ZE} {l : Launch} (hZ : OkX Z) {t1 : Nat} {k1 : Nat} {a2 : Int32} {a3 : Int32} {a4 : Int32} (hx1 : zx Z t1 k1) (ho1 : shO t1 = none) (ha1 : shA t1 = some (lna t1)) {R : Int32 × St} (h10_ : Int32 → St → Option (Int32 × St)) (w10_ : ∀ (v5 : Int32)  (s : St), h10_ v5 s = some R → AW Z l iX2_takeRow (Pq (rI R)) 0 0 10 [(0, .ref (za Z 28 0)), (1, .ref (za Z t1 k1)), (2, .int a2), (3, .int a3), (4, .int a4), (5, .int v5)] [] s) (v5 : Int32) (v6 : Int32) (x0 : Int32) (x1 : Int32) (x2 : Int32)  (s : St) (hF : F_X2_takeRow_41 (zg Z) t1 k1 a2 a3 a4 h10_ v5 v6 x0 x1 x2 s = some R) : AW Z l iX2_takeRow (Pq (rI R)) 0 0 41 [(0, .ref (za Z 28 0)), (1, .ref (za Z t1 k1)), (2, .int a2), (3, .int a3), (4, .int a4), (5, .int v5), (6, .int v6)] [.int x2, .int x1, .int x0] s := by
  unfold F_X2_takeRow_41 at hF
  obtain ⟨r41, s41, e41, hF⟩ := bd_some hF
  refine a_invN hZ.1 (As := [.int x0, .int x1, .int x2]) (rest := []) lk_X2_29 ⟨⟨by decide, by decide⟩, by decide, by decide⟩ rfl (Nat.le_of_ble_eq_true rfl) dX2_takeRow_41 (m_X10_within hZ  e41) ?_
  show AW Z l iX2_takeRow (Pq (rI R)) 0 0 44 [(0, .ref (za Z 28 0)), (1, .ref (za Z t1 k1)), (2, .int a2), (3, .int a3), (4, .int a4), (5, .int v5), (6, .int v6)] [.int r41] s41
  refine a_if_ne 49 dX2_takeRow_44 (by decide) (fun q1 => ?_) (fun q1 => ?_)
  · replace hF := (if_neg q1).symm.trans hF
    refine a_aload_n dX2_takeRow_49 0 rfl rfl ?_
    refine a_getR hZ.1 (hZ.2 28 0 (by decide) Nat.one_pos) fl_X2_17 rfl 0 rfl dX2_takeRow_50 ?_
    refine a_iload_n dX2_takeRow_53 3 rfl rfl ?_
    obtain ⟨p2, hF⟩ := gd_some hF
    refine a_aaldA hZ.1 (hZ.2 30 0 (by decide) Nat.one_pos) rfl rfl rfl rfl (inb_vp p2) (inb_lt p2) dX2_takeRow_54 ?_
    refine a_iload dX2_takeRow_55 5 rfl ?_
    refine a_iload dX2_takeRow_57 6 rfl ?_
    obtain ⟨p3, hF⟩ := gd_some hF
    refine a_iast hZ.1 (hZ.2 31 a3.toNatClampNeg (by decide) (inb_lt p2)) rfl rfl (inb_vp p3) dX2_takeRow_59 ?_
    refine a_aload_n dX2_takeRow_60 0 rfl rfl ?_
    refine a_getR hZ.1 (hZ.2 28 0 (by decide) Nat.one_pos) fl_X2_20 rfl 0 rfl dX2_takeRow_61 ?_
    refine a_iload_n dX2_takeRow_64 3 rfl rfl ?_
    refine a_dup2 dX2_takeRow_65 rfl rfl ?_
    obtain ⟨p4, hF⟩ := gd_some hF
    refine a_iald hZ.1 (s41 32 0 a3.toNatClampNeg) (hZ.2 32 0 (by decide) Nat.one_pos) rfl rfl (inb_vp p4) rfl dX2_takeRow_66 ?_
    refine a_iload dX2_takeRow_67 6 rfl ?_
    refine a_iadd dX2_takeRow_69 ?_
    obtain ⟨p5, hF⟩ := gd_some hF
    refine a_iast hZ.1 (hZ.2 32 0 (by decide) Nat.one_pos) rfl rfl (inb_vp p5) dX2_takeRow_70 ?_
    refine a_iinc [(5, .int (v5 + 1)), (0, .ref (za Z 28 0)), (1, .ref (za Z t1 k1)), (2, .int a2), (3, .int a3), (4, .int a4), (6, .int v6)] dX2_takeRow_71 5 rfl rfl (by decide) rfl ?_
    refine a_goto 10 dX2_takeRow_74 (by decide) ?_
    refine a_loc [(0, .ref (za Z 28 0)), (1, .ref (za Z t1 k1)), (2, .int a2), (3, .int a3), (4, .int a4), (5, .int (v5 + 1))] [1, 2, 3, 4, 5, 0] rfl ?_
    exact w10_ (v5 + 1)  _ hF
  · replace hF := (if_pos q1).symm.trans hF
    refine a_iconst (v := (0 : Int32)) dX2_takeRow_47 (by decide) ?_
    replace hF := Option.some.inj hF
    subst hF
    exact a_zret rfl rfl (Nat.zero_le _) (Nat.zero_le _) dX2_takeRow_48 ⟨rfl, rfl⟩
set_option maxRecDepth 100000 in
set_option maxHeartbeats 4000000 in
theorem w_X2_takeRow_10 {Z : ZE} {l : Launch} (hZ : OkX Z) {t1 : Nat} {k1 : Nat} {a2 : Int32} {a3 : Int32} {a4 : Int32} (hx1 : zx Z t1 k1) (ho1 : shO t1 = none) (ha1 : shA t1 = some (lna t1)) {R : Int32 × St}  : ∀ (n_ : Nat) (v5 : Int32)  (s : St), F_X2_takeRow_10 (zg Z) t1 k1 a2 a3 a4 n_ v5 s = some R → AW Z l iX2_takeRow (Pq (rI R)) 0 0 10 [(0, .ref (za Z 28 0)), (1, .ref (za Z t1 k1)), (2, .int a2), (3, .int a3), (4, .int a4), (5, .int v5)] [] s := by
  intro n_
  induction n_ with
  | zero =>
    intro v5 s hF
    exact absurd hF (by rw [F_X2_takeRow_10]; exact fun q => by cases q)
  | succ n_ w10_ =>
    intro v5 s hF
    rw [F_X2_takeRow_10] at hF
    refine a_iload dX2_takeRow_10 5 rfl ?_
    refine a_iload dX2_takeRow_12 4 rfl ?_
    refine a_icmp_ge 77 dX2_takeRow_14 (by decide) (fun q1 => ?_) (fun q1 => ?_)
    · replace hF := (if_pos q1).symm.trans hF
      refine a_iconst (v := (1 : Int32)) dX2_takeRow_77 (by decide) ?_
      replace hF := Option.some.inj hF
      subst hF
      exact a_zret rfl rfl (Nat.zero_le _) (Nat.zero_le _) dX2_takeRow_78 ⟨rfl, rfl⟩
    · replace hF := (if_neg q1).symm.trans hF
      refine a_aload_n dX2_takeRow_17 1 rfl rfl ?_
      refine a_iload_n dX2_takeRow_18 2 rfl rfl ?_
      refine a_iload dX2_takeRow_19 5 rfl ?_
      refine a_iadd dX2_takeRow_21 ?_
      obtain ⟨p2, hF⟩ := gd_some hF
      refine a_iald hZ.1 (s t1 k1 (a2 + v5).toNatClampNeg) hx1 ho1 ha1 (inb_vp p2) rfl dX2_takeRow_22 ?_
      refine a_istore [(6, .int (s t1 k1 (a2 + v5).toNatClampNeg)), (0, .ref (za Z 28 0)), (1, .ref (za Z t1 k1)), (2, .int a2), (3, .int a3), (4, .int a4), (5, .int v5)] dX2_takeRow_23 (by decide) rfl ?_
      refine a_iload dX2_takeRow_25 0 rfl ?_
      refine a_iconst (v := (0 : Int32)) dX2_takeRow_27 (by decide) ?_
      refine a_iload dX2_takeRow_28 6 rfl ?_
      refine a_iload_n dX2_takeRow_30 4 rfl rfl ?_
      refine a_icmp_ne 38 dX2_takeRow_31 (by decide) (fun q3 => ?_) (fun q3 => ?_)
      · replace hF := (if_neg q3).symm.trans hF
        refine a_sipush (v := (1000 : Int32)) dX2_takeRow_38 (by decide) ?_
        refine a_loc [(0, .ref (za Z 28 0)), (1, .ref (za Z t1 k1)), (2, .int a2), (3, .int a3), (4, .int a4), (5, .int v5), (6, .int (s t1 k1 (a2 + v5).toNatClampNeg))] [1, 2, 3, 4, 5, 6, 0] rfl ?_
        exact w_X2_takeRow_41 (l := l) hZ hx1 ho1 ha1 (F_X2_takeRow_10 (zg Z) t1 k1 a2 a3 a4 n_) w10_ v5 (s t1 k1 (a2 + v5).toNatClampNeg) (s t1 k1 (a2 + v5).toNatClampNeg) (0 : Int32) (1000 : Int32)  _ hF
      · replace hF := (if_pos q3).symm.trans hF
        refine a_iconst (v := (0 : Int32)) dX2_takeRow_34 (by decide) ?_
        refine a_goto 41 dX2_takeRow_35 (by decide) ?_
        refine a_loc [(0, .ref (za Z 28 0)), (1, .ref (za Z t1 k1)), (2, .int a2), (3, .int a3), (4, .int a4), (5, .int v5), (6, .int (s t1 k1 (a2 + v5).toNatClampNeg))] [1, 2, 3, 4, 5, 6, 0] rfl ?_
        exact w_X2_takeRow_41 (l := l) hZ hx1 ho1 ha1 (F_X2_takeRow_10 (zg Z) t1 k1 a2 a3 a4 n_) w10_ v5 (s t1 k1 (a2 + v5).toNatClampNeg) (s t1 k1 (a2 + v5).toNatClampNeg) (0 : Int32) (0 : Int32)  _ hF
set_option maxRecDepth 100000 in
set_option maxHeartbeats 4000000 in
theorem w_X2_takeRow {Z : ZE} {l : Launch} (hZ : OkX Z) {t1 : Nat} {k1 : Nat} {a2 : Int32} {a3 : Int32} {a4 : Int32} (hx1 : zx Z t1 k1) (ho1 : shO t1 = none) (ha1 : shA t1 = some (lna t1)) {R : Int32 × St}    (s : St) (hF : F_X2_takeRow (zg Z) t1 k1 a2 a3 a4  s = some R) : AW Z l iX2_takeRow (Pq (rI R)) 0 0 0 [(0, .ref (za Z 28 0)), (1, .ref (za Z t1 k1)), (2, .int a2), (3, .int a3), (4, .int a4)] [] s := by
  unfold F_X2_takeRow at hF
  refine a_aload_n dX2_takeRow_0 0 rfl rfl ?_
  refine a_getR hZ.1 (hZ.2 28 0 (by decide) Nat.one_pos) fl_X2_20 rfl 0 rfl dX2_takeRow_1 ?_
  refine a_iload_n dX2_takeRow_4 3 rfl rfl ?_
  refine a_iconst (v := (0 : Int32)) dX2_takeRow_5 (by decide) ?_
  obtain ⟨p1, hF⟩ := gd_some hF
  refine a_iast hZ.1 (hZ.2 32 0 (by decide) Nat.one_pos) rfl rfl (inb_vp p1) dX2_takeRow_6 ?_
  refine a_iconst (v := (0 : Int32)) dX2_takeRow_7 (by decide) ?_
  refine a_istore [(5, .int (0 : Int32)), (0, .ref (za Z 28 0)), (1, .ref (za Z t1 k1)), (2, .int a2), (3, .int a3), (4, .int a4)] dX2_takeRow_8 (by decide) rfl ?_
  refine a_loc [(0, .ref (za Z 28 0)), (1, .ref (za Z t1 k1)), (2, .int a2), (3, .int a3), (4, .int a4), (5, .int (0 : Int32))] [1, 2, 3, 4, 5, 0] rfl ?_
  exact w_X2_takeRow_10 (l := l) hZ hx1 ho1 ha1  fu (0 : Int32)  _ hF
theorem m_X2_takeRow {Z : ZE} {l : Launch} (hZ : OkX Z) {t1 : Nat} {k1 : Nat} {a2 : Int32} {a3 : Int32} {a4 : Int32} (hx1 : zx Z t1 k1) (ho1 : shO t1 = none) (ha1 : shA t1 = some (lna t1)) {s : St} {R : Int32 × St} (hF : F_X2_takeRow (zg Z) t1 k1 a2 a3 a4 s = some R) : Sp Z l yX2_takeRow iX2_takeRow [.ref (za Z 28 0), .ref (za Z t1 k1), .int a2, .int a3, .int a4] s (rI R) :=
  Sp.of (by decide) rfl (Nat.le_of_ble_eq_true rfl) (w_X2_takeRow hZ hx1 ho1 ha1 s hF)
-- X2_take
set_option maxRecDepth 100000 in
set_option maxHeartbeats 4000000 in
theorem w_X2_take_3 {Z : ZE} {l : Launch} (hZ : OkX Z) {t1 : Nat} {k1 : Nat} {a2 : Int32} {a3 : Int32} (hx1 : zx Z t1 k1) (ho1 : shO t1 = none) (ha1 : shA t1 = some (lna t1)) {R : Int32 × St}  : ∀ (n_ : Nat) (v4 : Int32)  (s : St), F_X2_take_3 (zg Z) t1 k1 a2 a3 n_ v4 s = some R → AW Z l iX2_take (Pq (rI R)) 0 0 3 [(0, .ref (za Z 28 0)), (1, .ref (za Z t1 k1)), (2, .int a2), (3, .int a3), (4, .int v4)] [] s := by
  intro n_
  induction n_ with
  | zero =>
    intro v4 s hF
    exact absurd hF (by rw [F_X2_take_3]; exact fun q => by cases q)
  | succ n_ w3_ =>
    intro v4 s hF
    rw [F_X2_take_3] at hF
    refine a_iload dX2_take_3 4 rfl ?_
    refine a_iload_n dX2_take_5 3 rfl rfl ?_
    refine a_icmp_ge 66 dX2_take_6 (by decide) (fun q1 => ?_) (fun q1 => ?_)
    · replace hF := (if_pos q1).symm.trans hF
      refine a_iconst (v := (1 : Int32)) dX2_take_66 (by decide) ?_
      replace hF := Option.some.inj hF
      subst hF
      exact a_zret rfl rfl (Nat.zero_le _) (Nat.zero_le _) dX2_take_67 ⟨rfl, rfl⟩
    · replace hF := (if_neg q1).symm.trans hF
      refine a_aload_n dX2_take_9 0 rfl rfl ?_
      refine a_getR hZ.1 (hZ.2 28 0 (by decide) Nat.one_pos) fl_X2_9 rfl 0 rfl dX2_take_10 ?_
      refine a_iload dX2_take_13 4 rfl ?_
      refine a_aload_n dX2_take_15 1 rfl rfl ?_
      refine a_iload_n dX2_take_16 2 rfl rfl ?_
      refine a_iload dX2_take_17 4 rfl ?_
      refine a_iadd dX2_take_19 ?_
      obtain ⟨p2, hF⟩ := gd_some hF
      refine a_iald hZ.1 (s t1 k1 (a2 + v4).toNatClampNeg) hx1 ho1 ha1 (inb_vp p2) rfl dX2_take_20 ?_
      obtain ⟨p3, hF⟩ := gd_some hF
      refine a_iast hZ.1 (hZ.2 29 0 (by decide) Nat.one_pos) rfl rfl (inb_vp p3) dX2_take_21 ?_
      refine a_aload_n dX2_take_22 0 rfl rfl ?_
      refine a_getR hZ.1 (hZ.2 28 0 (by decide) Nat.one_pos) fl_X2_9 rfl 0 rfl dX2_take_23 ?_
      refine a_iload dX2_take_26 4 rfl ?_
      obtain ⟨p4, hF⟩ := gd_some hF
      refine a_iald hZ.1 (s t1 k1 (a2 + v4).toNatClampNeg) (hZ.2 29 0 (by decide) Nat.one_pos) rfl rfl (inb_vp p4) (by simp [up]) dX2_take_28 ?_
      refine a_iconst (v := (0 : Int32)) dX2_take_29 (by decide) ?_
      refine a_sipush (v := (1000 : Int32)) dX2_take_30 (by decide) ?_
      obtain ⟨r33, s33, e33, hF⟩ := bd_some hF
      refine a_invN hZ.1 (As := [.int (s t1 k1 (a2 + v4).toNatClampNeg), .int (0 : Int32), .int (1000 : Int32)]) (rest := []) lk_X2_29 ⟨⟨by decide, by decide⟩, by decide, by decide⟩ rfl (Nat.le_of_ble_eq_true rfl) dX2_take_33 (m_X10_within hZ  e33) ?_
      show AW Z l iX2_take (Pq (rI R)) 0 0 36 [(0, .ref (za Z 28 0)), (1, .ref (za Z t1 k1)), (2, .int a2), (3, .int a3), (4, .int v4)] [.int r33] s33
      refine a_if_eq 58 dX2_take_36 (by decide) (fun q5 => ?_) (fun q5 => ?_)
      · replace hF := (if_pos q5).symm.trans hF
        refine a_iconst (v := (0 : Int32)) dX2_take_58 (by decide) ?_
        replace hF := Option.some.inj hF
        subst hF
        exact a_zret rfl rfl (Nat.zero_le _) (Nat.zero_le _) dX2_take_59 ⟨rfl, rfl⟩
      · replace hF := (if_neg q5).symm.trans hF
        refine a_aload_n dX2_take_39 0 rfl rfl ?_
        refine a_aload_n dX2_take_40 1 rfl rfl ?_
        refine a_iload_n dX2_take_41 2 rfl rfl ?_
        refine a_iload_n dX2_take_42 3 rfl rfl ?_
        refine a_iadd dX2_take_43 ?_
        refine a_iload dX2_take_44 4 rfl ?_
        refine a_iload_n dX2_take_46 3 rfl rfl ?_
        refine a_imul dX2_take_47 ?_
        refine a_iadd dX2_take_48 ?_
        refine a_iload dX2_take_49 4 rfl ?_
        refine a_iload_n dX2_take_51 3 rfl rfl ?_
        obtain ⟨r52, s52, e52, hF⟩ := bd_some hF
        refine a_invV hZ.1 (As := [.ref (za Z t1 k1), .int ((a2 + a3) + (v4 * a3)), .int v4, .int a3]) (rest := []) (hZ.2 28 0 (by decide) Nat.one_pos) lk_X2_33 ⟨⟨by decide, by decide⟩, by decide, by decide⟩ rfl (Nat.le_of_ble_eq_true rfl) dX2_take_52 (m_X2_takeRow hZ hx1 ho1 ha1 e52) ?_
        show AW Z l iX2_take (Pq (rI R)) 0 0 55 [(0, .ref (za Z 28 0)), (1, .ref (za Z t1 k1)), (2, .int a2), (3, .int a3), (4, .int v4)] [.int r52] s52
        refine a_if_ne 60 dX2_take_55 (by decide) (fun q6 => ?_) (fun q6 => ?_)
        · replace hF := (if_neg q6).symm.trans hF
          refine a_iinc [(4, .int (v4 + 1)), (0, .ref (za Z 28 0)), (1, .ref (za Z t1 k1)), (2, .int a2), (3, .int a3)] dX2_take_60 4 rfl rfl (by decide) rfl ?_
          refine a_goto 3 dX2_take_63 (by decide) ?_
          refine a_loc [(0, .ref (za Z 28 0)), (1, .ref (za Z t1 k1)), (2, .int a2), (3, .int a3), (4, .int (v4 + 1))] [1, 2, 3, 4, 0] rfl ?_
          exact w3_ (v4 + 1)  _ hF
        · replace hF := (if_pos q6).symm.trans hF
          refine a_iconst (v := (0 : Int32)) dX2_take_58 (by decide) ?_
          replace hF := Option.some.inj hF
          subst hF
          exact a_zret rfl rfl (Nat.zero_le _) (Nat.zero_le _) dX2_take_59 ⟨rfl, rfl⟩
set_option maxRecDepth 100000 in
set_option maxHeartbeats 4000000 in
theorem w_X2_take {Z : ZE} {l : Launch} (hZ : OkX Z) {t1 : Nat} {k1 : Nat} {a2 : Int32} {a3 : Int32} (hx1 : zx Z t1 k1) (ho1 : shO t1 = none) (ha1 : shA t1 = some (lna t1)) {R : Int32 × St}    (s : St) (hF : F_X2_take (zg Z) t1 k1 a2 a3  s = some R) : AW Z l iX2_take (Pq (rI R)) 0 0 0 [(0, .ref (za Z 28 0)), (1, .ref (za Z t1 k1)), (2, .int a2), (3, .int a3)] [] s := by
  unfold F_X2_take at hF
  refine a_iconst (v := (0 : Int32)) dX2_take_0 (by decide) ?_
  refine a_istore [(4, .int (0 : Int32)), (0, .ref (za Z 28 0)), (1, .ref (za Z t1 k1)), (2, .int a2), (3, .int a3)] dX2_take_1 (by decide) rfl ?_
  refine a_loc [(0, .ref (za Z 28 0)), (1, .ref (za Z t1 k1)), (2, .int a2), (3, .int a3), (4, .int (0 : Int32))] [1, 2, 3, 4, 0] rfl ?_
  exact w_X2_take_3 (l := l) hZ hx1 ho1 ha1  fu (0 : Int32)  _ hF
theorem m_X2_take {Z : ZE} {l : Launch} (hZ : OkX Z) {t1 : Nat} {k1 : Nat} {a2 : Int32} {a3 : Int32} (hx1 : zx Z t1 k1) (ho1 : shO t1 = none) (ha1 : shA t1 = some (lna t1)) {s : St} {R : Int32 × St} (hF : F_X2_take (zg Z) t1 k1 a2 a3 s = some R) : Sp Z l yX2_take iX2_take [.ref (za Z 28 0), .ref (za Z t1 k1), .int a2, .int a3] s (rI R) :=
  Sp.of (by decide) rfl (Nat.le_of_ble_eq_true rfl) (w_X2_take hZ hx1 ho1 ha1 s hF)
