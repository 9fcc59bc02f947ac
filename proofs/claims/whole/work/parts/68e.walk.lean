-- X10_stuff
set_option maxRecDepth 100000 in
set_option maxHeartbeats 4000000 in
theorem w_X10_stuff {Z : ZE} {l : Launch} (hZ : OkX Z) {a1 : Int32} {a2 : Int32} {a3 : Int32}  {R : Int32 × St}    (s : St) (hF : F_X10_stuff (zg Z) a1 a2 a3  s = some R) : AW Z l iX10_stuff (Pq (rI R)) 0 0 0 [(0, .ref (za Z 0 0)), (1, .int a1), (2, .int a2), (3, .int a3)] [] s := by
  unfold F_X10_stuff at hF
  refine a_iload_n dX10_stuff_0 2 rfl rfl ?_
  by_cases q1 : a2 = 0
  · replace hF := (if_pos q1).symm.trans hF
    refine a_tableIn 36 dX10_stuff_1 (by rw [q1]; decide) (by rw [q1]; decide) (by rw [q1]; rfl) (by decide) ?_
    refine a_iload_n dX10_stuff_36 3 rfl rfl ?_
    refine a_iconst (v := (1 : Int32)) dX10_stuff_37 (by decide) ?_
    refine a_sipush (v := (1000 : Int32)) dX10_stuff_38 (by decide) ?_
    obtain ⟨r41, s41, e41, hF⟩ := bd_some hF
    refine a_invS hZ.1 (As := [.int a3, .int (1 : Int32), .int (1000 : Int32)]) (rest := []) lk_X10_75 ⟨⟨by decide, by decide⟩, by decide, by decide⟩ rfl (Nat.le_of_ble_eq_true rfl) dX10_stuff_41 (m_X10_within hZ  e41) ?_
    show AW Z l iX10_stuff (Pq (rI R)) 0 0 44 [(0, .ref (za Z 0 0)), (1, .int a1), (2, .int a2), (3, .int a3)] [.int r41] s41
    refine a_if_eq 62 dX10_stuff_44 (by decide) (fun q2 => ?_) (fun q2 => ?_)
    · replace hF := (if_pos q2).symm.trans hF
      refine a_ldc (v := (-1000001)) kw_324 dX10_stuff_62 ?_
      replace hF := Option.some.inj hF
      subst hF
      exact a_iret rfl (Nat.zero_le _) (Nat.zero_le _) dX10_stuff_64 ⟨rfl, rfl⟩
    · replace hF := (if_neg q2).symm.trans hF
      refine a_aload_n dX10_stuff_47 0 rfl rfl ?_
      refine a_getR hZ.1 (hZ.2 0 0 (by decide) Nat.one_pos) fl_X10_18 rfl 0 rfl dX10_stuff_48 ?_
      refine a_getR hZ.1 (hZ.2 4 0 (by decide) Nat.one_pos) fl_X10_123 rfl 0 rfl dX10_stuff_51 ?_
      refine a_iload_n dX10_stuff_54 1 rfl rfl ?_
      refine a_iload_n dX10_stuff_55 3 rfl rfl ?_
      obtain ⟨r56, s56, e56, hF⟩ := bd_some hF
      refine a_invS hZ.1 (As := [.ref (za Z 5 0), .int a1, .int a3]) (rest := []) lk_X10_126 ⟨⟨by decide, by decide⟩, by decide, by decide⟩ rfl (Nat.le_of_ble_eq_true rfl) dX10_stuff_56 (m_X10_ofSort hZ (hZ.2 5 0 (by decide) Nat.one_pos) rfl rfl e56) ?_
      show AW Z l iX10_stuff (Pq (rI R)) 0 0 59 [(0, .ref (za Z 0 0)), (1, .int a1), (2, .int a2), (3, .int a3)] [.int r56] s56
      refine a_goto 64 dX10_stuff_59 (by decide) ?_
      replace hF := Option.some.inj hF
      subst hF
      exact a_iret rfl (Nat.zero_le _) (Nat.zero_le _) dX10_stuff_64 ⟨rfl, rfl⟩
  replace hF := (if_neg q1).symm.trans hF
  by_cases q3 : a2 = 1
  · replace hF := (if_pos q3).symm.trans hF
    refine a_tableIn 65 dX10_stuff_1 (by rw [q3]; decide) (by rw [q3]; decide) (by rw [q3]; rfl) (by decide) ?_
    refine a_iload_n dX10_stuff_65 3 rfl rfl ?_
    refine a_iconst (v := (0 : Int32)) dX10_stuff_66 (by decide) ?_
    refine a_bipush (v := (99 : Int32)) dX10_stuff_67 (by decide) ?_
    obtain ⟨r69, s69, e69, hF⟩ := bd_some hF
    refine a_invS hZ.1 (As := [.int a3, .int (0 : Int32), .int (99 : Int32)]) (rest := []) lk_X10_75 ⟨⟨by decide, by decide⟩, by decide, by decide⟩ rfl (Nat.le_of_ble_eq_true rfl) dX10_stuff_69 (m_X10_within hZ  e69) ?_
    show AW Z l iX10_stuff (Pq (rI R)) 0 0 72 [(0, .ref (za Z 0 0)), (1, .int a1), (2, .int a2), (3, .int a3)] [.int r69] s69
    refine a_if_eq 90 dX10_stuff_72 (by decide) (fun q4 => ?_) (fun q4 => ?_)
    · replace hF := (if_pos q4).symm.trans hF
      refine a_ldc (v := (-1000001)) kw_324 dX10_stuff_90 ?_
      replace hF := Option.some.inj hF
      subst hF
      exact a_iret rfl (Nat.zero_le _) (Nat.zero_le _) dX10_stuff_92 ⟨rfl, rfl⟩
    · replace hF := (if_neg q4).symm.trans hF
      refine a_aload_n dX10_stuff_75 0 rfl rfl ?_
      refine a_getR hZ.1 (hZ.2 0 0 (by decide) Nat.one_pos) fl_X10_18 rfl 0 rfl dX10_stuff_76 ?_
      refine a_getR hZ.1 (hZ.2 4 0 (by decide) Nat.one_pos) fl_X10_130 rfl 0 rfl dX10_stuff_79 ?_
      refine a_iload_n dX10_stuff_82 1 rfl rfl ?_
      refine a_iload_n dX10_stuff_83 3 rfl rfl ?_
      obtain ⟨r84, s84, e84, hF⟩ := bd_some hF
      refine a_invS hZ.1 (As := [.ref (za Z 6 0), .int a1, .int a3]) (rest := []) lk_X10_126 ⟨⟨by decide, by decide⟩, by decide, by decide⟩ rfl (Nat.le_of_ble_eq_true rfl) dX10_stuff_84 (m_X10_ofSort hZ (hZ.2 6 0 (by decide) Nat.one_pos) rfl rfl e84) ?_
      show AW Z l iX10_stuff (Pq (rI R)) 0 0 87 [(0, .ref (za Z 0 0)), (1, .int a1), (2, .int a2), (3, .int a3)] [.int r84] s84
      refine a_goto 92 dX10_stuff_87 (by decide) ?_
      replace hF := Option.some.inj hF
      subst hF
      exact a_iret rfl (Nat.zero_le _) (Nat.zero_le _) dX10_stuff_92 ⟨rfl, rfl⟩
  replace hF := (if_neg q3).symm.trans hF
  by_cases q5 : a2 = 2
  · replace hF := (if_pos q5).symm.trans hF
    refine a_tableIn 93 dX10_stuff_1 (by rw [q5]; decide) (by rw [q5]; decide) (by rw [q5]; rfl) (by decide) ?_
    refine a_iload_n dX10_stuff_93 3 rfl rfl ?_
    refine a_iconst (v := (0 : Int32)) dX10_stuff_94 (by decide) ?_
    refine a_sipush (v := (9999 : Int32)) dX10_stuff_95 (by decide) ?_
    obtain ⟨r98, s98, e98, hF⟩ := bd_some hF
    refine a_invS hZ.1 (As := [.int a3, .int (0 : Int32), .int (9999 : Int32)]) (rest := []) lk_X10_75 ⟨⟨by decide, by decide⟩, by decide, by decide⟩ rfl (Nat.le_of_ble_eq_true rfl) dX10_stuff_98 (m_X10_within hZ  e98) ?_
    show AW Z l iX10_stuff (Pq (rI R)) 0 0 101 [(0, .ref (za Z 0 0)), (1, .int a1), (2, .int a2), (3, .int a3)] [.int r98] s98
    refine a_if_eq 119 dX10_stuff_101 (by decide) (fun q6 => ?_) (fun q6 => ?_)
    · replace hF := (if_pos q6).symm.trans hF
      refine a_ldc (v := (-1000001)) kw_324 dX10_stuff_119 ?_
      replace hF := Option.some.inj hF
      subst hF
      exact a_iret rfl (Nat.zero_le _) (Nat.zero_le _) dX10_stuff_121 ⟨rfl, rfl⟩
    · replace hF := (if_neg q6).symm.trans hF
      refine a_aload_n dX10_stuff_104 0 rfl rfl ?_
      refine a_getR hZ.1 (hZ.2 0 0 (by decide) Nat.one_pos) fl_X10_18 rfl 0 rfl dX10_stuff_105 ?_
      refine a_getR hZ.1 (hZ.2 4 0 (by decide) Nat.one_pos) fl_X10_133 rfl 0 rfl dX10_stuff_108 ?_
      refine a_iload_n dX10_stuff_111 1 rfl rfl ?_
      refine a_iload_n dX10_stuff_112 3 rfl rfl ?_
      obtain ⟨r113, s113, e113, hF⟩ := bd_some hF
      refine a_invS hZ.1 (As := [.ref (za Z 7 0), .int a1, .int a3]) (rest := []) lk_X10_126 ⟨⟨by decide, by decide⟩, by decide, by decide⟩ rfl (Nat.le_of_ble_eq_true rfl) dX10_stuff_113 (m_X10_ofSort hZ (hZ.2 7 0 (by decide) Nat.one_pos) rfl rfl e113) ?_
      show AW Z l iX10_stuff (Pq (rI R)) 0 0 116 [(0, .ref (za Z 0 0)), (1, .int a1), (2, .int a2), (3, .int a3)] [.int r113] s113
      refine a_goto 121 dX10_stuff_116 (by decide) ?_
      replace hF := Option.some.inj hF
      subst hF
      exact a_iret rfl (Nat.zero_le _) (Nat.zero_le _) dX10_stuff_121 ⟨rfl, rfl⟩
  replace hF := (if_neg q5).symm.trans hF
  by_cases q7 : a2 = 3
  · replace hF := (if_pos q7).symm.trans hF
    refine a_tableIn 122 dX10_stuff_1 (by rw [q7]; decide) (by rw [q7]; decide) (by rw [q7]; rfl) (by decide) ?_
    refine a_iload_n dX10_stuff_122 3 rfl rfl ?_
    refine a_iconst (v := (0 : Int32)) dX10_stuff_123 (by decide) ?_
    refine a_sipush (v := (5000 : Int32)) dX10_stuff_124 (by decide) ?_
    obtain ⟨r127, s127, e127, hF⟩ := bd_some hF
    refine a_invS hZ.1 (As := [.int a3, .int (0 : Int32), .int (5000 : Int32)]) (rest := []) lk_X10_75 ⟨⟨by decide, by decide⟩, by decide, by decide⟩ rfl (Nat.le_of_ble_eq_true rfl) dX10_stuff_127 (m_X10_within hZ  e127) ?_
    show AW Z l iX10_stuff (Pq (rI R)) 0 0 130 [(0, .ref (za Z 0 0)), (1, .int a1), (2, .int a2), (3, .int a3)] [.int r127] s127
    refine a_if_eq 144 dX10_stuff_130 (by decide) (fun q8 => ?_) (fun q8 => ?_)
    · replace hF := (if_pos q8).symm.trans hF
      refine a_ldc (v := (-1000001)) kw_324 dX10_stuff_144 ?_
      replace hF := Option.some.inj hF
      subst hF
      exact a_iret rfl (Nat.zero_le _) (Nat.zero_le _) dX10_stuff_146 ⟨rfl, rfl⟩
    · replace hF := (if_neg q8).symm.trans hF
      refine a_aload_n dX10_stuff_133 0 rfl rfl ?_
      refine a_getR hZ.1 (hZ.2 0 0 (by decide) Nat.one_pos) fl_X10_18 rfl 0 rfl dX10_stuff_134 ?_
      refine a_iload_n dX10_stuff_137 3 rfl rfl ?_
      obtain ⟨r138, s138, e138, hF⟩ := bd_some hF
      refine a_invV hZ.1 (As := [.int a3]) (rest := []) (hZ.2 4 0 (by decide) Nat.one_pos) lk_X10_136 ⟨⟨by decide, by decide⟩, by decide, by decide⟩ rfl (Nat.le_of_ble_eq_true rfl) dX10_stuff_138 (m_X1_changeCloth hZ  e138) ?_
      show AW Z l iX10_stuff (Pq (rI R)) 0 0 141 [(0, .ref (za Z 0 0)), (1, .int a1), (2, .int a2), (3, .int a3)] [.int r138] s138
      refine a_goto 146 dX10_stuff_141 (by decide) ?_
      replace hF := Option.some.inj hF
      subst hF
      exact a_iret rfl (Nat.zero_le _) (Nat.zero_le _) dX10_stuff_146 ⟨rfl, rfl⟩
  replace hF := (if_neg q7).symm.trans hF
  by_cases q9 : a2 = 4
  · replace hF := (if_pos q9).symm.trans hF
    refine a_tableIn 147 dX10_stuff_1 (by rw [q9]; decide) (by rw [q9]; decide) (by rw [q9]; rfl) (by decide) ?_
    refine a_iload_n dX10_stuff_147 3 rfl rfl ?_
    refine a_iconst (v := (0 : Int32)) dX10_stuff_148 (by decide) ?_
    refine a_bipush (v := (100 : Int32)) dX10_stuff_149 (by decide) ?_
    obtain ⟨r151, s151, e151, hF⟩ := bd_some hF
    refine a_invS hZ.1 (As := [.int a3, .int (0 : Int32), .int (100 : Int32)]) (rest := []) lk_X10_75 ⟨⟨by decide, by decide⟩, by decide, by decide⟩ rfl (Nat.le_of_ble_eq_true rfl) dX10_stuff_151 (m_X10_within hZ  e151) ?_
    show AW Z l iX10_stuff (Pq (rI R)) 0 0 154 [(0, .ref (za Z 0 0)), (1, .int a1), (2, .int a2), (3, .int a3)] [.int r151] s151
    refine a_if_eq 168 dX10_stuff_154 (by decide) (fun q10 => ?_) (fun q10 => ?_)
    · replace hF := (if_pos q10).symm.trans hF
      refine a_ldc (v := (-1000001)) kw_324 dX10_stuff_168 ?_
      replace hF := Option.some.inj hF
      subst hF
      exact a_iret rfl (Nat.zero_le _) (Nat.zero_le _) dX10_stuff_170 ⟨rfl, rfl⟩
    · replace hF := (if_neg q10).symm.trans hF
      refine a_aload_n dX10_stuff_157 0 rfl rfl ?_
      refine a_getR hZ.1 (hZ.2 0 0 (by decide) Nat.one_pos) fl_X10_18 rfl 0 rfl dX10_stuff_158 ?_
      refine a_iload_n dX10_stuff_161 3 rfl rfl ?_
      obtain ⟨r162, s162, e162, hF⟩ := bd_some hF
      refine a_invV hZ.1 (As := [.int a3]) (rest := []) (hZ.2 4 0 (by decide) Nat.one_pos) lk_X10_139 ⟨⟨by decide, by decide⟩, by decide, by decide⟩ rfl (Nat.le_of_ble_eq_true rfl) dX10_stuff_162 (m_X1_changeFear hZ  e162) ?_
      show AW Z l iX10_stuff (Pq (rI R)) 0 0 165 [(0, .ref (za Z 0 0)), (1, .int a1), (2, .int a2), (3, .int a3)] [.int r162] s162
      refine a_goto 170 dX10_stuff_165 (by decide) ?_
      replace hF := Option.some.inj hF
      subst hF
      exact a_iret rfl (Nat.zero_le _) (Nat.zero_le _) dX10_stuff_170 ⟨rfl, rfl⟩
  replace hF := (if_neg q9).symm.trans hF
  refine a_tableOut 171 dX10_stuff_1 (by have n0 : (a2).toInt ≠ 0 := ne_ti q1; have n1 : (a2).toInt ≠ 1 := ne_ti q3; have n2 : (a2).toInt ≠ 2 := ne_ti q5; have n3 : (a2).toInt ≠ 3 := ne_ti q7; have n4 : (a2).toInt ≠ 4 := ne_ti q9; omega) (by decide) ?_
  refine a_ldc (v := (-1000001)) kw_324 dX10_stuff_171 ?_
  replace hF := Option.some.inj hF
  subst hF
  exact a_iret rfl (Nat.zero_le _) (Nat.zero_le _) dX10_stuff_173 ⟨rfl, rfl⟩
theorem m_X10_stuff {Z : ZE} {l : Launch} (hZ : OkX Z) {a1 : Int32} {a2 : Int32} {a3 : Int32}  {s : St} {R : Int32 × St} (hF : F_X10_stuff (zg Z) a1 a2 a3 s = some R) : Sp Z l yX10_stuff iX10_stuff [.ref (za Z 0 0), .int a1, .int a2, .int a3] s (rI R) :=
  Sp.of (by decide) rfl (Nat.le_of_ble_eq_true rfl) (w_X10_stuff hZ  s hF)
-- X10_thing
set_option maxRecDepth 100000 in
set_option maxHeartbeats 4000000 in
theorem w_X10_thing {Z : ZE} {l : Launch} (hZ : OkX Z) {a1 : Int32} {a2 : Int32} {a3 : Int32}  {R : Int32 × St}    (s : St) (hF : F_X10_thing (zg Z) a1 a2 a3  s = some R) : AW Z l iX10_thing (Pq (rI R)) 0 0 0 [(0, .ref (za Z 0 0)), (1, .int a1), (2, .int a2), (3, .int a3)] [] s := by
  unfold F_X10_thing at hF
  refine a_iload_n dX10_thing_0 1 rfl rfl ?_
  refine a_iconst (v := (0 : Int32)) dX10_thing_1 (by decide) ?_
  refine a_iconst (v := (5 : Int32)) dX10_thing_2 (by decide) ?_
  obtain ⟨r3, s3, e3, hF⟩ := bd_some hF
  refine a_invS hZ.1 (As := [.int a1, .int (0 : Int32), .int (5 : Int32)]) (rest := []) lk_X10_75 ⟨⟨by decide, by decide⟩, by decide, by decide⟩ rfl (Nat.le_of_ble_eq_true rfl) dX10_thing_3 (m_X10_within hZ  e3) ?_
  show AW Z l iX10_thing (Pq (rI R)) 0 0 6 [(0, .ref (za Z 0 0)), (1, .int a1), (2, .int a2), (3, .int a3)] [.int r3] s3
  refine a_if_eq 32 dX10_thing_6 (by decide) (fun q1 => ?_) (fun q1 => ?_)
  · replace hF := (if_pos q1).symm.trans hF
    refine a_ldc (v := (-1000001)) kw_324 dX10_thing_32 ?_
    replace hF := Option.some.inj hF
    subst hF
    exact a_iret rfl (Nat.zero_le _) (Nat.zero_le _) dX10_thing_34 ⟨rfl, rfl⟩
  · replace hF := (if_neg q1).symm.trans hF
    refine a_iload_n dX10_thing_9 2 rfl rfl ?_
    refine a_iconst (v := (0 : Int32)) dX10_thing_10 (by decide) ?_
    refine a_sipush (v := (999 : Int32)) dX10_thing_11 (by decide) ?_
    obtain ⟨r14, s14, e14, hF⟩ := bd_some hF
    refine a_invS hZ.1 (As := [.int a2, .int (0 : Int32), .int (999 : Int32)]) (rest := []) lk_X10_75 ⟨⟨by decide, by decide⟩, by decide, by decide⟩ rfl (Nat.le_of_ble_eq_true rfl) dX10_thing_14 (m_X10_within hZ  e14) ?_
    show AW Z l iX10_thing (Pq (rI R)) 0 0 17 [(0, .ref (za Z 0 0)), (1, .int a1), (2, .int a2), (3, .int a3)] [.int r14] s14
    refine a_if_eq 32 dX10_thing_17 (by decide) (fun q2 => ?_) (fun q2 => ?_)
    · replace hF := (if_pos q2).symm.trans hF
      refine a_ldc (v := (-1000001)) kw_324 dX10_thing_32 ?_
      replace hF := Option.some.inj hF
      subst hF
      exact a_iret rfl (Nat.zero_le _) (Nat.zero_le _) dX10_thing_34 ⟨rfl, rfl⟩
    · replace hF := (if_neg q2).symm.trans hF
      refine a_aload_n dX10_thing_20 0 rfl rfl ?_
      refine a_getR hZ.1 (hZ.2 0 0 (by decide) Nat.one_pos) fl_X10_59 rfl 0 rfl dX10_thing_21 ?_
      refine a_iload_n dX10_thing_24 1 rfl rfl ?_
      refine a_iload_n dX10_thing_25 3 rfl rfl ?_
      obtain ⟨r26, s26, e26, hF⟩ := bd_some hF
      refine a_invV hZ.1 (As := [.int a1, .int a3]) (rest := []) (hZ.2 38 0 (by decide) Nat.one_pos) lk_X10_255 ⟨⟨by decide, by decide⟩, by decide, by decide⟩ rfl (Nat.le_of_ble_eq_true rfl) dX10_thing_26 (m_X0_canBeMadeOf hZ  e26) ?_
      show AW Z l iX10_thing (Pq (rI R)) 0 0 29 [(0, .ref (za Z 0 0)), (1, .int a1), (2, .int a2), (3, .int a3)] [.int r26] s26
      refine a_if_ne 35 dX10_thing_29 (by decide) (fun q3 => ?_) (fun q3 => ?_)
      · replace hF := (if_neg q3).symm.trans hF
        refine a_aload_n dX10_thing_35 0 rfl rfl ?_
        refine a_getR hZ.1 (hZ.2 0 0 (by decide) Nat.one_pos) fl_X10_59 rfl 0 rfl dX10_thing_36 ?_
        refine a_iload_n dX10_thing_39 1 rfl rfl ?_
        refine a_iload_n dX10_thing_40 2 rfl rfl ?_
        refine a_iload_n dX10_thing_41 3 rfl rfl ?_
        obtain ⟨r42, s42, e42, hF⟩ := bd_some hF
        refine a_invV hZ.1 (As := [.int a1, .int a2, .int a3]) (rest := []) (hZ.2 38 0 (by decide) Nat.one_pos) lk_X10_258 ⟨⟨by decide, by decide⟩, by decide, by decide⟩ rfl (Nat.le_of_ble_eq_true rfl) dX10_thing_42 (m_X0_addThing hZ  e42) ?_
        show AW Z l iX10_thing (Pq (rI R)) 0 0 45 [(0, .ref (za Z 0 0)), (1, .int a1), (2, .int a2), (3, .int a3)] [.int r42] s42
        replace hF := Option.some.inj hF
        subst hF
        exact a_iret rfl (Nat.zero_le _) (Nat.zero_le _) dX10_thing_45 ⟨rfl, rfl⟩
      · replace hF := (if_pos q3).symm.trans hF
        refine a_ldc (v := (-1000001)) kw_324 dX10_thing_32 ?_
        replace hF := Option.some.inj hF
        subst hF
        exact a_iret rfl (Nat.zero_le _) (Nat.zero_le _) dX10_thing_34 ⟨rfl, rfl⟩
theorem m_X10_thing {Z : ZE} {l : Launch} (hZ : OkX Z) {a1 : Int32} {a2 : Int32} {a3 : Int32}  {s : St} {R : Int32 × St} (hF : F_X10_thing (zg Z) a1 a2 a3 s = some R) : Sp Z l yX10_thing iX10_thing [.ref (za Z 0 0), .int a1, .int a2, .int a3] s (rI R) :=
  Sp.of (by decide) rfl (Nat.le_of_ble_eq_true rfl) (w_X10_thing hZ  s hF)
-- X4_tells
set_option maxRecDepth 100000 in
set_option maxHeartbeats 4000000 in
theorem w_X4_tells {Z : ZE} {l : Launch} (hZ : OkX Z) {k0 : Nat} {a1 : Int32} (h0 : k0 < shN (zg Z) 14) {R : Int32 × St}    (s : St) (hF : F_X4_tells (zg Z) k0 a1  s = some R) : AW Z l iX4_tells (Pq (rI R)) 0 0 0 [(0, .ref (za Z 14 k0)), (1, .int a1)] [] s := by
  unfold F_X4_tells at hF
  refine a_iload_n dX4_tells_0 1 rfl rfl ?_
  by_cases q1 : a1 = 0
  · replace hF := (if_pos q1).symm.trans hF
    refine a_tableIn 56 dX4_tells_1 (by rw [q1]; decide) (by rw [q1]; decide) (by rw [q1]; rfl) (by decide) ?_
    refine a_aload_n dX4_tells_56 0 rfl rfl ?_
    refine a_getI hZ.1 (s 14 k0 0) (hZ.2 14 k0 (by decide) h0) fl_X4_18 rfl rfl dX4_tells_57 ?_
    replace hF := Option.some.inj hF
    subst hF
    exact a_iret rfl (Nat.zero_le _) (Nat.zero_le _) dX4_tells_60 ⟨rfl, rfl⟩
  replace hF := (if_neg q1).symm.trans hF
  by_cases q2 : a1 = 1
  · replace hF := (if_pos q2).symm.trans hF
    refine a_tableIn 61 dX4_tells_1 (by rw [q2]; decide) (by rw [q2]; decide) (by rw [q2]; rfl) (by decide) ?_
    refine a_aload_n dX4_tells_61 0 rfl rfl ?_
    refine a_getI hZ.1 (s 14 k0 1) (hZ.2 14 k0 (by decide) h0) fl_X4_22 rfl rfl dX4_tells_62 ?_
    replace hF := Option.some.inj hF
    subst hF
    exact a_iret rfl (Nat.zero_le _) (Nat.zero_le _) dX4_tells_65 ⟨rfl, rfl⟩
  replace hF := (if_neg q2).symm.trans hF
  by_cases q3 : a1 = 2
  · replace hF := (if_pos q3).symm.trans hF
    refine a_tableIn 66 dX4_tells_1 (by rw [q3]; decide) (by rw [q3]; decide) (by rw [q3]; rfl) (by decide) ?_
    refine a_aload_n dX4_tells_66 0 rfl rfl ?_
    refine a_getI hZ.1 (s 14 k0 2) (hZ.2 14 k0 (by decide) h0) fl_X4_25 rfl rfl dX4_tells_67 ?_
    replace hF := Option.some.inj hF
    subst hF
    exact a_iret rfl (Nat.zero_le _) (Nat.zero_le _) dX4_tells_70 ⟨rfl, rfl⟩
  replace hF := (if_neg q3).symm.trans hF
  by_cases q4 : a1 = 3
  · replace hF := (if_pos q4).symm.trans hF
    refine a_tableIn 71 dX4_tells_1 (by rw [q4]; decide) (by rw [q4]; decide) (by rw [q4]; rfl) (by decide) ?_
    refine a_aload_n dX4_tells_71 0 rfl rfl ?_
    refine a_getI hZ.1 (s 14 k0 3) (hZ.2 14 k0 (by decide) h0) fl_X4_28 rfl rfl dX4_tells_72 ?_
    replace hF := Option.some.inj hF
    subst hF
    exact a_iret rfl (Nat.zero_le _) (Nat.zero_le _) dX4_tells_75 ⟨rfl, rfl⟩
  replace hF := (if_neg q4).symm.trans hF
  by_cases q5 : a1 = 8
  · replace hF := (if_pos q5).symm.trans hF
    refine a_tableIn 76 dX4_tells_1 (by rw [q5]; decide) (by rw [q5]; decide) (by rw [q5]; rfl) (by decide) ?_
    refine a_aload_n dX4_tells_76 0 rfl rfl ?_
    refine a_getI hZ.1 (s 14 k0 6) (hZ.2 14 k0 (by decide) h0) fl_X4_40 rfl rfl dX4_tells_77 ?_
    replace hF := Option.some.inj hF
    subst hF
    exact a_iret rfl (Nat.zero_le _) (Nat.zero_le _) dX4_tells_80 ⟨rfl, rfl⟩
  replace hF := (if_neg q5).symm.trans hF
  by_cases q6 : a1 = 9
  · replace hF := (if_pos q6).symm.trans hF
    refine a_tableIn 81 dX4_tells_1 (by rw [q6]; decide) (by rw [q6]; decide) (by rw [q6]; rfl) (by decide) ?_
    refine a_aload_n dX4_tells_81 0 rfl rfl ?_
    refine a_getI hZ.1 (s 14 k0 7) (hZ.2 14 k0 (by decide) h0) fl_X4_49 rfl rfl dX4_tells_82 ?_
    replace hF := Option.some.inj hF
    subst hF
    exact a_iret rfl (Nat.zero_le _) (Nat.zero_le _) dX4_tells_85 ⟨rfl, rfl⟩
  replace hF := (if_neg q6).symm.trans hF
  by_cases q7 : a1 = 4
  · refine a_tableIn 86 dX4_tells_1 (by rw [q7]; decide) (by rw [q7]; decide) (by rw [q7]; rfl) (by decide) ?_
    refine a_iload_n dX4_tells_86 1 rfl rfl ?_
    refine a_iconst (v := (4 : Int32)) dX4_tells_87 (by decide) ?_
    refine a_bipush (v := (7 : Int32)) dX4_tells_88 (by decide) ?_
    obtain ⟨r90, s90, e90, hF⟩ := bd_some hF
    refine a_invN hZ.1 (As := [.int a1, .int (4 : Int32), .int (7 : Int32)]) (rest := []) lk_X4_52 ⟨⟨by decide, by decide⟩, by decide, by decide⟩ rfl (Nat.le_of_ble_eq_true rfl) dX4_tells_90 (m_X10_within hZ  e90) ?_
    show AW Z l iX4_tells (Pq (rI R)) 0 0 93 [(0, .ref (za Z 14 k0)), (1, .int a1)] [.int r90] s90
    refine a_if_eq 107 dX4_tells_93 (by decide) (fun q8 => ?_) (fun q8 => ?_)
    · replace hF := (if_pos q8).symm.trans hF
      refine a_ldc (v := (-1000001)) kw_467 dX4_tells_107 ?_
      replace hF := Option.some.inj hF
      subst hF
      exact a_iret rfl (Nat.zero_le _) (Nat.zero_le _) dX4_tells_109 ⟨rfl, rfl⟩
    · replace hF := (if_neg q8).symm.trans hF
      refine a_aload_n dX4_tells_96 0 rfl rfl ?_
      refine a_getR hZ.1 (hZ.2 14 k0 (by decide) h0) fl_X4_9 rfl k0 rfl dX4_tells_97 ?_
      refine a_iload_n dX4_tells_100 1 rfl rfl ?_
      refine a_iconst (v := (4 : Int32)) dX4_tells_101 (by decide) ?_
      refine a_isub dX4_tells_102 ?_
      obtain ⟨p9, hF⟩ := gd_some hF
      refine a_iald hZ.1 (s90 15 k0 (a1 - (4 : Int32)).toNatClampNeg) (hZ.2 15 k0 (by decide) h0) rfl rfl (inb_vp p9) rfl dX4_tells_103 ?_
      refine a_goto 109 dX4_tells_104 (by decide) ?_
      replace hF := Option.some.inj hF
      subst hF
      exact a_iret rfl (Nat.zero_le _) (Nat.zero_le _) dX4_tells_109 ⟨rfl, rfl⟩
  by_cases q10 : a1 = 5
  · refine a_tableIn 86 dX4_tells_1 (by rw [q10]; decide) (by rw [q10]; decide) (by rw [q10]; rfl) (by decide) ?_
    refine a_iload_n dX4_tells_86 1 rfl rfl ?_
    refine a_iconst (v := (4 : Int32)) dX4_tells_87 (by decide) ?_
    refine a_bipush (v := (7 : Int32)) dX4_tells_88 (by decide) ?_
    obtain ⟨r90, s90, e90, hF⟩ := bd_some hF
    refine a_invN hZ.1 (As := [.int a1, .int (4 : Int32), .int (7 : Int32)]) (rest := []) lk_X4_52 ⟨⟨by decide, by decide⟩, by decide, by decide⟩ rfl (Nat.le_of_ble_eq_true rfl) dX4_tells_90 (m_X10_within hZ  e90) ?_
    show AW Z l iX4_tells (Pq (rI R)) 0 0 93 [(0, .ref (za Z 14 k0)), (1, .int a1)] [.int r90] s90
    refine a_if_eq 107 dX4_tells_93 (by decide) (fun q11 => ?_) (fun q11 => ?_)
    · replace hF := (if_pos q11).symm.trans hF
      refine a_ldc (v := (-1000001)) kw_467 dX4_tells_107 ?_
      replace hF := Option.some.inj hF
      subst hF
      exact a_iret rfl (Nat.zero_le _) (Nat.zero_le _) dX4_tells_109 ⟨rfl, rfl⟩
    · replace hF := (if_neg q11).symm.trans hF
      refine a_aload_n dX4_tells_96 0 rfl rfl ?_
      refine a_getR hZ.1 (hZ.2 14 k0 (by decide) h0) fl_X4_9 rfl k0 rfl dX4_tells_97 ?_
      refine a_iload_n dX4_tells_100 1 rfl rfl ?_
      refine a_iconst (v := (4 : Int32)) dX4_tells_101 (by decide) ?_
      refine a_isub dX4_tells_102 ?_
      obtain ⟨p12, hF⟩ := gd_some hF
      refine a_iald hZ.1 (s90 15 k0 (a1 - (4 : Int32)).toNatClampNeg) (hZ.2 15 k0 (by decide) h0) rfl rfl (inb_vp p12) rfl dX4_tells_103 ?_
      refine a_goto 109 dX4_tells_104 (by decide) ?_
      replace hF := Option.some.inj hF
      subst hF
      exact a_iret rfl (Nat.zero_le _) (Nat.zero_le _) dX4_tells_109 ⟨rfl, rfl⟩
  by_cases q13 : a1 = 6
  · refine a_tableIn 86 dX4_tells_1 (by rw [q13]; decide) (by rw [q13]; decide) (by rw [q13]; rfl) (by decide) ?_
    refine a_iload_n dX4_tells_86 1 rfl rfl ?_
    refine a_iconst (v := (4 : Int32)) dX4_tells_87 (by decide) ?_
    refine a_bipush (v := (7 : Int32)) dX4_tells_88 (by decide) ?_
    obtain ⟨r90, s90, e90, hF⟩ := bd_some hF
    refine a_invN hZ.1 (As := [.int a1, .int (4 : Int32), .int (7 : Int32)]) (rest := []) lk_X4_52 ⟨⟨by decide, by decide⟩, by decide, by decide⟩ rfl (Nat.le_of_ble_eq_true rfl) dX4_tells_90 (m_X10_within hZ  e90) ?_
    show AW Z l iX4_tells (Pq (rI R)) 0 0 93 [(0, .ref (za Z 14 k0)), (1, .int a1)] [.int r90] s90
    refine a_if_eq 107 dX4_tells_93 (by decide) (fun q14 => ?_) (fun q14 => ?_)
    · replace hF := (if_pos q14).symm.trans hF
      refine a_ldc (v := (-1000001)) kw_467 dX4_tells_107 ?_
      replace hF := Option.some.inj hF
      subst hF
      exact a_iret rfl (Nat.zero_le _) (Nat.zero_le _) dX4_tells_109 ⟨rfl, rfl⟩
    · replace hF := (if_neg q14).symm.trans hF
      refine a_aload_n dX4_tells_96 0 rfl rfl ?_
      refine a_getR hZ.1 (hZ.2 14 k0 (by decide) h0) fl_X4_9 rfl k0 rfl dX4_tells_97 ?_
      refine a_iload_n dX4_tells_100 1 rfl rfl ?_
      refine a_iconst (v := (4 : Int32)) dX4_tells_101 (by decide) ?_
      refine a_isub dX4_tells_102 ?_
      obtain ⟨p15, hF⟩ := gd_some hF
      refine a_iald hZ.1 (s90 15 k0 (a1 - (4 : Int32)).toNatClampNeg) (hZ.2 15 k0 (by decide) h0) rfl rfl (inb_vp p15) rfl dX4_tells_103 ?_
      refine a_goto 109 dX4_tells_104 (by decide) ?_
      replace hF := Option.some.inj hF
      subst hF
      exact a_iret rfl (Nat.zero_le _) (Nat.zero_le _) dX4_tells_109 ⟨rfl, rfl⟩
  by_cases q16 : a1 = 7
  · refine a_tableIn 86 dX4_tells_1 (by rw [q16]; decide) (by rw [q16]; decide) (by rw [q16]; rfl) (by decide) ?_
    refine a_iload_n dX4_tells_86 1 rfl rfl ?_
    refine a_iconst (v := (4 : Int32)) dX4_tells_87 (by decide) ?_
    refine a_bipush (v := (7 : Int32)) dX4_tells_88 (by decide) ?_
    obtain ⟨r90, s90, e90, hF⟩ := bd_some hF
    refine a_invN hZ.1 (As := [.int a1, .int (4 : Int32), .int (7 : Int32)]) (rest := []) lk_X4_52 ⟨⟨by decide, by decide⟩, by decide, by decide⟩ rfl (Nat.le_of_ble_eq_true rfl) dX4_tells_90 (m_X10_within hZ  e90) ?_
    show AW Z l iX4_tells (Pq (rI R)) 0 0 93 [(0, .ref (za Z 14 k0)), (1, .int a1)] [.int r90] s90
    refine a_if_eq 107 dX4_tells_93 (by decide) (fun q17 => ?_) (fun q17 => ?_)
    · replace hF := (if_pos q17).symm.trans hF
      refine a_ldc (v := (-1000001)) kw_467 dX4_tells_107 ?_
      replace hF := Option.some.inj hF
      subst hF
      exact a_iret rfl (Nat.zero_le _) (Nat.zero_le _) dX4_tells_109 ⟨rfl, rfl⟩
    · replace hF := (if_neg q17).symm.trans hF
      refine a_aload_n dX4_tells_96 0 rfl rfl ?_
      refine a_getR hZ.1 (hZ.2 14 k0 (by decide) h0) fl_X4_9 rfl k0 rfl dX4_tells_97 ?_
      refine a_iload_n dX4_tells_100 1 rfl rfl ?_
      refine a_iconst (v := (4 : Int32)) dX4_tells_101 (by decide) ?_
      refine a_isub dX4_tells_102 ?_
      obtain ⟨p18, hF⟩ := gd_some hF
      refine a_iald hZ.1 (s90 15 k0 (a1 - (4 : Int32)).toNatClampNeg) (hZ.2 15 k0 (by decide) h0) rfl rfl (inb_vp p18) rfl dX4_tells_103 ?_
      refine a_goto 109 dX4_tells_104 (by decide) ?_
      replace hF := Option.some.inj hF
      subst hF
      exact a_iret rfl (Nat.zero_le _) (Nat.zero_le _) dX4_tells_109 ⟨rfl, rfl⟩
  refine a_tableOut 86 dX4_tells_1 (by have n0 : (a1).toInt ≠ 0 := ne_ti q1; have n1 : (a1).toInt ≠ 1 := ne_ti q2; have n2 : (a1).toInt ≠ 2 := ne_ti q3; have n3 : (a1).toInt ≠ 3 := ne_ti q4; have n8 : (a1).toInt ≠ 8 := ne_ti q5; have n9 : (a1).toInt ≠ 9 := ne_ti q6; have n4 : (a1).toInt ≠ 4 := ne_ti q7; have n5 : (a1).toInt ≠ 5 := ne_ti q10; have n6 : (a1).toInt ≠ 6 := ne_ti q13; have n7 : (a1).toInt ≠ 7 := ne_ti q16; omega) (by decide) ?_
  refine a_iload_n dX4_tells_86 1 rfl rfl ?_
  refine a_iconst (v := (4 : Int32)) dX4_tells_87 (by decide) ?_
  refine a_bipush (v := (7 : Int32)) dX4_tells_88 (by decide) ?_
  obtain ⟨r90, s90, e90, hF⟩ := bd_some hF
  refine a_invN hZ.1 (As := [.int a1, .int (4 : Int32), .int (7 : Int32)]) (rest := []) lk_X4_52 ⟨⟨by decide, by decide⟩, by decide, by decide⟩ rfl (Nat.le_of_ble_eq_true rfl) dX4_tells_90 (m_X10_within hZ  e90) ?_
  show AW Z l iX4_tells (Pq (rI R)) 0 0 93 [(0, .ref (za Z 14 k0)), (1, .int a1)] [.int r90] s90
  refine a_if_eq 107 dX4_tells_93 (by decide) (fun q19 => ?_) (fun q19 => ?_)
  · replace hF := (if_pos q19).symm.trans hF
    refine a_ldc (v := (-1000001)) kw_467 dX4_tells_107 ?_
    replace hF := Option.some.inj hF
    subst hF
    exact a_iret rfl (Nat.zero_le _) (Nat.zero_le _) dX4_tells_109 ⟨rfl, rfl⟩
  · replace hF := (if_neg q19).symm.trans hF
    refine a_aload_n dX4_tells_96 0 rfl rfl ?_
    refine a_getR hZ.1 (hZ.2 14 k0 (by decide) h0) fl_X4_9 rfl k0 rfl dX4_tells_97 ?_
    refine a_iload_n dX4_tells_100 1 rfl rfl ?_
    refine a_iconst (v := (4 : Int32)) dX4_tells_101 (by decide) ?_
    refine a_isub dX4_tells_102 ?_
    obtain ⟨p20, hF⟩ := gd_some hF
    refine a_iald hZ.1 (s90 15 k0 (a1 - (4 : Int32)).toNatClampNeg) (hZ.2 15 k0 (by decide) h0) rfl rfl (inb_vp p20) rfl dX4_tells_103 ?_
    refine a_goto 109 dX4_tells_104 (by decide) ?_
    replace hF := Option.some.inj hF
    subst hF
    exact a_iret rfl (Nat.zero_le _) (Nat.zero_le _) dX4_tells_109 ⟨rfl, rfl⟩
theorem m_X4_tells {Z : ZE} {l : Launch} (hZ : OkX Z) {k0 : Nat} {a1 : Int32} (h0 : k0 < shN (zg Z) 14) {s : St} {R : Int32 × St} (hF : F_X4_tells (zg Z) k0 a1 s = some R) : Sp Z l yX4_tells iX4_tells [.ref (za Z 14 k0), .int a1] s (rI R) :=
  Sp.of (by decide) rfl (Nat.le_of_ble_eq_true rfl) (w_X4_tells hZ h0 s hF)
-- X10_told
set_option maxRecDepth 100000 in
set_option maxHeartbeats 4000000 in
theorem w_X10_told {Z : ZE} {l : Launch} (hZ : OkX Z) {a1 : Int32} {a2 : Int32}  {R : Int32 × St}    (s : St) (hF : F_X10_told (zg Z) a1 a2  s = some R) : AW Z l iX10_told (Pq (rI R)) 0 0 0 [(0, .ref (za Z 0 0)), (1, .int a1), (2, .int a2)] [] s := by
  unfold F_X10_told at hF
  refine a_aload_n dX10_told_0 0 rfl rfl ?_
  refine a_getR hZ.1 (hZ.2 0 0 (by decide) Nat.one_pos) fl_X10_18 rfl 0 rfl dX10_told_1 ?_
  refine a_iload_n dX10_told_4 1 rfl rfl ?_
  obtain ⟨r5, s5, e5, hF⟩ := bd_some hF
  refine a_invV hZ.1 (As := [.int a1]) (rest := []) (hZ.2 4 0 (by decide) Nat.one_pos) lk_X10_155 ⟨⟨by decide, by decide⟩, by decide, by decide⟩ rfl (Nat.le_of_ble_eq_true rfl) dX10_told_5 (m_X1_hasMill hZ  e5) ?_
  show AW Z l iX10_told (Pq (rI R)) 0 0 8 [(0, .ref (za Z 0 0)), (1, .int a1), (2, .int a2)] [.int r5] s5
  refine a_if_eq 21 dX10_told_8 (by decide) (fun q1 => ?_) (fun q1 => ?_)
  · replace hF := (if_pos q1).symm.trans hF
    refine a_ldc (v := (-1000001)) kw_324 dX10_told_21 ?_
    replace hF := Option.some.inj hF
    subst hF
    exact a_iret rfl (Nat.zero_le _) (Nat.zero_le _) dX10_told_23 ⟨rfl, rfl⟩
  · replace hF := (if_neg q1).symm.trans hF
    refine a_iload_n dX10_told_11 2 rfl rfl ?_
    refine a_iconst (v := (0 : Int32)) dX10_told_12 (by decide) ?_
    refine a_bipush (v := (9 : Int32)) dX10_told_13 (by decide) ?_
    obtain ⟨r15, s15, e15, hF⟩ := bd_some hF
    refine a_invS hZ.1 (As := [.int a2, .int (0 : Int32), .int (9 : Int32)]) (rest := []) lk_X10_75 ⟨⟨by decide, by decide⟩, by decide, by decide⟩ rfl (Nat.le_of_ble_eq_true rfl) dX10_told_15 (m_X10_within hZ  e15) ?_
    show AW Z l iX10_told (Pq (rI R)) 0 0 18 [(0, .ref (za Z 0 0)), (1, .int a1), (2, .int a2)] [.int r15] s15
    refine a_if_ne 24 dX10_told_18 (by decide) (fun q2 => ?_) (fun q2 => ?_)
    · replace hF := (if_neg q2).symm.trans hF
      refine a_aload_n dX10_told_24 0 rfl rfl ?_
      refine a_getR hZ.1 (hZ.2 0 0 (by decide) Nat.one_pos) fl_X10_18 rfl 0 rfl dX10_told_25 ?_
      refine a_getR hZ.1 (hZ.2 4 0 (by decide) Nat.one_pos) fl_X10_158 rfl 0 rfl dX10_told_28 ?_
      refine a_iload_n dX10_told_31 1 rfl rfl ?_
      obtain ⟨p3, hF⟩ := gd_some hF
      obtain ⟨p4, hF⟩ := gd_some hF
      refine a_aald hZ.1 (hZ.2 13 0 (by decide) Nat.one_pos) rfl rfl rfl rfl (inb_vp p3) (ltb_lt p4) dX10_told_32 ?_
      refine a_iload_n dX10_told_33 2 rfl rfl ?_
      obtain ⟨r34, s34, e34, hF⟩ := bd_some hF
      refine a_invV hZ.1 (As := [.int a2]) (rest := []) (hZ.2 14 a1.toNatClampNeg (by decide) (ltb_lt p4)) lk_X10_170 ⟨⟨by decide, by decide⟩, by decide, by decide⟩ rfl (Nat.le_of_ble_eq_true rfl) dX10_told_34 (m_X4_tells hZ (ltb_lt p4) e34) ?_
      show AW Z l iX10_told (Pq (rI R)) 0 0 37 [(0, .ref (za Z 0 0)), (1, .int a1), (2, .int a2)] [.int r34] s34
      replace hF := Option.some.inj hF
      subst hF
      exact a_iret rfl (Nat.zero_le _) (Nat.zero_le _) dX10_told_37 ⟨rfl, rfl⟩
    · replace hF := (if_pos q2).symm.trans hF
      refine a_ldc (v := (-1000001)) kw_324 dX10_told_21 ?_
      replace hF := Option.some.inj hF
      subst hF
      exact a_iret rfl (Nat.zero_le _) (Nat.zero_le _) dX10_told_23 ⟨rfl, rfl⟩
theorem m_X10_told {Z : ZE} {l : Launch} (hZ : OkX Z) {a1 : Int32} {a2 : Int32}  {s : St} {R : Int32 × St} (hF : F_X10_told (zg Z) a1 a2 s = some R) : Sp Z l yX10_told iX10_told [.ref (za Z 0 0), .int a1, .int a2] s (rI R) :=
  Sp.of (by decide) rfl (Nat.le_of_ble_eq_true rfl) (w_X10_told hZ  s hF)
-- X10_trace
set_option maxRecDepth 100000 in
set_option maxHeartbeats 4000000 in
theorem w_X10_trace {Z : ZE} {l : Launch} (hZ : OkX Z) {a1 : Int32}  {R : Int32 × St}    (s : St) (hF : F_X10_trace (zg Z) a1  s = some R) : AW Z l iX10_trace (Pq (rI R)) 0 0 0 [(0, .ref (za Z 0 0)), (1, .int a1)] [] s := by
  unfold F_X10_trace at hF
  refine a_iload_n dX10_trace_0 1 rfl rfl ?_
  refine a_iconst (v := (0 : Int32)) dX10_trace_1 (by decide) ?_
  refine a_aload_n dX10_trace_2 0 rfl rfl ?_
  refine a_getR hZ.1 (hZ.2 0 0 (by decide) Nat.one_pos) fl_X10_59 rfl 0 rfl dX10_trace_3 ?_
  refine a_getI hZ.1 (s 38 0 5) (hZ.2 38 0 (by decide) Nat.one_pos) fl_X10_288 rfl rfl dX10_trace_6 ?_
  refine a_iconst (v := (1 : Int32)) dX10_trace_9 (by decide) ?_
  refine a_isub dX10_trace_10 ?_
  obtain ⟨r11, s11, e11, hF⟩ := bd_some hF
  refine a_invS hZ.1 (As := [.int a1, .int (0 : Int32), .int ((s 38 0 5) - (1 : Int32))]) (rest := []) lk_X10_75 ⟨⟨by decide, by decide⟩, by decide, by decide⟩ rfl (Nat.le_of_ble_eq_true rfl) dX10_trace_11 (m_X10_within hZ  e11) ?_
  show AW Z l iX10_trace (Pq (rI R)) 0 0 14 [(0, .ref (za Z 0 0)), (1, .int a1)] [.int r11] s11
  refine a_if_eq 29 dX10_trace_14 (by decide) (fun q1 => ?_) (fun q1 => ?_)
  · replace hF := (if_pos q1).symm.trans hF
    refine a_ldc (v := (-1000000)) kw_553 dX10_trace_29 ?_
    replace hF := Option.some.inj hF
    subst hF
    exact a_iret rfl (Nat.zero_le _) (Nat.zero_le _) dX10_trace_31 ⟨rfl, rfl⟩
  · replace hF := (if_neg q1).symm.trans hF
    refine a_aload_n dX10_trace_17 0 rfl rfl ?_
    refine a_getR hZ.1 (hZ.2 0 0 (by decide) Nat.one_pos) fl_X10_59 rfl 0 rfl dX10_trace_18 ?_
    refine a_getR hZ.1 (hZ.2 38 0 (by decide) Nat.one_pos) fl_X10_291 rfl 0 rfl dX10_trace_21 ?_
    refine a_iload_n dX10_trace_24 1 rfl rfl ?_
    obtain ⟨p2, hF⟩ := gd_some hF
    refine a_iald hZ.1 (s11 42 0 a1.toNatClampNeg) (hZ.2 42 0 (by decide) Nat.one_pos) rfl rfl (inb_vp p2) rfl dX10_trace_25 ?_
    refine a_goto 31 dX10_trace_26 (by decide) ?_
    replace hF := Option.some.inj hF
    subst hF
    exact a_iret rfl (Nat.zero_le _) (Nat.zero_le _) dX10_trace_31 ⟨rfl, rfl⟩
theorem m_X10_trace {Z : ZE} {l : Launch} (hZ : OkX Z) {a1 : Int32}  {s : St} {R : Int32 × St} (hF : F_X10_trace (zg Z) a1 s = some R) : Sp Z l yX10_trace iX10_trace [.ref (za Z 0 0), .int a1] s (rI R) :=
  Sp.of (by decide) rfl (Nat.le_of_ble_eq_true rfl) (w_X10_trace hZ  s hF)
-- X9_sumOf
set_option maxRecDepth 100000 in
set_option maxHeartbeats 4000000 in
theorem w_X9_sumOf_28 {Z : ZE} {l : Launch} (hZ : OkX Z) {t0 : Nat} {k0 : Nat} {a1 : Int32} {a2 : Int32} (hx0 : zx Z t0 k0) (ho0 : shO t0 = none) (ha0 : shA t0 = some (lna t0)) {R : Int32 × St} (h5_ : Int32 → Int32 → St → Option (Int32 × St)) (w5_ : ∀ (v3 : Int32) (v4 : Int32)  (s : St), h5_ v3 v4 s = some R → AW Z l iX9_sumOf (Pq (rI R)) 0 0 5 [(0, .ref (za Z t0 k0)), (1, .int a1), (2, .int a2), (3, .int v3), (4, .int v4)] [] s) (v3 : Int32) (v4 : Int32)  (s : St) (hF : F_X9_sumOf_28 (zg Z) t0 k0 a1 a2 h5_ v3 v4 s = some R) : AW Z l iX9_sumOf (Pq (rI R)) 0 0 28 [(0, .ref (za Z t0 k0)), (1, .int a1), (2, .int a2), (3, .int v3), (4, .int v4)] [] s := by
  unfold F_X9_sumOf_28 at hF
  refine a_iinc [(4, .int (v4 + 1)), (0, .ref (za Z t0 k0)), (1, .int a1), (2, .int a2), (3, .int v3)] dX9_sumOf_28 4 rfl rfl (by decide) rfl ?_
  refine a_goto 5 dX9_sumOf_31 (by decide) ?_
  refine a_loc [(0, .ref (za Z t0 k0)), (1, .int a1), (2, .int a2), (3, .int v3), (4, .int (v4 + 1))] [1, 2, 3, 4, 0] rfl ?_
  exact w5_ v3 (v4 + 1)  _ hF
set_option maxRecDepth 100000 in
set_option maxHeartbeats 4000000 in
theorem w_X9_sumOf_5 {Z : ZE} {l : Launch} (hZ : OkX Z) {t0 : Nat} {k0 : Nat} {a1 : Int32} {a2 : Int32} (hx0 : zx Z t0 k0) (ho0 : shO t0 = none) (ha0 : shA t0 = some (lna t0)) {R : Int32 × St}  : ∀ (n_ : Nat) (v3 : Int32) (v4 : Int32)  (s : St), F_X9_sumOf_5 (zg Z) t0 k0 a1 a2 n_ v3 v4 s = some R → AW Z l iX9_sumOf (Pq (rI R)) 0 0 5 [(0, .ref (za Z t0 k0)), (1, .int a1), (2, .int a2), (3, .int v3), (4, .int v4)] [] s := by
  intro n_
  induction n_ with
  | zero =>
    intro v3 v4 s hF
    exact absurd hF (by rw [F_X9_sumOf_5]; exact fun q => by cases q)
  | succ n_ w5_ =>
    intro v3 v4 s hF
    rw [F_X9_sumOf_5] at hF
    refine a_iload dX9_sumOf_5 4 rfl ?_
    refine a_iload_n dX9_sumOf_7 2 rfl rfl ?_
    refine a_icmp_ge 34 dX9_sumOf_8 (by decide) (fun q1 => ?_) (fun q1 => ?_)
    · replace hF := (if_pos q1).symm.trans hF
      refine a_iload_n dX9_sumOf_34 3 rfl rfl ?_
      replace hF := Option.some.inj hF
      subst hF
      exact a_iret rfl (Nat.zero_le _) (Nat.zero_le _) dX9_sumOf_35 ⟨rfl, rfl⟩
    · replace hF := (if_neg q1).symm.trans hF
      refine a_iload_n dX9_sumOf_11 1 rfl rfl ?_
      refine a_iload dX9_sumOf_12 4 rfl ?_
      refine a_ishr dX9_sumOf_14 ?_
      refine a_iconst (v := (1 : Int32)) dX9_sumOf_15 (by decide) ?_
      refine a_iand dX9_sumOf_16 ?_
      refine a_iconst (v := (1 : Int32)) dX9_sumOf_17 (by decide) ?_
      refine a_icmp_ne 28 dX9_sumOf_18 (by decide) (fun q2 => ?_) (fun q2 => ?_)
      · replace hF := (if_neg q2).symm.trans hF
        exact w_X9_sumOf_28 (l := l) hZ hx0 ho0 ha0 (F_X9_sumOf_5 (zg Z) t0 k0 a1 a2 n_) w5_ v3 v4  _ hF
      · replace hF := (if_pos q2).symm.trans hF
        refine a_iload_n dX9_sumOf_21 3 rfl rfl ?_
        refine a_aload_n dX9_sumOf_22 0 rfl rfl ?_
        refine a_iload dX9_sumOf_23 4 rfl ?_
        obtain ⟨p3, hF⟩ := gd_some hF
        refine a_iald hZ.1 (s t0 k0 v4.toNatClampNeg) hx0 ho0 ha0 (inb_vp p3) rfl dX9_sumOf_25 ?_
        refine a_iadd dX9_sumOf_26 ?_
        refine a_istore_n [(3, .int (v3 + (s t0 k0 v4.toNatClampNeg))), (0, .ref (za Z t0 k0)), (1, .int a1), (2, .int a2), (4, .int v4)] dX9_sumOf_27 rfl (by decide) rfl ?_
        refine a_loc [(0, .ref (za Z t0 k0)), (1, .int a1), (2, .int a2), (3, .int (v3 + (s t0 k0 v4.toNatClampNeg))), (4, .int v4)] [1, 2, 3, 0, 4] rfl ?_
        exact w_X9_sumOf_28 (l := l) hZ hx0 ho0 ha0 (F_X9_sumOf_5 (zg Z) t0 k0 a1 a2 n_) w5_ (v3 + (s t0 k0 v4.toNatClampNeg)) v4  _ hF
set_option maxRecDepth 100000 in
set_option maxHeartbeats 4000000 in
theorem w_X9_sumOf {Z : ZE} {l : Launch} (hZ : OkX Z) {t0 : Nat} {k0 : Nat} {a1 : Int32} {a2 : Int32} (hx0 : zx Z t0 k0) (ho0 : shO t0 = none) (ha0 : shA t0 = some (lna t0)) {R : Int32 × St}    (s : St) (hF : F_X9_sumOf (zg Z) t0 k0 a1 a2  s = some R) : AW Z l iX9_sumOf (Pq (rI R)) 0 0 0 [(0, .ref (za Z t0 k0)), (1, .int a1), (2, .int a2)] [] s := by
  unfold F_X9_sumOf at hF
  refine a_iconst (v := (0 : Int32)) dX9_sumOf_0 (by decide) ?_
  refine a_istore_n [(3, .int (0 : Int32)), (0, .ref (za Z t0 k0)), (1, .int a1), (2, .int a2)] dX9_sumOf_1 rfl (by decide) rfl ?_
  refine a_iconst (v := (0 : Int32)) dX9_sumOf_2 (by decide) ?_
  refine a_istore [(4, .int (0 : Int32)), (3, .int (0 : Int32)), (0, .ref (za Z t0 k0)), (1, .int a1), (2, .int a2)] dX9_sumOf_3 (by decide) rfl ?_
  refine a_loc [(0, .ref (za Z t0 k0)), (1, .int a1), (2, .int a2), (3, .int (0 : Int32)), (4, .int (0 : Int32))] [2, 3, 4, 1, 0] rfl ?_
  exact w_X9_sumOf_5 (l := l) hZ hx0 ho0 ha0  fu (0 : Int32) (0 : Int32)  _ hF
theorem m_X9_sumOf {Z : ZE} {l : Launch} (hZ : OkX Z) {t0 : Nat} {k0 : Nat} {a1 : Int32} {a2 : Int32} (hx0 : zx Z t0 k0) (ho0 : shO t0 = none) (ha0 : shA t0 = some (lna t0)) {s : St} {R : Int32 × St} (hF : F_X9_sumOf (zg Z) t0 k0 a1 a2 s = some R) : Sp Z l yX9_sumOf iX9_sumOf [.ref (za Z t0 k0), .int a1, .int a2] s (rI R) :=
  Sp.of (by decide) rfl (Nat.le_of_ble_eq_true rfl) (w_X9_sumOf hZ hx0 ho0 ha0 s hF)
-- X9_choose
set_option maxRecDepth 100000 in
set_option maxHeartbeats 4000000 in
theorem w_X9_choose_115 {Z : ZE} {l : Launch} (hZ : OkX Z) {a1 : Int32} {a2 : Int32}  {R : Unit × St} (h22_ : Int32 → Int32 → St → Option (Unit × St)) (w22_ : ∀ (v3 : Int32) (v4 : Int32)  (s : St), h22_ v3 v4 s = some R → AW Z l iX9_choose (Pq (rU R)) 0 0 22 [(0, .ref (za Z 35 0)), (1, .int a1), (2, .int a2), (3, .int v3), (4, .int v4)] [] s) (v3 : Int32) (v4 : Int32)  (s : St) (hF : F_X9_choose_115 (zg Z) a1 a2 h22_ v3 v4 s = some R) : AW Z l iX9_choose (Pq (rU R)) 0 0 115 [(0, .ref (za Z 35 0)), (1, .int a1), (2, .int a2), (3, .int v3), (4, .int v4)] [] s := by
  unfold F_X9_choose_115 at hF
  refine a_iinc [(4, .int (v4 + 1)), (0, .ref (za Z 35 0)), (1, .int a1), (2, .int a2), (3, .int v3)] dX9_choose_115 4 rfl rfl (by decide) rfl ?_
  refine a_goto 22 dX9_choose_118 (by decide) ?_
  refine a_loc [(0, .ref (za Z 35 0)), (1, .int a1), (2, .int a2), (3, .int v3), (4, .int (v4 + 1))] [1, 2, 3, 4, 0] rfl ?_
  exact w22_ v3 (v4 + 1)  _ hF
set_option maxRecDepth 100000 in
set_option maxHeartbeats 4000000 in
theorem w_X9_choose_84 {Z : ZE} {l : Launch} (hZ : OkX Z) {a1 : Int32} {a2 : Int32}  {R : Unit × St} (h22_ : Int32 → Int32 → St → Option (Unit × St)) (w22_ : ∀ (v3 : Int32) (v4 : Int32)  (s : St), h22_ v3 v4 s = some R → AW Z l iX9_choose (Pq (rU R)) 0 0 22 [(0, .ref (za Z 35 0)), (1, .int a1), (2, .int a2), (3, .int v3), (4, .int v4)] [] s) (v3 : Int32) (v4 : Int32) (v5 : Int32) (v6 : Int32) (x0 : Int32)  (s : St) (hF : F_X9_choose_84 (zg Z) a1 a2 h22_ v3 v4 v5 v6 x0 s = some R) : AW Z l iX9_choose (Pq (rU R)) 0 0 84 [(0, .ref (za Z 35 0)), (1, .int a1), (2, .int a2), (3, .int v3), (4, .int v4), (5, .int v5), (6, .int v6)] [.int x0] s := by
  unfold F_X9_choose_84 at hF
  refine a_istore [(7, .int x0), (0, .ref (za Z 35 0)), (1, .int a1), (2, .int a2), (3, .int v3), (4, .int v4), (5, .int v5), (6, .int v6)] dX9_choose_84 (by decide) rfl ?_
  refine a_iload dX9_choose_86 6 rfl ?_
  refine a_iload_n dX9_choose_88 3 rfl rfl ?_
  refine a_icmp_gt 115 dX9_choose_89 (by decide) (fun q1 => ?_) (fun q1 => ?_)
  · replace hF := (if_pos q1).symm.trans hF
    refine a_loc [(0, .ref (za Z 35 0)), (1, .int a1), (2, .int a2), (3, .int v3), (4, .int v4)] [1, 2, 3, 4, 5] rfl ?_
    exact w_X9_choose_115 (l := l) hZ  h22_ w22_ v3 v4  _ hF
  · replace hF := (if_neg q1).symm.trans hF
    refine a_iload dX9_choose_92 0 rfl ?_
    refine a_if_eq 115 dX9_choose_94 (by decide) (fun q2 => ?_) (fun q2 => ?_)
    · replace hF := (if_pos q2).symm.trans hF
      refine a_loc [(0, .ref (za Z 35 0)), (1, .int a1), (2, .int a2), (3, .int v3), (4, .int v4)] [1, 2, 3, 4, 5] rfl ?_
      exact w_X9_choose_115 (l := l) hZ  h22_ w22_ v3 v4  _ hF
    · replace hF := (if_neg q2).symm.trans hF
      refine a_aload_n dX9_choose_97 1 rfl rfl ?_
      refine a_iload dX9_choose_98 5 rfl ?_
      refine a_put hZ.1 (hZ.2 35 0 (by decide) Nat.one_pos) fl_X9_22 rfl rfl rfl dX9_choose_100 ?_
      refine a_aload_n dX9_choose_103 1 rfl rfl ?_
      refine a_iload dX9_choose_104 6 rfl ?_
      refine a_put hZ.1 (hZ.2 35 0 (by decide) Nat.one_pos) fl_X9_26 rfl rfl rfl dX9_choose_106 ?_
      refine a_aload_n dX9_choose_109 1 rfl rfl ?_
      refine a_iload dX9_choose_110 7 rfl ?_
      refine a_put hZ.1 (hZ.2 35 0 (by decide) Nat.one_pos) fl_X9_29 rfl rfl rfl dX9_choose_112 ?_
      refine a_loc [(0, .ref (za Z 35 0)), (1, .int a1), (2, .int a2), (3, .int v3), (4, .int v4)] [1, 2, 3, 4, 5] rfl ?_
      exact w_X9_choose_115 (l := l) hZ  h22_ w22_ v3 v4  _ hF
set_option maxRecDepth 100000 in
set_option maxHeartbeats 4000000 in
theorem w_X9_choose_83 {Z : ZE} {l : Launch} (hZ : OkX Z) {a1 : Int32} {a2 : Int32}  {R : Unit × St} (h22_ : Int32 → Int32 → St → Option (Unit × St)) (w22_ : ∀ (v3 : Int32) (v4 : Int32)  (s : St), h22_ v3 v4 s = some R → AW Z l iX9_choose (Pq (rU R)) 0 0 22 [(0, .ref (za Z 35 0)), (1, .int a1), (2, .int a2), (3, .int v3), (4, .int v4)] [] s) (v3 : Int32) (v4 : Int32) (v5 : Int32) (v6 : Int32)  (s : St) (hF : F_X9_choose_83 (zg Z) a1 a2 h22_ v3 v4 v5 v6 s = some R) : AW Z l iX9_choose (Pq (rU R)) 0 0 83 [(0, .ref (za Z 35 0)), (1, .int a1), (2, .int a2), (3, .int v3), (4, .int v4), (5, .int v5), (6, .int v6)] [] s := by
  unfold F_X9_choose_83 at hF
  refine a_iconst (v := (0 : Int32)) dX9_choose_83 (by decide) ?_
  exact w_X9_choose_84 (l := l) hZ  h22_ w22_ v3 v4 v5 v6 (0 : Int32)  _ hF
set_option maxRecDepth 100000 in
set_option maxHeartbeats 4000000 in
theorem w_X9_choose_79 {Z : ZE} {l : Launch} (hZ : OkX Z) {a1 : Int32} {a2 : Int32}  {R : Unit × St} (h22_ : Int32 → Int32 → St → Option (Unit × St)) (w22_ : ∀ (v3 : Int32) (v4 : Int32)  (s : St), h22_ v3 v4 s = some R → AW Z l iX9_choose (Pq (rU R)) 0 0 22 [(0, .ref (za Z 35 0)), (1, .int a1), (2, .int a2), (3, .int v3), (4, .int v4)] [] s) (v3 : Int32) (v4 : Int32) (v5 : Int32) (v6 : Int32)  (s : St) (hF : F_X9_choose_79 (zg Z) a1 a2 h22_ v3 v4 v5 v6 s = some R) : AW Z l iX9_choose (Pq (rU R)) 0 0 79 [(0, .ref (za Z 35 0)), (1, .int a1), (2, .int a2), (3, .int v3), (4, .int v4), (5, .int v5), (6, .int v6)] [] s := by
  unfold F_X9_choose_79 at hF
  refine a_iconst (v := (1 : Int32)) dX9_choose_79 (by decide) ?_
  refine a_goto 84 dX9_choose_80 (by decide) ?_
  exact w_X9_choose_84 (l := l) hZ  h22_ w22_ v3 v4 v5 v6 (1 : Int32)  _ hF
set_option maxRecDepth 100000 in
set_option maxHeartbeats 4000000 in
theorem w_X9_choose_22 {Z : ZE} {l : Launch} (hZ : OkX Z) {a1 : Int32} {a2 : Int32}  {R : Unit × St}  : ∀ (n_ : Nat) (v3 : Int32) (v4 : Int32)  (s : St), F_X9_choose_22 (zg Z) a1 a2 n_ v3 v4 s = some R → AW Z l iX9_choose (Pq (rU R)) 0 0 22 [(0, .ref (za Z 35 0)), (1, .int a1), (2, .int a2), (3, .int v3), (4, .int v4)] [] s := by
  intro n_
  induction n_ with
  | zero =>
    intro v3 v4 s hF
    exact absurd hF (by rw [F_X9_choose_22]; exact fun q => by cases q)
  | succ n_ w22_ =>
    intro v3 v4 s hF
    rw [F_X9_choose_22] at hF
    refine a_iload dX9_choose_22 4 rfl ?_
    refine a_iload_n dX9_choose_24 3 rfl rfl ?_
    refine a_icmp_ge 121 dX9_choose_25 (by decide) (fun q1 => ?_) (fun q1 => ?_)
    · replace hF := (if_pos q1).symm.trans hF
      replace hF := Option.some.inj hF
      subst hF
      exact a_vret rfl (Nat.zero_le _) (Nat.zero_le _) dX9_choose_121 ⟨rfl, rfl⟩
    · replace hF := (if_neg q1).symm.trans hF
      refine a_aload_n dX9_choose_28 0 rfl rfl ?_
      refine a_getR hZ.1 (hZ.2 35 0 (by decide) Nat.one_pos) fl_X9_9 rfl 0 rfl dX9_choose_29 ?_
      refine a_iload dX9_choose_32 4 rfl ?_
      refine a_iload_n dX9_choose_34 1 rfl rfl ?_
      obtain ⟨r35, s35, e35, hF⟩ := bd_some hF
      refine a_invS hZ.1 (As := [.ref (za Z 36 0), .int v4, .int a1]) (rest := []) lk_X9_32 ⟨⟨by decide, by decide⟩, by decide, by decide⟩ rfl (Nat.le_of_ble_eq_true rfl) dX9_choose_35 (m_X9_sumOf hZ (hZ.2 36 0 (by decide) Nat.one_pos) rfl rfl e35) ?_
      show AW Z l iX9_choose (Pq (rU R)) 0 0 38 [(0, .ref (za Z 35 0)), (1, .int a1), (2, .int a2), (3, .int v3), (4, .int v4)] [.int r35] s35
      refine a_istore [(5, .int r35), (0, .ref (za Z 35 0)), (1, .int a1), (2, .int a2), (3, .int v3), (4, .int v4)] dX9_choose_38 (by decide) rfl ?_
      refine a_aload_n dX9_choose_40 1 rfl rfl ?_
      refine a_getR hZ.1 (hZ.2 35 0 (by decide) Nat.one_pos) fl_X9_15 rfl 0 rfl dX9_choose_41 ?_
      refine a_iload dX9_choose_44 5 rfl ?_
      refine a_iload_n dX9_choose_46 2 rfl rfl ?_
      obtain ⟨r47, s47, e47, hF⟩ := bd_some hF
      refine a_invS hZ.1 (As := [.ref (za Z 37 0), .int v4, .int a1]) (rest := []) lk_X9_32 ⟨⟨by decide, by decide⟩, by decide, by decide⟩ rfl (Nat.le_of_ble_eq_true rfl) dX9_choose_47 (m_X9_sumOf hZ (hZ.2 37 0 (by decide) Nat.one_pos) rfl rfl e47) ?_
      show AW Z l iX9_choose (Pq (rU R)) 0 0 50 [(5, .int r35), (0, .ref (za Z 35 0)), (1, .int a1), (2, .int a2), (3, .int v3), (4, .int v4)] [.int r47] s47
      refine a_istore [(6, .int r47), (5, .int r35), (0, .ref (za Z 35 0)), (1, .int a1), (2, .int a2), (3, .int v3), (4, .int v4)] dX9_choose_50 (by decide) rfl ?_
      refine a_iload dX9_choose_52 0 rfl ?_
      refine a_aload_n dX9_choose_54 2 rfl rfl ?_
      refine a_getI hZ.1 (s47 35 0 4) (hZ.2 35 0 (by decide) Nat.one_pos) fl_X9_29 rfl rfl dX9_choose_55 ?_
      refine a_icmp_gt 79 dX9_choose_58 (by decide) (fun q2 => ?_) (fun q2 => ?_)
      · replace hF := (if_pos q2).symm.trans hF
        refine a_loc [(0, .ref (za Z 35 0)), (1, .int a1), (2, .int a2), (3, .int v3), (4, .int v4), (5, .int r35), (6, .int r47)] [2, 3, 4, 5, 6, 1, 0] rfl ?_
        exact w_X9_choose_79 (l := l) hZ  (F_X9_choose_22 (zg Z) a1 a2 n_) w22_ v3 v4 r35 r47  _ hF
      · replace hF := (if_neg q2).symm.trans hF
        refine a_iload dX9_choose_61 0 rfl ?_
        refine a_aload_n dX9_choose_63 2 rfl rfl ?_
        refine a_getI hZ.1 (s47 35 0 4) (hZ.2 35 0 (by decide) Nat.one_pos) fl_X9_29 rfl rfl dX9_choose_64 ?_
        refine a_icmp_ne 83 dX9_choose_67 (by decide) (fun q3 => ?_) (fun q3 => ?_)
        · replace hF := (if_neg q3).symm.trans hF
          refine a_loc [(0, .ref (za Z 35 0)), (1, .int a1), (2, .int a2), (3, .int v3), (4, .int v4), (5, .int r35), (6, .int r47)] [2, 3, 4, 5, 6, 1, 0] rfl ?_
          exact w_X9_choose_83 (l := l) hZ  (F_X9_choose_22 (zg Z) a1 a2 n_) w22_ v3 v4 r35 r47  _ hF
        · replace hF := (if_pos q3).symm.trans hF
          refine a_iload dX9_choose_70 1 rfl ?_
          refine a_aload_n dX9_choose_72 2 rfl rfl ?_
          refine a_getI hZ.1 (s47 35 0 3) (hZ.2 35 0 (by decide) Nat.one_pos) fl_X9_26 rfl rfl dX9_choose_73 ?_
          refine a_icmp_ge 83 dX9_choose_76 (by decide) (fun q4 => ?_) (fun q4 => ?_)
          · replace hF := (if_pos q4).symm.trans hF
            refine a_loc [(0, .ref (za Z 35 0)), (1, .int a1), (2, .int a2), (3, .int v3), (4, .int v4), (5, .int r35), (6, .int r47)] [2, 3, 4, 5, 6, 1, 0] rfl ?_
            exact w_X9_choose_83 (l := l) hZ  (F_X9_choose_22 (zg Z) a1 a2 n_) w22_ v3 v4 r35 r47  _ hF
          · replace hF := (if_neg q4).symm.trans hF
            refine a_loc [(0, .ref (za Z 35 0)), (1, .int a1), (2, .int a2), (3, .int v3), (4, .int v4), (5, .int r35), (6, .int r47)] [2, 3, 4, 5, 6, 1, 0] rfl ?_
            exact w_X9_choose_79 (l := l) hZ  (F_X9_choose_22 (zg Z) a1 a2 n_) w22_ v3 v4 r35 r47  _ hF
set_option maxRecDepth 100000 in
set_option maxHeartbeats 4000000 in
theorem w_X9_choose {Z : ZE} {l : Launch} (hZ : OkX Z) {a1 : Int32} {a2 : Int32}  {R : Unit × St}    (s : St) (hF : F_X9_choose (zg Z) a1 a2  s = some R) : AW Z l iX9_choose (Pq (rU R)) 0 0 0 [(0, .ref (za Z 35 0)), (1, .int a1), (2, .int a2)] [] s := by
  unfold F_X9_choose at hF
  refine a_aload_n dX9_choose_0 0 rfl rfl ?_
  refine a_iconst (v := (0 : Int32)) dX9_choose_1 (by decide) ?_
  refine a_put hZ.1 (hZ.2 35 0 (by decide) Nat.one_pos) fl_X9_22 rfl rfl rfl dX9_choose_2 ?_
  refine a_aload_n dX9_choose_5 0 rfl rfl ?_
  refine a_iconst (v := (0 : Int32)) dX9_choose_6 (by decide) ?_
  refine a_put hZ.1 (hZ.2 35 0 (by decide) Nat.one_pos) fl_X9_26 rfl rfl rfl dX9_choose_7 ?_
  refine a_aload_n dX9_choose_10 0 rfl rfl ?_
  refine a_iconst (v := (0 : Int32)) dX9_choose_11 (by decide) ?_
  refine a_put hZ.1 (hZ.2 35 0 (by decide) Nat.one_pos) fl_X9_29 rfl rfl rfl dX9_choose_12 ?_
  refine a_iconst (v := (1 : Int32)) dX9_choose_15 (by decide) ?_
  refine a_iload_n dX9_choose_16 1 rfl rfl ?_
  refine a_ishl dX9_choose_17 ?_
  refine a_istore_n [(3, .int ((1 : Int32) <<< (a1 &&& 31))), (0, .ref (za Z 35 0)), (1, .int a1), (2, .int a2)] dX9_choose_18 rfl (by decide) rfl ?_
  refine a_iconst (v := (1 : Int32)) dX9_choose_19 (by decide) ?_
  refine a_istore [(4, .int (1 : Int32)), (3, .int ((1 : Int32) <<< (a1 &&& 31))), (0, .ref (za Z 35 0)), (1, .int a1), (2, .int a2)] dX9_choose_20 (by decide) rfl ?_
  refine a_loc [(0, .ref (za Z 35 0)), (1, .int a1), (2, .int a2), (3, .int ((1 : Int32) <<< (a1 &&& 31))), (4, .int (1 : Int32))] [2, 3, 4, 1, 0] rfl ?_
  exact w_X9_choose_22 (l := l) hZ   fu ((1 : Int32) <<< (a1 &&& 31)) (1 : Int32)  _ hF
theorem m_X9_choose {Z : ZE} {l : Launch} (hZ : OkX Z) {a1 : Int32} {a2 : Int32}  {s : St} {R : Unit × St} (hF : F_X9_choose (zg Z) a1 a2 s = some R) : Sp Z l yX9_choose iX9_choose [.ref (za Z 35 0), .int a1, .int a2] s (rU R) :=
  Sp.of (by decide) rfl (Nat.le_of_ble_eq_true rfl) (w_X9_choose hZ  s hF)
-- X9_take
set_option maxRecDepth 100000 in
set_option maxHeartbeats 4000000 in
theorem w_X9_take_3 {Z : ZE} {l : Launch} (hZ : OkX Z) {t1 : Nat} {k1 : Nat} {a2 : Int32} {a3 : Int32} (hx1 : zx Z t1 k1) (ho1 : shO t1 = none) (ha1 : shA t1 = some (lna t1)) {R : Int32 × St}  : ∀ (n_ : Nat) (v4 : Int32)  (s : St), F_X9_take_3 (zg Z) t1 k1 a2 a3 n_ v4 s = some R → AW Z l iX9_take (Pq (rI R)) 0 0 3 [(0, .ref (za Z 35 0)), (1, .ref (za Z t1 k1)), (2, .int a2), (3, .int a3), (4, .int v4)] [] s := by
  intro n_
  induction n_ with
  | zero =>
    intro v4 s hF
    exact absurd hF (by rw [F_X9_take_3]; exact fun q => by cases q)
  | succ n_ w3_ =>
    intro v4 s hF
    rw [F_X9_take_3] at hF
    refine a_iload dX9_take_3 4 rfl ?_
    refine a_iload_n dX9_take_5 3 rfl rfl ?_
    refine a_icmp_ge 81 dX9_take_6 (by decide) (fun q1 => ?_) (fun q1 => ?_)
    · replace hF := (if_pos q1).symm.trans hF
      refine a_iconst (v := (1 : Int32)) dX9_take_81 (by decide) ?_
      replace hF := Option.some.inj hF
      subst hF
      exact a_zret rfl rfl (Nat.zero_le _) (Nat.zero_le _) dX9_take_82 ⟨rfl, rfl⟩
    · replace hF := (if_neg q1).symm.trans hF
      refine a_aload_n dX9_take_9 0 rfl rfl ?_
      refine a_getR hZ.1 (hZ.2 35 0 (by decide) Nat.one_pos) fl_X9_9 rfl 0 rfl dX9_take_10 ?_
      refine a_iload dX9_take_13 4 rfl ?_
      refine a_aload_n dX9_take_15 1 rfl rfl ?_
      refine a_iload_n dX9_take_16 2 rfl rfl ?_
      refine a_iconst (v := (2 : Int32)) dX9_take_17 (by decide) ?_
      refine a_iload dX9_take_18 4 rfl ?_
      refine a_imul dX9_take_20 ?_
      refine a_iadd dX9_take_21 ?_
      obtain ⟨p2, hF⟩ := gd_some hF
      refine a_iald hZ.1 (s t1 k1 (a2 + ((2 : Int32) * v4)).toNatClampNeg) hx1 ho1 ha1 (inb_vp p2) rfl dX9_take_22 ?_
      obtain ⟨p3, hF⟩ := gd_some hF
      refine a_iast hZ.1 (hZ.2 36 0 (by decide) Nat.one_pos) rfl rfl (inb_vp p3) dX9_take_23 ?_
      refine a_aload_n dX9_take_24 0 rfl rfl ?_
      refine a_getR hZ.1 (hZ.2 35 0 (by decide) Nat.one_pos) fl_X9_15 rfl 0 rfl dX9_take_25 ?_
      refine a_iload dX9_take_28 4 rfl ?_
      refine a_aload_n dX9_take_30 1 rfl rfl ?_
      refine a_iload_n dX9_take_31 2 rfl rfl ?_
      refine a_iconst (v := (2 : Int32)) dX9_take_32 (by decide) ?_
      refine a_iload dX9_take_33 4 rfl ?_
      refine a_imul dX9_take_35 ?_
      refine a_iadd dX9_take_36 ?_
      refine a_iconst (v := (1 : Int32)) dX9_take_37 (by decide) ?_
      refine a_iadd dX9_take_38 ?_
      obtain ⟨p4, hF⟩ := gd_some hF
      refine a_iald hZ.1 ((up s 36 0 v4.toNatClampNeg (s t1 k1 (a2 + ((2 : Int32) * v4)).toNatClampNeg)) t1 k1 ((a2 + ((2 : Int32) * v4)) + (1 : Int32)).toNatClampNeg) hx1 ho1 ha1 (inb_vp p4) rfl dX9_take_39 ?_
      obtain ⟨p5, hF⟩ := gd_some hF
      refine a_iast hZ.1 (hZ.2 37 0 (by decide) Nat.one_pos) rfl rfl (inb_vp p5) dX9_take_40 ?_
      refine a_aload_n dX9_take_41 0 rfl rfl ?_
      refine a_getR hZ.1 (hZ.2 35 0 (by decide) Nat.one_pos) fl_X9_9 rfl 0 rfl dX9_take_42 ?_
      refine a_iload dX9_take_45 4 rfl ?_
      obtain ⟨p6, hF⟩ := gd_some hF
      refine a_iald hZ.1 (s t1 k1 (a2 + ((2 : Int32) * v4)).toNatClampNeg) (hZ.2 36 0 (by decide) Nat.one_pos) rfl rfl (inb_vp p6) (by simp [up]) dX9_take_47 ?_
      refine a_iconst (v := (1 : Int32)) dX9_take_48 (by decide) ?_
      refine a_bipush (v := (100 : Int32)) dX9_take_49 (by decide) ?_
      obtain ⟨r51, s51, e51, hF⟩ := bd_some hF
      refine a_invN hZ.1 (As := [.int (s t1 k1 (a2 + ((2 : Int32) * v4)).toNatClampNeg), .int (1 : Int32), .int (100 : Int32)]) (rest := []) lk_X9_18 ⟨⟨by decide, by decide⟩, by decide, by decide⟩ rfl (Nat.le_of_ble_eq_true rfl) dX9_take_51 (m_X10_within hZ  e51) ?_
      show AW Z l iX9_take (Pq (rI R)) 0 0 54 [(0, .ref (za Z 35 0)), (1, .ref (za Z t1 k1)), (2, .int a2), (3, .int a3), (4, .int v4)] [.int r51] s51
      refine a_if_eq 73 dX9_take_54 (by decide) (fun q7 => ?_) (fun q7 => ?_)
      · replace hF := (if_pos q7).symm.trans hF
        refine a_iconst (v := (0 : Int32)) dX9_take_73 (by decide) ?_
        replace hF := Option.some.inj hF
        subst hF
        exact a_zret rfl rfl (Nat.zero_le _) (Nat.zero_le _) dX9_take_74 ⟨rfl, rfl⟩
      · replace hF := (if_neg q7).symm.trans hF
        refine a_aload_n dX9_take_57 0 rfl rfl ?_
        refine a_getR hZ.1 (hZ.2 35 0 (by decide) Nat.one_pos) fl_X9_15 rfl 0 rfl dX9_take_58 ?_
        refine a_iload dX9_take_61 4 rfl ?_
        obtain ⟨p8, hF⟩ := gd_some hF
        refine a_iald hZ.1 (s51 37 0 v4.toNatClampNeg) (hZ.2 37 0 (by decide) Nat.one_pos) rfl rfl (inb_vp p8) rfl dX9_take_63 ?_
        refine a_iconst (v := (0 : Int32)) dX9_take_64 (by decide) ?_
        refine a_bipush (v := (100 : Int32)) dX9_take_65 (by decide) ?_
        obtain ⟨r67, s67, e67, hF⟩ := bd_some hF
        refine a_invN hZ.1 (As := [.int (s51 37 0 v4.toNatClampNeg), .int (0 : Int32), .int (100 : Int32)]) (rest := []) lk_X9_18 ⟨⟨by decide, by decide⟩, by decide, by decide⟩ rfl (Nat.le_of_ble_eq_true rfl) dX9_take_67 (m_X10_within hZ  e67) ?_
        show AW Z l iX9_take (Pq (rI R)) 0 0 70 [(0, .ref (za Z 35 0)), (1, .ref (za Z t1 k1)), (2, .int a2), (3, .int a3), (4, .int v4)] [.int r67] s67
        refine a_if_ne 75 dX9_take_70 (by decide) (fun q9 => ?_) (fun q9 => ?_)
        · replace hF := (if_neg q9).symm.trans hF
          refine a_iinc [(4, .int (v4 + 1)), (0, .ref (za Z 35 0)), (1, .ref (za Z t1 k1)), (2, .int a2), (3, .int a3)] dX9_take_75 4 rfl rfl (by decide) rfl ?_
          refine a_goto 3 dX9_take_78 (by decide) ?_
          refine a_loc [(0, .ref (za Z 35 0)), (1, .ref (za Z t1 k1)), (2, .int a2), (3, .int a3), (4, .int (v4 + 1))] [1, 2, 3, 4, 0] rfl ?_
          exact w3_ (v4 + 1)  _ hF
        · replace hF := (if_pos q9).symm.trans hF
          refine a_iconst (v := (0 : Int32)) dX9_take_73 (by decide) ?_
          replace hF := Option.some.inj hF
          subst hF
          exact a_zret rfl rfl (Nat.zero_le _) (Nat.zero_le _) dX9_take_74 ⟨rfl, rfl⟩
set_option maxRecDepth 100000 in
set_option maxHeartbeats 4000000 in
theorem w_X9_take {Z : ZE} {l : Launch} (hZ : OkX Z) {t1 : Nat} {k1 : Nat} {a2 : Int32} {a3 : Int32} (hx1 : zx Z t1 k1) (ho1 : shO t1 = none) (ha1 : shA t1 = some (lna t1)) {R : Int32 × St}    (s : St) (hF : F_X9_take (zg Z) t1 k1 a2 a3  s = some R) : AW Z l iX9_take (Pq (rI R)) 0 0 0 [(0, .ref (za Z 35 0)), (1, .ref (za Z t1 k1)), (2, .int a2), (3, .int a3)] [] s := by
  unfold F_X9_take at hF
  refine a_iconst (v := (0 : Int32)) dX9_take_0 (by decide) ?_
  refine a_istore [(4, .int (0 : Int32)), (0, .ref (za Z 35 0)), (1, .ref (za Z t1 k1)), (2, .int a2), (3, .int a3)] dX9_take_1 (by decide) rfl ?_
  refine a_loc [(0, .ref (za Z 35 0)), (1, .ref (za Z t1 k1)), (2, .int a2), (3, .int a3), (4, .int (0 : Int32))] [1, 2, 3, 4, 0] rfl ?_
  exact w_X9_take_3 (l := l) hZ hx1 ho1 ha1  fu (0 : Int32)  _ hF
theorem m_X9_take {Z : ZE} {l : Launch} (hZ : OkX Z) {t1 : Nat} {k1 : Nat} {a2 : Int32} {a3 : Int32} (hx1 : zx Z t1 k1) (ho1 : shO t1 = none) (ha1 : shA t1 = some (lna t1)) {s : St} {R : Int32 × St} (hF : F_X9_take (zg Z) t1 k1 a2 a3 s = some R) : Sp Z l yX9_take iX9_take [.ref (za Z 35 0), .ref (za Z t1 k1), .int a2, .int a3] s (rI R) :=
  Sp.of (by decide) rfl (Nat.le_of_ble_eq_true rfl) (w_X9_take hZ hx1 ho1 ha1 s hF)
-- X9_tells
set_option maxRecDepth 100000 in
set_option maxHeartbeats 4000000 in
theorem w_X9_tells {Z : ZE} {l : Launch} (hZ : OkX Z) {a1 : Int32}  {R : Int32 × St}    (s : St) (hF : F_X9_tells (zg Z) a1  s = some R) : AW Z l iX9_tells (Pq (rI R)) 0 0 0 [(0, .ref (za Z 35 0)), (1, .int a1)] [] s := by
  unfold F_X9_tells at hF
  refine a_iload_n dX9_tells_0 1 rfl rfl ?_
  refine a_if_ne 9 dX9_tells_1 (by decide) (fun q1 => ?_) (fun q1 => ?_)
  · replace hF := (if_neg q1).symm.trans hF
    refine a_iload_n dX9_tells_9 1 rfl rfl ?_
    refine a_iconst (v := (1 : Int32)) dX9_tells_10 (by decide) ?_
    refine a_icmp_ne 21 dX9_tells_11 (by decide) (fun q2 => ?_) (fun q2 => ?_)
    · replace hF := (if_neg q2).symm.trans hF
      refine a_aload_n dX9_tells_21 0 rfl rfl ?_
      refine a_getI hZ.1 (s 35 0 4) (hZ.2 35 0 (by decide) Nat.one_pos) fl_X9_29 rfl rfl dX9_tells_22 ?_
      replace hF := Option.some.inj hF
      subst hF
      exact a_iret rfl (Nat.zero_le _) (Nat.zero_le _) dX9_tells_25 ⟨rfl, rfl⟩
    · replace hF := (if_pos q2).symm.trans hF
      refine a_aload_n dX9_tells_14 0 rfl rfl ?_
      refine a_getI hZ.1 (s 35 0 3) (hZ.2 35 0 (by decide) Nat.one_pos) fl_X9_26 rfl rfl dX9_tells_15 ?_
      refine a_goto 25 dX9_tells_18 (by decide) ?_
      replace hF := Option.some.inj hF
      subst hF
      exact a_iret rfl (Nat.zero_le _) (Nat.zero_le _) dX9_tells_25 ⟨rfl, rfl⟩
  · replace hF := (if_pos q1).symm.trans hF
    refine a_aload_n dX9_tells_4 0 rfl rfl ?_
    refine a_getI hZ.1 (s 35 0 2) (hZ.2 35 0 (by decide) Nat.one_pos) fl_X9_22 rfl rfl dX9_tells_5 ?_
    replace hF := Option.some.inj hF
    subst hF
    exact a_iret rfl (Nat.zero_le _) (Nat.zero_le _) dX9_tells_8 ⟨rfl, rfl⟩
theorem m_X9_tells {Z : ZE} {l : Launch} (hZ : OkX Z) {a1 : Int32}  {s : St} {R : Int32 × St} (hF : F_X9_tells (zg Z) a1 s = some R) : Sp Z l yX9_tells iX9_tells [.ref (za Z 35 0), .int a1] s (rI R) :=
  Sp.of (by decide) rfl (Nat.le_of_ble_eq_true rfl) (w_X9_tells hZ  s hF)
-- X10_works
set_option maxRecDepth 100000 in
set_option maxHeartbeats 4000000 in
theorem w_X10_works {Z : ZE} {l : Launch} (hZ : OkX Z) {a1 : Int32} {a2 : Int32} {a3 : Int32} {a4 : Int32} {a5 : Int32}  {R : Int32 × St}    (s : St) (hF : F_X10_works (zg Z) a1 a2 a3 a4 a5  s = some R) : AW Z l iX10_works (Pq (rI R)) 0 0 0 [(0, .ref (za Z 0 0)), (1, .int a1), (2, .int a2), (3, .int a3), (4, .int a4), (5, .int a5)] [] s := by
  unfold F_X10_works at hF
  refine a_iload_n dX10_works_0 1 rfl rfl ?_
  obtain ⟨r1, s1, e1, hF⟩ := bd_some hF
  refine a_invS hZ.1 (As := [.int a1]) (rest := []) lk_X10_71 ⟨⟨by decide, by decide⟩, by decide, by decide⟩ rfl (Nat.le_of_ble_eq_true rfl) dX10_works_1 (m_X10_isSheet hZ  e1) ?_
  show AW Z l iX10_works (Pq (rI R)) 0 0 4 [(0, .ref (za Z 0 0)), (1, .int a1), (2, .int a2), (3, .int a3), (4, .int a4), (5, .int a5)] [.int r1] s1
  refine a_if_eq 39 dX10_works_4 (by decide) (fun q1 => ?_) (fun q1 => ?_)
  · replace hF := (if_pos q1).symm.trans hF
    refine a_ldc (v := (-1000001)) kw_324 dX10_works_39 ?_
    replace hF := Option.some.inj hF
    subst hF
    exact a_iret rfl (Nat.zero_le _) (Nat.zero_le _) dX10_works_41 ⟨rfl, rfl⟩
  · replace hF := (if_neg q1).symm.trans hF
    refine a_iload_n dX10_works_7 3 rfl rfl ?_
    refine a_iconst (v := (1 : Int32)) dX10_works_8 (by decide) ?_
    refine a_bipush (v := (10 : Int32)) dX10_works_9 (by decide) ?_
    obtain ⟨r11, s11, e11, hF⟩ := bd_some hF
    refine a_invS hZ.1 (As := [.int a3, .int (1 : Int32), .int (10 : Int32)]) (rest := []) lk_X10_75 ⟨⟨by decide, by decide⟩, by decide, by decide⟩ rfl (Nat.le_of_ble_eq_true rfl) dX10_works_11 (m_X10_within hZ  e11) ?_
    show AW Z l iX10_works (Pq (rI R)) 0 0 14 [(0, .ref (za Z 0 0)), (1, .int a1), (2, .int a2), (3, .int a3), (4, .int a4), (5, .int a5)] [.int r11] s11
    refine a_if_eq 39 dX10_works_14 (by decide) (fun q2 => ?_) (fun q2 => ?_)
    · replace hF := (if_pos q2).symm.trans hF
      refine a_ldc (v := (-1000001)) kw_324 dX10_works_39 ?_
      replace hF := Option.some.inj hF
      subst hF
      exact a_iret rfl (Nat.zero_le _) (Nat.zero_le _) dX10_works_41 ⟨rfl, rfl⟩
    · replace hF := (if_neg q2).symm.trans hF
      refine a_iload dX10_works_17 4 rfl ?_
      refine a_iconst (v := (0 : Int32)) dX10_works_19 (by decide) ?_
      refine a_sipush (v := (500 : Int32)) dX10_works_20 (by decide) ?_
      obtain ⟨r23, s23, e23, hF⟩ := bd_some hF
      refine a_invS hZ.1 (As := [.int a4, .int (0 : Int32), .int (500 : Int32)]) (rest := []) lk_X10_75 ⟨⟨by decide, by decide⟩, by decide, by decide⟩ rfl (Nat.le_of_ble_eq_true rfl) dX10_works_23 (m_X10_within hZ  e23) ?_
      show AW Z l iX10_works (Pq (rI R)) 0 0 26 [(0, .ref (za Z 0 0)), (1, .int a1), (2, .int a2), (3, .int a3), (4, .int a4), (5, .int a5)] [.int r23] s23
      refine a_if_eq 39 dX10_works_26 (by decide) (fun q3 => ?_) (fun q3 => ?_)
      · replace hF := (if_pos q3).symm.trans hF
        refine a_ldc (v := (-1000001)) kw_324 dX10_works_39 ?_
        replace hF := Option.some.inj hF
        subst hF
        exact a_iret rfl (Nat.zero_le _) (Nat.zero_le _) dX10_works_41 ⟨rfl, rfl⟩
      · replace hF := (if_neg q3).symm.trans hF
        refine a_iload dX10_works_29 5 rfl ?_
        refine a_iconst (v := (0 : Int32)) dX10_works_31 (by decide) ?_
        refine a_iconst (v := (2 : Int32)) dX10_works_32 (by decide) ?_
        obtain ⟨r33, s33, e33, hF⟩ := bd_some hF
        refine a_invS hZ.1 (As := [.int a5, .int (0 : Int32), .int (2 : Int32)]) (rest := []) lk_X10_75 ⟨⟨by decide, by decide⟩, by decide, by decide⟩ rfl (Nat.le_of_ble_eq_true rfl) dX10_works_33 (m_X10_within hZ  e33) ?_
        show AW Z l iX10_works (Pq (rI R)) 0 0 36 [(0, .ref (za Z 0 0)), (1, .int a1), (2, .int a2), (3, .int a3), (4, .int a4), (5, .int a5)] [.int r33] s33
        refine a_if_ne 42 dX10_works_36 (by decide) (fun q4 => ?_) (fun q4 => ?_)
        · replace hF := (if_neg q4).symm.trans hF
          refine a_aload_n dX10_works_42 0 rfl rfl ?_
          refine a_getR hZ.1 (hZ.2 0 0 (by decide) Nat.one_pos) fl_X10_11 rfl 0 rfl dX10_works_43 ?_
          refine a_iload_n dX10_works_46 1 rfl rfl ?_
          obtain ⟨p5, hF⟩ := gd_some hF
          refine a_aald hZ.1 (hZ.2 1 0 (by decide) Nat.one_pos) rfl rfl rfl rfl (inb_vp p5) (inb_lt p5) dX10_works_47 ?_
          refine a_astore [(6, .ref (za Z 2 a1.toNatClampNeg)), (0, .ref (za Z 0 0)), (1, .int a1), (2, .int a2), (3, .int a3), (4, .int a4), (5, .int a5)] dX10_works_48 (by decide) rfl ?_
          refine a_aload dX10_works_50 0 rfl ?_
          refine a_iload_n dX10_works_52 3 rfl rfl ?_
          refine a_iconst (v := (2 : Int32)) dX10_works_53 (by decide) ?_
          refine a_iload_n dX10_works_54 4 rfl rfl ?_
          refine a_imul dX10_works_55 ?_
          obtain ⟨r56, s56, e56, hF⟩ := bd_some hF
          refine a_invV hZ.1 (As := [.int a2, .int ((2 : Int32) * a3)]) (rest := []) (hZ.2 2 a1.toNatClampNeg (by decide) (inb_lt p5)) lk_X10_91 ⟨⟨by decide, by decide⟩, by decide, by decide⟩ rfl (Nat.le_of_ble_eq_true rfl) dX10_works_56 (m_X7_findingAt hZ (inb_lt p5) e56) ?_
          show AW Z l iX10_works (Pq (rI R)) 0 0 59 [(6, .ref (za Z 2 a1.toNatClampNeg)), (0, .ref (za Z 0 0)), (1, .int a1), (2, .int a2), (3, .int a3), (4, .int a4), (5, .int a5)] [.int r56] s56
          refine a_istore [(7, .int r56), (6, .ref (za Z 2 a1.toNatClampNeg)), (0, .ref (za Z 0 0)), (1, .int a1), (2, .int a2), (3, .int a3), (4, .int a4), (5, .int a5)] dX10_works_59 (by decide) rfl ?_
          refine a_iload dX10_works_61 0 rfl ?_
          refine a_if_eq 73 dX10_works_63 (by decide) (fun q6 => ?_) (fun q6 => ?_)
          · replace hF := (if_pos q6).symm.trans hF
            refine a_aload_n dX10_works_73 2 rfl rfl ?_
            refine a_getR hZ.1 (hZ.2 0 0 (by decide) Nat.one_pos) fl_X10_52 rfl 0 rfl dX10_works_74 ?_
            refine a_aload dX10_works_77 1 rfl ?_
            refine a_getR hZ.1 (hZ.2 2 a1.toNatClampNeg (by decide) (inb_lt p5)) fl_X10_110 rfl a1.toNatClampNeg rfl dX10_works_79 ?_
            refine a_iload_n dX10_works_82 4 rfl rfl ?_
            refine a_iload_n dX10_works_83 5 rfl rfl ?_
            obtain ⟨r84, s84, e84, hF⟩ := bd_some hF
            refine a_invV hZ.1 (As := [.ref (za Z 3 a1.toNatClampNeg), .int a2, .int a3]) (rest := []) (hZ.2 35 0 (by decide) Nat.one_pos) lk_X10_262 ⟨⟨by decide, by decide⟩, by decide, by decide⟩ rfl (Nat.le_of_ble_eq_true rfl) dX10_works_84 (m_X9_take hZ (hZ.2 3 a1.toNatClampNeg (by decide) (inb_lt p5)) rfl rfl e84) ?_
            show AW Z l iX10_works (Pq (rI R)) 0 0 87 [(7, .int r56), (6, .ref (za Z 2 a1.toNatClampNeg)), (0, .ref (za Z 0 0)), (1, .int a1), (2, .int a2), (3, .int a3), (4, .int a4), (5, .int a5)] [.int r84] s84
            refine a_if_ne 93 dX10_works_87 (by decide) (fun q7 => ?_) (fun q7 => ?_)
            · replace hF := (if_neg q7).symm.trans hF
              refine a_aload_n dX10_works_93 2 rfl rfl ?_
              refine a_getR hZ.1 (hZ.2 0 0 (by decide) Nat.one_pos) fl_X10_52 rfl 0 rfl dX10_works_94 ?_
              refine a_iload_n dX10_works_97 5 rfl rfl ?_
              refine a_iload dX10_works_98 6 rfl ?_
              obtain ⟨r100, s100, e100, hF⟩ := bd_some hF
              refine a_invV hZ.1 (As := [.int a3, .int a4]) (rest := []) (hZ.2 35 0 (by decide) Nat.one_pos) lk_X10_263 ⟨⟨by decide, by decide⟩, by decide, by decide⟩ rfl (Nat.le_of_ble_eq_true rfl) dX10_works_100 (m_X9_choose hZ  e100) ?_
              show AW Z l iX10_works (Pq (rI R)) 0 0 103 [(7, .int r56), (6, .ref (za Z 2 a1.toNatClampNeg)), (0, .ref (za Z 0 0)), (1, .int a1), (2, .int a2), (3, .int a3), (4, .int a4), (5, .int a5)] [] s100
              refine a_aload_n dX10_works_103 2 rfl rfl ?_
              refine a_aload_n dX10_works_104 2 rfl rfl ?_
              refine a_getR hZ.1 (hZ.2 0 0 (by decide) Nat.one_pos) fl_X10_52 rfl 0 rfl dX10_works_105 ?_
              refine a_iload dX10_works_108 7 rfl ?_
              obtain ⟨r110, s110, e110, hF⟩ := bd_some hF
              refine a_invV hZ.1 (As := [.int a5]) (rest := [.ref (za Z 0 0)]) (hZ.2 35 0 (by decide) Nat.one_pos) lk_X10_266 ⟨⟨by decide, by decide⟩, by decide, by decide⟩ rfl (Nat.le_of_ble_eq_true rfl) dX10_works_110 (m_X9_tells hZ  e110) ?_
              show AW Z l iX10_works (Pq (rI R)) 0 0 113 [(7, .int r56), (6, .ref (za Z 2 a1.toNatClampNeg)), (0, .ref (za Z 0 0)), (1, .int a1), (2, .int a2), (3, .int a3), (4, .int a4), (5, .int a5)] [.int r110, .ref (za Z 0 0)] s110
              obtain ⟨r113, s113, e113, hF⟩ := bd_some hF
              refine a_invV hZ.1 (As := [.int r110]) (rest := []) (hZ.2 0 0 (by decide) Nat.one_pos) lk_X10_88 ⟨⟨by decide, by decide⟩, by decide, by decide⟩ rfl (Nat.le_of_ble_eq_true rfl) dX10_works_113 (m_X10_unfound hZ  e113) ?_
              show AW Z l iX10_works (Pq (rI R)) 0 0 116 [(7, .int r56), (6, .ref (za Z 2 a1.toNatClampNeg)), (0, .ref (za Z 0 0)), (1, .int a1), (2, .int a2), (3, .int a3), (4, .int a4), (5, .int a5)] [.int r113] s113
              replace hF := Option.some.inj hF
              subst hF
              exact a_iret rfl (Nat.zero_le _) (Nat.zero_le _) dX10_works_116 ⟨rfl, rfl⟩
            · replace hF := (if_pos q7).symm.trans hF
              refine a_ldc (v := (-1000001)) kw_324 dX10_works_90 ?_
              replace hF := Option.some.inj hF
              subst hF
              exact a_iret rfl (Nat.zero_le _) (Nat.zero_le _) dX10_works_92 ⟨rfl, rfl⟩
          · replace hF := (if_neg q6).symm.trans hF
            refine a_aload_n dX10_works_66 2 rfl rfl ?_
            refine a_iload dX10_works_67 0 rfl ?_
            obtain ⟨r69, s69, e69, hF⟩ := bd_some hF
            refine a_invV hZ.1 (As := [.int r56]) (rest := []) (hZ.2 0 0 (by decide) Nat.one_pos) lk_X10_80 ⟨⟨by decide, by decide⟩, by decide, by decide⟩ rfl (Nat.le_of_ble_eq_true rfl) dX10_works_69 (m_X10_found hZ  e69) ?_
            show AW Z l iX10_works (Pq (rI R)) 0 0 72 [(7, .int r56), (6, .ref (za Z 2 a1.toNatClampNeg)), (0, .ref (za Z 0 0)), (1, .int a1), (2, .int a2), (3, .int a3), (4, .int a4), (5, .int a5)] [.int r69] s69
            replace hF := Option.some.inj hF
            subst hF
            exact a_iret rfl (Nat.zero_le _) (Nat.zero_le _) dX10_works_72 ⟨rfl, rfl⟩
        · replace hF := (if_pos q4).symm.trans hF
          refine a_ldc (v := (-1000001)) kw_324 dX10_works_39 ?_
          replace hF := Option.some.inj hF
          subst hF
          exact a_iret rfl (Nat.zero_le _) (Nat.zero_le _) dX10_works_41 ⟨rfl, rfl⟩
theorem m_X10_works {Z : ZE} {l : Launch} (hZ : OkX Z) {a1 : Int32} {a2 : Int32} {a3 : Int32} {a4 : Int32} {a5 : Int32}  {s : St} {R : Int32 × St} (hF : F_X10_works (zg Z) a1 a2 a3 a4 a5 s = some R) : Sp Z l yX10_works iX10_works [.ref (za Z 0 0), .int a1, .int a2, .int a3, .int a4, .int a5] s (rI R) :=
  Sp.of (by decide) rfl (Nat.le_of_ble_eq_true rfl) (w_X10_works hZ  s hF)
-- X11_finding
set_option maxRecDepth 100000 in
set_option maxHeartbeats 4000000 in
theorem w_X11_finding {Z : ZE} {l : Launch} (hZ : OkM Z) {a1 : Int32}  {R : Int32 × St}    (s : St) (hF : F_X11_finding (zg Z) a1  s = some R) : AW Z l iX11_finding (Pq (rI R)) 0 0 0 [(0, .ref (za Z 60 0)), (1, .int a1)] [] s := by
  unfold F_X11_finding at hF
  refine a_aload_n dX11_finding_0 0 rfl rfl ?_
  refine a_iload_n dX11_finding_1 1 rfl rfl ?_
  refine a_put hZ.1 (hZ.2 60 0 (by decide) (by decide) Nat.one_pos) fl_X11_7 rfl rfl rfl dX11_finding_2 ?_
  refine a_ldc (v := (-1000010)) kw_1141 dX11_finding_5 ?_
  refine a_iload_n dX11_finding_7 1 rfl rfl ?_
  refine a_isub dX11_finding_8 ?_
  replace hF := Option.some.inj hF
  subst hF
  exact a_iret rfl (Nat.zero_le _) (Nat.zero_le _) dX11_finding_9 ⟨rfl, rfl⟩
theorem m_X11_finding {Z : ZE} {l : Launch} (hZ : OkM Z) {a1 : Int32}  {s : St} {R : Int32 × St} (hF : F_X11_finding (zg Z) a1 s = some R) : Sp Z l yX11_finding iX11_finding [.ref (za Z 60 0), .int a1] s (rI R) :=
  Sp.of (by decide) rfl (Nat.le_of_ble_eq_true rfl) (w_X11_finding hZ  s hF)
-- X11_in
set_option maxRecDepth 100000 in
set_option maxHeartbeats 4000000 in
theorem w_X11_in {Z : ZE} {l : Launch} (hZ : OkM Z) {a0 : Int64} {a2 : Int64} {a4 : Int64}  {R : Int32 × St}    (s : St) (hF : F_X11_in (zg Z) a0 a2 a4  s = some R) : AW Z l iX11_in (Pq (rI R)) 0 0 0 [(0, .long a0), (2, .long a2), (4, .long a4)] [] s := by
  unfold F_X11_in at hF
  refine a_lload_n dX11_in_0 0 rfl rfl ?_
  refine a_lload_n dX11_in_1 1 rfl rfl ?_
  refine a_lcmp dX11_in_2 ?_
  refine a_if_lt 17 dX11_in_3 (by decide) (fun q1 => ?_) (fun q1 => ?_)
  · replace hF := (if_pos q1).symm.trans hF
    refine a_iconst (v := (0 : Int32)) dX11_in_17 (by decide) ?_
    replace hF := Option.some.inj hF
    subst hF
    exact a_zret rfl rfl (Nat.zero_le _) (Nat.zero_le _) dX11_in_18 ⟨rfl, rfl⟩
  · replace hF := (if_neg q1).symm.trans hF
    refine a_lload_n dX11_in_6 0 rfl rfl ?_
    refine a_lload dX11_in_7 2 rfl ?_
    refine a_lcmp dX11_in_9 ?_
    refine a_if_gt 17 dX11_in_10 (by decide) (fun q2 => ?_) (fun q2 => ?_)
    · replace hF := (if_pos q2).symm.trans hF
      refine a_iconst (v := (0 : Int32)) dX11_in_17 (by decide) ?_
      replace hF := Option.some.inj hF
      subst hF
      exact a_zret rfl rfl (Nat.zero_le _) (Nat.zero_le _) dX11_in_18 ⟨rfl, rfl⟩
    · replace hF := (if_neg q2).symm.trans hF
      refine a_iconst (v := (1 : Int32)) dX11_in_13 (by decide) ?_
      refine a_goto 18 dX11_in_14 (by decide) ?_
      replace hF := Option.some.inj hF
      subst hF
      exact a_zret rfl rfl (Nat.zero_le _) (Nat.zero_le _) dX11_in_18 ⟨rfl, rfl⟩
theorem m_X11_in {Z : ZE} {l : Launch} (hZ : OkM Z) {a0 : Int64} {a2 : Int64} {a4 : Int64}  {s : St} {R : Int32 × St} (hF : F_X11_in (zg Z) a0 a2 a4 s = some R) : Sp Z l yX11_in iX11_in [.long a0, .long a2, .long a4] s (rI R) :=
  Sp.of (by decide) rfl (Nat.le_of_ble_eq_true rfl) (w_X11_in hZ  s hF)
-- X11_isOf
set_option maxRecDepth 100000 in
set_option maxHeartbeats 4000000 in
theorem w_X11_isOf_34 {Z : ZE} {l : Launch} (hZ : OkM Z) {a0 : Int32} {a1 : Int32}  {R : Int32 × St}    (s : St) (hF : F_X11_isOf_34 (zg Z) a0 a1  s = some R) : AW Z l iX11_isOf (Pq (rI R)) 0 0 34 [(0, .int a0), (1, .int a1)] [] s := by
  unfold F_X11_isOf_34 at hF
  refine a_iload_n dX11_isOf_34 1 rfl rfl ?_
  refine a_iconst (v := (4 : Int32)) dX11_isOf_35 (by decide) ?_
  refine a_icmp_ne 48 dX11_isOf_36 (by decide) (fun q1 => ?_) (fun q1 => ?_)
  · replace hF := (if_neg q1).symm.trans hF
    refine a_iconst (v := (0 : Int32)) dX11_isOf_48 (by decide) ?_
    replace hF := Option.some.inj hF
    subst hF
    exact a_zret rfl rfl (Nat.zero_le _) (Nat.zero_le _) dX11_isOf_49 ⟨rfl, rfl⟩
  · replace hF := (if_pos q1).symm.trans hF
    refine a_iload_n dX11_isOf_39 0 rfl rfl ?_
    refine a_iconst (v := (5 : Int32)) dX11_isOf_40 (by decide) ?_
    refine a_icmp_ne 48 dX11_isOf_41 (by decide) (fun q2 => ?_) (fun q2 => ?_)
    · replace hF := (if_neg q2).symm.trans hF
      refine a_iconst (v := (0 : Int32)) dX11_isOf_48 (by decide) ?_
      replace hF := Option.some.inj hF
      subst hF
      exact a_zret rfl rfl (Nat.zero_le _) (Nat.zero_le _) dX11_isOf_49 ⟨rfl, rfl⟩
    · replace hF := (if_pos q2).symm.trans hF
      refine a_iconst (v := (1 : Int32)) dX11_isOf_44 (by decide) ?_
      refine a_goto 49 dX11_isOf_45 (by decide) ?_
      replace hF := Option.some.inj hF
      subst hF
      exact a_zret rfl rfl (Nat.zero_le _) (Nat.zero_le _) dX11_isOf_49 ⟨rfl, rfl⟩
set_option maxRecDepth 100000 in
set_option maxHeartbeats 4000000 in
theorem w_X11_isOf_24 {Z : ZE} {l : Launch} (hZ : OkM Z) {a0 : Int32} {a1 : Int32}  {R : Int32 × St}    (s : St) (hF : F_X11_isOf_24 (zg Z) a0 a1  s = some R) : AW Z l iX11_isOf (Pq (rI R)) 0 0 24 [(0, .int a0), (1, .int a1)] [] s := by
  unfold F_X11_isOf_24 at hF
  refine a_iload_n dX11_isOf_24 1 rfl rfl ?_
  refine a_iconst (v := (2 : Int32)) dX11_isOf_25 (by decide) ?_
  refine a_icmp_ne 34 dX11_isOf_26 (by decide) (fun q1 => ?_) (fun q1 => ?_)
  · replace hF := (if_neg q1).symm.trans hF
    exact w_X11_isOf_34 (l := l) hZ     _ hF
  · replace hF := (if_pos q1).symm.trans hF
    refine a_iload_n dX11_isOf_29 0 rfl rfl ?_
    refine a_iconst (v := (3 : Int32)) dX11_isOf_30 (by decide) ?_
    refine a_icmp_eq 44 dX11_isOf_31 (by decide) (fun q2 => ?_) (fun q2 => ?_)
    · replace hF := (if_pos q2).symm.trans hF
      refine a_iconst (v := (1 : Int32)) dX11_isOf_44 (by decide) ?_
      refine a_goto 49 dX11_isOf_45 (by decide) ?_
      replace hF := Option.some.inj hF
      subst hF
      exact a_zret rfl rfl (Nat.zero_le _) (Nat.zero_le _) dX11_isOf_49 ⟨rfl, rfl⟩
    · replace hF := (if_neg q2).symm.trans hF
      exact w_X11_isOf_34 (l := l) hZ     _ hF
set_option maxRecDepth 100000 in
set_option maxHeartbeats 4000000 in
theorem w_X11_isOf {Z : ZE} {l : Launch} (hZ : OkM Z) {a0 : Int32} {a1 : Int32}  {R : Int32 × St}    (s : St) (hF : F_X11_isOf (zg Z) a0 a1  s = some R) : AW Z l iX11_isOf (Pq (rI R)) 0 0 0 [(0, .int a0), (1, .int a1)] [] s := by
  unfold F_X11_isOf at hF
  refine a_iload_n dX11_isOf_0 1 rfl rfl ?_
  refine a_if_eq 44 dX11_isOf_1 (by decide) (fun q1 => ?_) (fun q1 => ?_)
  · replace hF := (if_pos q1).symm.trans hF
    refine a_iconst (v := (1 : Int32)) dX11_isOf_44 (by decide) ?_
    refine a_goto 49 dX11_isOf_45 (by decide) ?_
    replace hF := Option.some.inj hF
    subst hF
    exact a_zret rfl rfl (Nat.zero_le _) (Nat.zero_le _) dX11_isOf_49 ⟨rfl, rfl⟩
  · replace hF := (if_neg q1).symm.trans hF
    refine a_iload_n dX11_isOf_4 0 rfl rfl ?_
    refine a_iload_n dX11_isOf_5 1 rfl rfl ?_
    refine a_icmp_eq 44 dX11_isOf_6 (by decide) (fun q2 => ?_) (fun q2 => ?_)
    · replace hF := (if_pos q2).symm.trans hF
      refine a_iconst (v := (1 : Int32)) dX11_isOf_44 (by decide) ?_
      refine a_goto 49 dX11_isOf_45 (by decide) ?_
      replace hF := Option.some.inj hF
      subst hF
      exact a_zret rfl rfl (Nat.zero_le _) (Nat.zero_le _) dX11_isOf_49 ⟨rfl, rfl⟩
    · replace hF := (if_neg q2).symm.trans hF
      refine a_iload_n dX11_isOf_9 1 rfl rfl ?_
      refine a_iconst (v := (1 : Int32)) dX11_isOf_10 (by decide) ?_
      refine a_icmp_ne 24 dX11_isOf_11 (by decide) (fun q3 => ?_) (fun q3 => ?_)
      · replace hF := (if_neg q3).symm.trans hF
        exact w_X11_isOf_24 (l := l) hZ     _ hF
      · replace hF := (if_pos q3).symm.trans hF
        refine a_iload_n dX11_isOf_14 0 rfl rfl ?_
        refine a_iconst (v := (2 : Int32)) dX11_isOf_15 (by decide) ?_
        refine a_icmp_eq 44 dX11_isOf_16 (by decide) (fun q4 => ?_) (fun q4 => ?_)
        · replace hF := (if_pos q4).symm.trans hF
          refine a_iconst (v := (1 : Int32)) dX11_isOf_44 (by decide) ?_
          refine a_goto 49 dX11_isOf_45 (by decide) ?_
          replace hF := Option.some.inj hF
          subst hF
          exact a_zret rfl rfl (Nat.zero_le _) (Nat.zero_le _) dX11_isOf_49 ⟨rfl, rfl⟩
        · replace hF := (if_neg q4).symm.trans hF
          refine a_iload_n dX11_isOf_19 0 rfl rfl ?_
          refine a_iconst (v := (3 : Int32)) dX11_isOf_20 (by decide) ?_
          refine a_icmp_eq 44 dX11_isOf_21 (by decide) (fun q5 => ?_) (fun q5 => ?_)
          · replace hF := (if_pos q5).symm.trans hF
            refine a_iconst (v := (1 : Int32)) dX11_isOf_44 (by decide) ?_
            refine a_goto 49 dX11_isOf_45 (by decide) ?_
            replace hF := Option.some.inj hF
            subst hF
            exact a_zret rfl rfl (Nat.zero_le _) (Nat.zero_le _) dX11_isOf_49 ⟨rfl, rfl⟩
          · replace hF := (if_neg q5).symm.trans hF
            exact w_X11_isOf_24 (l := l) hZ     _ hF
theorem m_X11_isOf {Z : ZE} {l : Launch} (hZ : OkM Z) {a0 : Int32} {a1 : Int32}  {s : St} {R : Int32 × St} (hF : F_X11_isOf (zg Z) a0 a1 s = some R) : Sp Z l yX11_isOf iX11_isOf [.int a0, .int a1] s (rI R) :=
  Sp.of (by decide) rfl (Nat.le_of_ble_eq_true rfl) (w_X11_isOf hZ  s hF)
-- X11_isThing
set_option maxRecDepth 100000 in
set_option maxHeartbeats 4000000 in
theorem w_X11_isThing {Z : ZE} {l : Launch} (hZ : OkM Z) {a1 : Int32}  {R : Int32 × St}    (s : St) (hF : F_X11_isThing (zg Z) a1  s = some R) : AW Z l iX11_isThing (Pq (rI R)) 0 0 0 [(0, .ref (za Z 60 0)), (1, .int a1)] [] s := by
  unfold F_X11_isThing at hF
  refine a_iload_n dX11_isThing_0 1 rfl rfl ?_
  refine a_i2l dX11_isThing_1 ?_
  refine a_lconst (v := (0 : Int64)) dX11_isThing_2 (by decide) ?_
  refine a_aload_n dX11_isThing_3 0 rfl rfl ?_
  refine a_getI hZ.1 (s 60 0 47) (hZ.2 60 0 (by decide) (by decide) Nat.one_pos) fl_X11_326 rfl rfl dX11_isThing_4 ?_
  refine a_iconst (v := (1 : Int32)) dX11_isThing_7 (by decide) ?_
  refine a_isub dX11_isThing_8 ?_
  refine a_i2l dX11_isThing_9 ?_
  obtain ⟨r10, s10, e10, hF⟩ := bd_some hF
  refine a_invS hZ.1 (As := [.long a1.toInt64, .long (0 : Int64), .long ((s 60 0 47) - (1 : Int32)).toInt64]) (rest := []) lk_X11_126 ⟨⟨by decide, by decide⟩, by decide, by decide⟩ rfl (Nat.le_of_ble_eq_true rfl) dX11_isThing_10 (m_X11_in hZ  e10) ?_
  show AW Z l iX11_isThing (Pq (rI R)) 0 0 13 [(0, .ref (za Z 60 0)), (1, .int a1)] [.int r10] s10
  obtain ⟨p1, hF⟩ := gd_some hF
  replace hF := Option.some.inj hF
  subst hF
  exact a_zret rfl (isb_n p1) (Nat.zero_le _) (Nat.zero_le _) dX11_isThing_13 ⟨rfl, rfl⟩
theorem m_X11_isThing {Z : ZE} {l : Launch} (hZ : OkM Z) {a1 : Int32}  {s : St} {R : Int32 × St} (hF : F_X11_isThing (zg Z) a1 s = some R) : Sp Z l yX11_isThing iX11_isThing [.ref (za Z 60 0), .int a1] s (rI R) :=
  Sp.of (by decide) rfl (Nat.le_of_ble_eq_true rfl) (w_X11_isThing hZ  s hF)
-- X11_as
set_option maxRecDepth 100000 in
set_option maxHeartbeats 4000000 in
theorem w_X11_as {Z : ZE} {l : Launch} (hZ : OkM Z) {a1 : Int32} {a2 : Int32}  {R : Int32 × St}    (s : St) (hF : F_X11_as (zg Z) a1 a2  s = some R) : AW Z l iX11_as (Pq (rI R)) 0 0 0 [(0, .ref (za Z 60 0)), (1, .int a1), (2, .int a2)] [] s := by
  unfold F_X11_as at hF
  refine a_aload_n dX11_as_0 0 rfl rfl ?_
  refine a_iconst (v := (0 : Int32)) dX11_as_1 (by decide) ?_
  refine a_put hZ.1 (hZ.2 60 0 (by decide) (by decide) Nat.one_pos) fl_X11_1 rfl rfl rfl dX11_as_2 ?_
  refine a_aload_n dX11_as_5 0 rfl rfl ?_
  refine a_iload_n dX11_as_6 1 rfl rfl ?_
  obtain ⟨r7, s7, e7, hF⟩ := bd_some hF
  refine a_invV hZ.1 (As := [.int a1]) (rest := []) (hZ.2 60 0 (by decide) (by decide) Nat.one_pos) lk_X11_329 ⟨⟨by decide, by decide⟩, by decide, by decide⟩ rfl (Nat.le_of_ble_eq_true rfl) dX11_as_7 (m_X11_isThing hZ  e7) ?_
  show AW Z l iX11_as (Pq (rI R)) 0 0 10 [(0, .ref (za Z 60 0)), (1, .int a1), (2, .int a2)] [.int r7] s7
  refine a_if_eq 25 dX11_as_10 (by decide) (fun q1 => ?_) (fun q1 => ?_)
  · replace hF := (if_pos q1).symm.trans hF
    refine a_ldc (v := (-1000001)) kw_1136 dX11_as_25 ?_
    replace hF := Option.some.inj hF
    subst hF
    exact a_iret rfl (Nat.zero_le _) (Nat.zero_le _) dX11_as_27 ⟨rfl, rfl⟩
  · replace hF := (if_neg q1).symm.trans hF
    refine a_iload_n dX11_as_13 2 rfl rfl ?_
    refine a_i2l dX11_as_14 ?_
    refine a_lconst (v := (0 : Int64)) dX11_as_15 (by decide) ?_
    refine a_ldc2 (v := (5 : Int64)) kw_1247 dX11_as_16 ?_
    obtain ⟨r19, s19, e19, hF⟩ := bd_some hF
    refine a_invS hZ.1 (As := [.long a2.toInt64, .long (0 : Int64), .long (5 : Int64)]) (rest := []) lk_X11_126 ⟨⟨by decide, by decide⟩, by decide, by decide⟩ rfl (Nat.le_of_ble_eq_true rfl) dX11_as_19 (m_X11_in hZ  e19) ?_
    show AW Z l iX11_as (Pq (rI R)) 0 0 22 [(0, .ref (za Z 60 0)), (1, .int a1), (2, .int a2)] [.int r19] s19
    refine a_if_ne 28 dX11_as_22 (by decide) (fun q2 => ?_) (fun q2 => ?_)
    · replace hF := (if_neg q2).symm.trans hF
      refine a_aload_n dX11_as_28 0 rfl rfl ?_
      refine a_iconst (v := (0 : Int32)) dX11_as_29 (by decide) ?_
      refine a_put hZ.1 (hZ.2 60 0 (by decide) (by decide) Nat.one_pos) fl_X11_7 rfl rfl rfl dX11_as_30 ?_
      refine a_aload_n dX11_as_33 0 rfl rfl ?_
      refine a_getR hZ.1 (hZ.2 60 0 (by decide) (by decide) Nat.one_pos) fl_X11_103 rfl 0 rfl dX11_as_34 ?_
      refine a_iload_n dX11_as_37 1 rfl rfl ?_
      obtain ⟨p3, hF⟩ := gd_some hF
      refine a_iald hZ.1 (s19 88 0 a1.toNatClampNeg) (hZ.2 88 0 (by decide) (by decide) Nat.one_pos) rfl rfl (inb_vp p3) rfl dX11_as_38 ?_
      refine a_iload_n dX11_as_39 2 rfl rfl ?_
      obtain ⟨r40, s40, e40, hF⟩ := bd_some hF
      refine a_invS hZ.1 (As := [.int (s19 88 0 a1.toNatClampNeg), .int a2]) (rest := []) lk_X11_337 ⟨⟨by decide, by decide⟩, by decide, by decide⟩ rfl (Nat.le_of_ble_eq_true rfl) dX11_as_40 (m_X11_isOf hZ  e40) ?_
      show AW Z l iX11_as (Pq (rI R)) 0 0 43 [(0, .ref (za Z 60 0)), (1, .int a1), (2, .int a2)] [.int r40] s40
      refine a_if_eq 55 dX11_as_43 (by decide) (fun q4 => ?_) (fun q4 => ?_)
      · replace hF := (if_pos q4).symm.trans hF
        refine a_aload_n dX11_as_55 0 rfl rfl ?_
        refine a_iconst (v := (3 : Int32)) dX11_as_56 (by decide) ?_
        obtain ⟨r57, s57, e57, hF⟩ := bd_some hF
        refine a_invV hZ.1 (As := [.int (3 : Int32)]) (rest := []) (hZ.2 60 0 (by decide) (by decide) Nat.one_pos) lk_X11_137 ⟨⟨by decide, by decide⟩, by decide, by decide⟩ rfl (Nat.le_of_ble_eq_true rfl) dX11_as_57 (m_X11_finding hZ  e57) ?_
        show AW Z l iX11_as (Pq (rI R)) 0 0 60 [(0, .ref (za Z 60 0)), (1, .int a1), (2, .int a2)] [.int r57] s57
        replace hF := Option.some.inj hF
        subst hF
        exact a_iret rfl (Nat.zero_le _) (Nat.zero_le _) dX11_as_60 ⟨rfl, rfl⟩
      · replace hF := (if_neg q4).symm.trans hF
        refine a_aload_n dX11_as_46 0 rfl rfl ?_
        refine a_getR hZ.1 (hZ.2 60 0 (by decide) (by decide) Nat.one_pos) fl_X11_106 rfl 0 rfl dX11_as_47 ?_
        refine a_iload_n dX11_as_50 1 rfl rfl ?_
        obtain ⟨p5, hF⟩ := gd_some hF
        refine a_iald hZ.1 (s40 89 0 a1.toNatClampNeg) (hZ.2 89 0 (by decide) (by decide) Nat.one_pos) rfl rfl (inb_vp p5) rfl dX11_as_51 ?_
        refine a_goto 60 dX11_as_52 (by decide) ?_
        replace hF := Option.some.inj hF
        subst hF
        exact a_iret rfl (Nat.zero_le _) (Nat.zero_le _) dX11_as_60 ⟨rfl, rfl⟩
    · replace hF := (if_pos q2).symm.trans hF
      refine a_ldc (v := (-1000001)) kw_1136 dX11_as_25 ?_
      replace hF := Option.some.inj hF
      subst hF
      exact a_iret rfl (Nat.zero_le _) (Nat.zero_le _) dX11_as_27 ⟨rfl, rfl⟩
theorem m_X11_as {Z : ZE} {l : Launch} (hZ : OkM Z) {a1 : Int32} {a2 : Int32}  {s : St} {R : Int32 × St} (hF : F_X11_as (zg Z) a1 a2 s = some R) : Sp Z l yX11_as iX11_as [.ref (za Z 60 0), .int a1, .int a2] s (rI R) :=
  Sp.of (by decide) rfl (Nat.le_of_ble_eq_true rfl) (w_X11_as hZ  s hF)
-- X11_began
set_option maxRecDepth 100000 in
set_option maxHeartbeats 4000000 in
theorem w_X11_began {Z : ZE} {l : Launch} (hZ : OkM Z) {a1 : Int32}  {R : Unit × St}    (s : St) (hF : F_X11_began (zg Z) a1  s = some R) : AW Z l iX11_began (Pq (rU R)) 0 0 0 [(0, .ref (za Z 60 0)), (1, .int a1)] [] s := by
  unfold F_X11_began at hF
  refine a_aload_n dX11_began_0 0 rfl rfl ?_
  refine a_getI hZ.1 (s 60 0 56) (hZ.2 60 0 (by decide) (by decide) Nat.one_pos) fl_X11_341 rfl rfl dX11_began_1 ?_
  refine a_bipush (v := (16 : Int32)) dX11_began_4 (by decide) ?_
  refine a_icmp_ge 29 dX11_began_6 (by decide) (fun q1 => ?_) (fun q1 => ?_)
  · replace hF := (if_pos q1).symm.trans hF
    replace hF := Option.some.inj hF
    subst hF
    exact a_vret rfl (Nat.zero_le _) (Nat.zero_le _) dX11_began_29 ⟨rfl, rfl⟩
  · replace hF := (if_neg q1).symm.trans hF
    refine a_aload_n dX11_began_9 0 rfl rfl ?_
    refine a_getR hZ.1 (hZ.2 60 0 (by decide) (by decide) Nat.one_pos) fl_X11_121 rfl 0 rfl dX11_began_10 ?_
    refine a_aload_n dX11_began_13 0 rfl rfl ?_
    refine a_getI hZ.1 (s 60 0 56) (hZ.2 60 0 (by decide) (by decide) Nat.one_pos) fl_X11_341 rfl rfl dX11_began_14 ?_
    refine a_iload_n dX11_began_17 1 rfl rfl ?_
    obtain ⟨p2, hF⟩ := gd_some hF
    refine a_iast hZ.1 (hZ.2 94 0 (by decide) (by decide) Nat.one_pos) rfl rfl (inb_vp p2) dX11_began_18 ?_
    refine a_aload_n dX11_began_19 0 rfl rfl ?_
    refine a_dup dX11_began_20 rfl ?_
    refine a_getI hZ.1 (s 60 0 56) (hZ.2 60 0 (by decide) (by decide) Nat.one_pos) fl_X11_341 rfl rfl dX11_began_21 ?_
    refine a_iconst (v := (1 : Int32)) dX11_began_24 (by decide) ?_
    refine a_iadd dX11_began_25 ?_
    refine a_put hZ.1 (hZ.2 60 0 (by decide) (by decide) Nat.one_pos) fl_X11_341 rfl rfl rfl dX11_began_26 ?_
    replace hF := Option.some.inj hF
    subst hF
    exact a_vret rfl (Nat.zero_le _) (Nat.zero_le _) dX11_began_29 ⟨rfl, rfl⟩
theorem m_X11_began {Z : ZE} {l : Launch} (hZ : OkM Z) {a1 : Int32}  {s : St} {R : Unit × St} (hF : F_X11_began (zg Z) a1 s = some R) : Sp Z l yX11_began iX11_began [.ref (za Z 60 0), .int a1] s (rU R) :=
  Sp.of (by decide) rfl (Nat.le_of_ble_eq_true rfl) (w_X11_began hZ  s hF)
-- X11_loanSize
set_option maxRecDepth 100000 in
set_option maxHeartbeats 4000000 in
theorem w_X11_loanSize {Z : ZE} {l : Launch} (hZ : OkM Z) {a1 : Int32}  {R : Int32 × St}    (s : St) (hF : F_X11_loanSize (zg Z) a1  s = some R) : AW Z l iX11_loanSize (Pq (rI R)) 0 0 0 [(0, .ref (za Z 60 0)), (1, .int a1)] [] s := by
  unfold F_X11_loanSize at hF
  refine a_aload_n dX11_loanSize_0 0 rfl rfl ?_
  refine a_bipush (v := (14 : Int32)) dX11_loanSize_1 (by decide) ?_
  obtain ⟨r3, s3, e3, hF⟩ := bd_some hF
  refine a_invV hZ.1 (As := [.int (14 : Int32)]) (rest := []) (hZ.2 60 0 (by decide) (by decide) Nat.one_pos) lk_X11_344 ⟨⟨by decide, by decide⟩, by decide, by decide⟩ rfl (Nat.le_of_ble_eq_true rfl) dX11_loanSize_3 (m_X11_began hZ  e3) ?_
  show AW Z l iX11_loanSize (Pq (rI R)) 0 0 6 [(0, .ref (za Z 60 0)), (1, .int a1)] [] s3
  refine a_aload_n dX11_loanSize_6 0 rfl rfl ?_
  refine a_bipush (v := (10 : Int32)) dX11_loanSize_7 (by decide) ?_
  obtain ⟨r9, s9, e9, hF⟩ := bd_some hF
  refine a_invV hZ.1 (As := [.int (10 : Int32)]) (rest := []) (hZ.2 60 0 (by decide) (by decide) Nat.one_pos) lk_X11_344 ⟨⟨by decide, by decide⟩, by decide, by decide⟩ rfl (Nat.le_of_ble_eq_true rfl) dX11_loanSize_9 (m_X11_began hZ  e9) ?_
  show AW Z l iX11_loanSize (Pq (rI R)) 0 0 12 [(0, .ref (za Z 60 0)), (1, .int a1)] [] s9
  refine a_aload_n dX11_loanSize_12 0 rfl rfl ?_
  refine a_getR hZ.1 (hZ.2 60 0 (by decide) (by decide) Nat.one_pos) fl_X11_106 rfl 0 rfl dX11_loanSize_13 ?_
  refine a_iload_n dX11_loanSize_16 1 rfl rfl ?_
  obtain ⟨p1, hF⟩ := gd_some hF
  refine a_iald hZ.1 (s9 89 0 a1.toNatClampNeg) (hZ.2 89 0 (by decide) (by decide) Nat.one_pos) rfl rfl (inb_vp p1) rfl dX11_loanSize_17 ?_
  refine a_iconst (v := (2 : Int32)) dX11_loanSize_18 (by decide) ?_
  refine a_idiv dX11_loanSize_19 (by decide) ?_
  replace hF := Option.some.inj hF
  subst hF
  exact a_iret rfl (Nat.zero_le _) (Nat.zero_le _) dX11_loanSize_20 ⟨rfl, rfl⟩
theorem m_X11_loanSize {Z : ZE} {l : Launch} (hZ : OkM Z) {a1 : Int32}  {s : St} {R : Int32 × St} (hF : F_X11_loanSize (zg Z) a1 s = some R) : Sp Z l yX11_loanSize iX11_loanSize [.ref (za Z 60 0), .int a1] s (rI R) :=
  Sp.of (by decide) rfl (Nat.le_of_ble_eq_true rfl) (w_X11_loanSize hZ  s hF)
-- X11_numberFor
set_option maxRecDepth 100000 in
set_option maxHeartbeats 4000000 in
theorem w_X11_numberFor_100 {Z : ZE} {l : Launch} (hZ : OkM Z) {a1 : Int32} {a2 : Int32} {a3 : Int32}  {R : Int32 × St}  (v4 : Int32)  (s : St) (hF : F_X11_numberFor_100 (zg Z) a1 a2 a3 v4 s = some R) : AW Z l iX11_numberFor (Pq (rI R)) 0 0 100 [(0, .ref (za Z 60 0)), (4, .int v4)] [] s := by
  unfold F_X11_numberFor_100 at hF
  refine a_iload dX11_numberFor_100 1 rfl ?_
  refine a_ldc (v := (-1000000)) kw_951 dX11_numberFor_102 ?_
  refine a_icmp_ne 111 dX11_numberFor_104 (by decide) (fun q1 => ?_) (fun q1 => ?_)
  · replace hF := (if_neg q1).symm.trans hF
    refine a_aload_n dX11_numberFor_111 0 rfl rfl ?_
    refine a_getR hZ.1 (hZ.2 60 0 (by decide) (by decide) Nat.one_pos) fl_X11_82 rfl 0 rfl dX11_numberFor_112 ?_
    refine a_iload dX11_numberFor_115 1 rfl ?_
    obtain ⟨p2, hF⟩ := gd_some hF
    refine a_iald hZ.1 (s 81 0 v4.toNatClampNeg) (hZ.2 81 0 (by decide) (by decide) Nat.one_pos) rfl rfl (inb_vp p2) rfl dX11_numberFor_117 ?_
    replace hF := Option.some.inj hF
    subst hF
    exact a_iret rfl (Nat.zero_le _) (Nat.zero_le _) dX11_numberFor_118 ⟨rfl, rfl⟩
  · replace hF := (if_pos q1).symm.trans hF
    refine a_iconst (v := (0 : Int32)) dX11_numberFor_107 (by decide) ?_
    refine a_goto 118 dX11_numberFor_108 (by decide) ?_
    replace hF := Option.some.inj hF
    subst hF
    exact a_iret rfl (Nat.zero_le _) (Nat.zero_le _) dX11_numberFor_118 ⟨rfl, rfl⟩
set_option maxRecDepth 100000 in
set_option maxHeartbeats 4000000 in
theorem w_X11_numberFor_92 {Z : ZE} {l : Launch} (hZ : OkM Z) {a1 : Int32} {a2 : Int32} {a3 : Int32}  {R : Int32 × St} (h7_ : Int32 → Int32 → St → Option (Int32 × St)) (w7_ : ∀ (v4 : Int32) (v5 : Int32)  (s : St), h7_ v4 v5 s = some R → AW Z l iX11_numberFor (Pq (rI R)) 0 0 7 [(0, .ref (za Z 60 0)), (1, .int a1), (2, .int a2), (3, .int a3), (4, .int v4), (5, .int v5)] [] s) (h100_ : Int32 → St → Option (Int32 × St)) (w100_ : ∀ (v4 : Int32)  (s : St), h100_ v4 s = some R → AW Z l iX11_numberFor (Pq (rI R)) 0 0 100 [(0, .ref (za Z 60 0)), (4, .int v4)] [] s) (v5 : Int32) (x0 : Int32)  (s : St) (hF : F_X11_numberFor_92 (zg Z) a1 a2 a3 h7_ h100_ v5 x0 s = some R) : AW Z l iX11_numberFor (Pq (rI R)) 0 0 92 [(0, .ref (za Z 60 0)), (1, .int a1), (2, .int a2), (3, .int a3), (5, .int v5)] [.int x0] s := by
  unfold F_X11_numberFor_92 at hF
  refine a_istore [(4, .int x0), (0, .ref (za Z 60 0)), (1, .int a1), (2, .int a2), (3, .int a3), (5, .int v5)] dX11_numberFor_92 (by decide) rfl ?_
  refine a_iinc [(5, .int (v5 + 1)), (4, .int x0), (0, .ref (za Z 60 0)), (1, .int a1), (2, .int a2), (3, .int a3)] dX11_numberFor_94 5 rfl rfl (by decide) rfl ?_
  refine a_goto 7 dX11_numberFor_97 (by decide) ?_
  refine a_loc [(0, .ref (za Z 60 0)), (1, .int a1), (2, .int a2), (3, .int a3), (4, .int x0), (5, .int (v5 + 1))] [2, 3, 4, 5, 1, 0] rfl ?_
  exact w7_ x0 (v5 + 1)  _ hF
set_option maxRecDepth 100000 in
set_option maxHeartbeats 4000000 in
theorem w_X11_numberFor_90 {Z : ZE} {l : Launch} (hZ : OkM Z) {a1 : Int32} {a2 : Int32} {a3 : Int32}  {R : Int32 × St} (h7_ : Int32 → Int32 → St → Option (Int32 × St)) (w7_ : ∀ (v4 : Int32) (v5 : Int32)  (s : St), h7_ v4 v5 s = some R → AW Z l iX11_numberFor (Pq (rI R)) 0 0 7 [(0, .ref (za Z 60 0)), (1, .int a1), (2, .int a2), (3, .int a3), (4, .int v4), (5, .int v5)] [] s) (h100_ : Int32 → St → Option (Int32 × St)) (w100_ : ∀ (v4 : Int32)  (s : St), h100_ v4 s = some R → AW Z l iX11_numberFor (Pq (rI R)) 0 0 100 [(0, .ref (za Z 60 0)), (4, .int v4)] [] s) (v4 : Int32) (v5 : Int32)  (s : St) (hF : F_X11_numberFor_90 (zg Z) a1 a2 a3 h7_ h100_ v4 v5 s = some R) : AW Z l iX11_numberFor (Pq (rI R)) 0 0 90 [(0, .ref (za Z 60 0)), (1, .int a1), (2, .int a2), (3, .int a3), (4, .int v4), (5, .int v5)] [] s := by
  unfold F_X11_numberFor_90 at hF
  refine a_iload dX11_numberFor_90 4 rfl ?_
  refine a_loc [(0, .ref (za Z 60 0)), (1, .int a1), (2, .int a2), (3, .int a3), (5, .int v5)] [0, 1, 2, 3, 5] rfl ?_
  exact w_X11_numberFor_92 (l := l) hZ  h7_ w7_ h100_ w100_ v5 v4  _ hF
set_option maxRecDepth 100000 in
set_option maxHeartbeats 4000000 in
theorem w_X11_numberFor_85 {Z : ZE} {l : Launch} (hZ : OkM Z) {a1 : Int32} {a2 : Int32} {a3 : Int32}  {R : Int32 × St} (h7_ : Int32 → Int32 → St → Option (Int32 × St)) (w7_ : ∀ (v4 : Int32) (v5 : Int32)  (s : St), h7_ v4 v5 s = some R → AW Z l iX11_numberFor (Pq (rI R)) 0 0 7 [(0, .ref (za Z 60 0)), (1, .int a1), (2, .int a2), (3, .int a3), (4, .int v4), (5, .int v5)] [] s) (h100_ : Int32 → St → Option (Int32 × St)) (w100_ : ∀ (v4 : Int32)  (s : St), h100_ v4 s = some R → AW Z l iX11_numberFor (Pq (rI R)) 0 0 100 [(0, .ref (za Z 60 0)), (4, .int v4)] [] s) (v5 : Int32)  (s : St) (hF : F_X11_numberFor_85 (zg Z) a1 a2 a3 h7_ h100_ v5 s = some R) : AW Z l iX11_numberFor (Pq (rI R)) 0 0 85 [(0, .ref (za Z 60 0)), (1, .int a1), (2, .int a2), (3, .int a3), (5, .int v5)] [] s := by
  unfold F_X11_numberFor_85 at hF
  refine a_iload dX11_numberFor_85 4 rfl ?_
  refine a_goto 92 dX11_numberFor_87 (by decide) ?_
  exact w_X11_numberFor_92 (l := l) hZ  h7_ w7_ h100_ w100_ v5 v5  _ hF
set_option maxRecDepth 100000 in
set_option maxHeartbeats 4000000 in
theorem w_X11_numberFor_54 {Z : ZE} {l : Launch} (hZ : OkM Z) {a1 : Int32} {a2 : Int32} {a3 : Int32}  {R : Int32 × St} (h7_ : Int32 → Int32 → St → Option (Int32 × St)) (w7_ : ∀ (v4 : Int32) (v5 : Int32)  (s : St), h7_ v4 v5 s = some R → AW Z l iX11_numberFor (Pq (rI R)) 0 0 7 [(0, .ref (za Z 60 0)), (1, .int a1), (2, .int a2), (3, .int a3), (4, .int v4), (5, .int v5)] [] s) (h100_ : Int32 → St → Option (Int32 × St)) (w100_ : ∀ (v4 : Int32)  (s : St), h100_ v4 s = some R → AW Z l iX11_numberFor (Pq (rI R)) 0 0 100 [(0, .ref (za Z 60 0)), (4, .int v4)] [] s) (v4 : Int32) (v5 : Int32) (x0 : Int32)  (s : St) (hF : F_X11_numberFor_54 (zg Z) a1 a2 a3 h7_ h100_ v4 v5 x0 s = some R) : AW Z l iX11_numberFor (Pq (rI R)) 0 0 54 [(0, .ref (za Z 60 0)), (1, .int a1), (2, .int a2), (3, .int a3), (4, .int v4), (5, .int v5)] [.int x0] s := by
  unfold F_X11_numberFor_54 at hF
  refine a_istore [(6, .int x0), (0, .ref (za Z 60 0)), (1, .int a1), (2, .int a2), (3, .int a3), (4, .int v4), (5, .int v5)] dX11_numberFor_54 (by decide) rfl ?_
  refine a_iload dX11_numberFor_56 0 rfl ?_
  refine a_if_eq 90 dX11_numberFor_58 (by decide) (fun q1 => ?_) (fun q1 => ?_)
  · replace hF := (if_pos q1).symm.trans hF
    refine a_loc [(0, .ref (za Z 60 0)), (1, .int a1), (2, .int a2), (3, .int a3), (4, .int v4), (5, .int v5)] [1, 2, 3, 4, 5, 6] rfl ?_
    exact w_X11_numberFor_90 (l := l) hZ  h7_ w7_ h100_ w100_ v4 v5  _ hF
  · replace hF := (if_neg q1).symm.trans hF
    refine a_iload dX11_numberFor_61 5 rfl ?_
    refine a_ldc (v := (-1000000)) kw_951 dX11_numberFor_63 ?_
    refine a_icmp_eq 85 dX11_numberFor_65 (by decide) (fun q2 => ?_) (fun q2 => ?_)
    · replace hF := (if_pos q2).symm.trans hF
      refine a_loc [(0, .ref (za Z 60 0)), (1, .int a1), (2, .int a2), (3, .int a3), (5, .int v5)] [1, 2, 3, 4, 6] rfl ?_
      exact w_X11_numberFor_85 (l := l) hZ  h7_ w7_ h100_ w100_ v5  _ hF
    · replace hF := (if_neg q2).symm.trans hF
      refine a_aload_n dX11_numberFor_68 1 rfl rfl ?_
      refine a_getR hZ.1 (hZ.2 60 0 (by decide) (by decide) Nat.one_pos) fl_X11_73 rfl 0 rfl dX11_numberFor_69 ?_
      refine a_iload dX11_numberFor_72 6 rfl ?_
      obtain ⟨p3, hF⟩ := gd_some hF
      refine a_iald hZ.1 (s 78 0 v5.toNatClampNeg) (hZ.2 78 0 (by decide) (by decide) Nat.one_pos) rfl rfl (inb_vp p3) rfl dX11_numberFor_74 ?_
      refine a_aload_n dX11_numberFor_75 1 rfl rfl ?_
      refine a_getR hZ.1 (hZ.2 60 0 (by decide) (by decide) Nat.one_pos) fl_X11_73 rfl 0 rfl dX11_numberFor_76 ?_
      refine a_iload dX11_numberFor_79 5 rfl ?_
      obtain ⟨p4, hF⟩ := gd_some hF
      refine a_iald hZ.1 (s 78 0 v4.toNatClampNeg) (hZ.2 78 0 (by decide) (by decide) Nat.one_pos) rfl rfl (inb_vp p4) rfl dX11_numberFor_81 ?_
      refine a_icmp_lt 90 dX11_numberFor_82 (by decide) (fun q5 => ?_) (fun q5 => ?_)
      · replace hF := (if_pos q5).symm.trans hF
        refine a_loc [(0, .ref (za Z 60 0)), (1, .int a1), (2, .int a2), (3, .int a3), (4, .int v4), (5, .int v5)] [1, 2, 3, 4, 5, 6] rfl ?_
        exact w_X11_numberFor_90 (l := l) hZ  h7_ w7_ h100_ w100_ v4 v5  _ hF
      · replace hF := (if_neg q5).symm.trans hF
        refine a_loc [(0, .ref (za Z 60 0)), (1, .int a1), (2, .int a2), (3, .int a3), (5, .int v5)] [1, 2, 3, 4, 6] rfl ?_
        exact w_X11_numberFor_85 (l := l) hZ  h7_ w7_ h100_ w100_ v5  _ hF
set_option maxRecDepth 100000 in
set_option maxHeartbeats 4000000 in
theorem w_X11_numberFor_53 {Z : ZE} {l : Launch} (hZ : OkM Z) {a1 : Int32} {a2 : Int32} {a3 : Int32}  {R : Int32 × St} (h7_ : Int32 → Int32 → St → Option (Int32 × St)) (w7_ : ∀ (v4 : Int32) (v5 : Int32)  (s : St), h7_ v4 v5 s = some R → AW Z l iX11_numberFor (Pq (rI R)) 0 0 7 [(0, .ref (za Z 60 0)), (1, .int a1), (2, .int a2), (3, .int a3), (4, .int v4), (5, .int v5)] [] s) (h100_ : Int32 → St → Option (Int32 × St)) (w100_ : ∀ (v4 : Int32)  (s : St), h100_ v4 s = some R → AW Z l iX11_numberFor (Pq (rI R)) 0 0 100 [(0, .ref (za Z 60 0)), (4, .int v4)] [] s) (v4 : Int32) (v5 : Int32)  (s : St) (hF : F_X11_numberFor_53 (zg Z) a1 a2 a3 h7_ h100_ v4 v5 s = some R) : AW Z l iX11_numberFor (Pq (rI R)) 0 0 53 [(0, .ref (za Z 60 0)), (1, .int a1), (2, .int a2), (3, .int a3), (4, .int v4), (5, .int v5)] [] s := by
  unfold F_X11_numberFor_53 at hF
  refine a_iconst (v := (0 : Int32)) dX11_numberFor_53 (by decide) ?_
  exact w_X11_numberFor_54 (l := l) hZ  h7_ w7_ h100_ w100_ v4 v5 (0 : Int32)  _ hF
set_option maxRecDepth 100000 in
set_option maxHeartbeats 4000000 in
theorem w_X11_numberFor_7 {Z : ZE} {l : Launch} (hZ : OkM Z) {a1 : Int32} {a2 : Int32} {a3 : Int32}  {R : Int32 × St} (h100_ : Int32 → St → Option (Int32 × St)) (w100_ : ∀ (v4 : Int32)  (s : St), h100_ v4 s = some R → AW Z l iX11_numberFor (Pq (rI R)) 0 0 100 [(0, .ref (za Z 60 0)), (4, .int v4)] [] s) : ∀ (n_ : Nat) (v4 : Int32) (v5 : Int32)  (s : St), F_X11_numberFor_7 (zg Z) a1 a2 a3 h100_ n_ v4 v5 s = some R → AW Z l iX11_numberFor (Pq (rI R)) 0 0 7 [(0, .ref (za Z 60 0)), (1, .int a1), (2, .int a2), (3, .int a3), (4, .int v4), (5, .int v5)] [] s := by
  intro n_
  induction n_ with
  | zero =>
    intro v4 v5 s hF
    exact absurd hF (by rw [F_X11_numberFor_7]; exact fun q => by cases q)
  | succ n_ w7_ =>
    intro v4 v5 s hF
    rw [F_X11_numberFor_7] at hF
    refine a_iload dX11_numberFor_7 5 rfl ?_
    refine a_aload_n dX11_numberFor_9 0 rfl rfl ?_
    refine a_getI hZ.1 (s 60 0 24) (hZ.2 60 0 (by decide) (by decide) Nat.one_pos) fl_X11_286 rfl rfl dX11_numberFor_10 ?_
    refine a_icmp_ge 100 dX11_numberFor_13 (by decide) (fun q1 => ?_) (fun q1 => ?_)
    · replace hF := (if_pos q1).symm.trans hF
      refine a_loc [(0, .ref (za Z 60 0)), (4, .int v4)] [0, 4] rfl ?_
      exact w100_ v4  _ hF
    · replace hF := (if_neg q1).symm.trans hF
      refine a_aload_n dX11_numberFor_16 0 rfl rfl ?_
      refine a_getR hZ.1 (hZ.2 60 0 (by decide) (by decide) Nat.one_pos) fl_X11_76 rfl 0 rfl dX11_numberFor_17 ?_
      refine a_iload dX11_numberFor_20 5 rfl ?_
      obtain ⟨p2, hF⟩ := gd_some hF
      refine a_iald hZ.1 (s 79 0 v5.toNatClampNeg) (hZ.2 79 0 (by decide) (by decide) Nat.one_pos) rfl rfl (inb_vp p2) rfl dX11_numberFor_22 ?_
      refine a_iload_n dX11_numberFor_23 2 rfl rfl ?_
      refine a_icmp_ne 53 dX11_numberFor_24 (by decide) (fun q3 => ?_) (fun q3 => ?_)
      · replace hF := (if_neg q3).symm.trans hF
        exact w_X11_numberFor_53 (l := l) hZ  (F_X11_numberFor_7 (zg Z) a1 a2 a3 h100_ n_) w7_ h100_ w100_ v4 v5  _ hF
      · replace hF := (if_pos q3).symm.trans hF
        refine a_aload_n dX11_numberFor_27 0 rfl rfl ?_
        refine a_getR hZ.1 (hZ.2 60 0 (by decide) (by decide) Nat.one_pos) fl_X11_79 rfl 0 rfl dX11_numberFor_28 ?_
        refine a_iload dX11_numberFor_31 5 rfl ?_
        obtain ⟨p4, hF⟩ := gd_some hF
        refine a_iald hZ.1 (s 80 0 v5.toNatClampNeg) (hZ.2 80 0 (by decide) (by decide) Nat.one_pos) rfl rfl (inb_vp p4) rfl dX11_numberFor_33 ?_
        refine a_iload_n dX11_numberFor_34 3 rfl rfl ?_
        refine a_icmp_ne 53 dX11_numberFor_35 (by decide) (fun q5 => ?_) (fun q5 => ?_)
        · replace hF := (if_neg q5).symm.trans hF
          exact w_X11_numberFor_53 (l := l) hZ  (F_X11_numberFor_7 (zg Z) a1 a2 a3 h100_ n_) w7_ h100_ w100_ v4 v5  _ hF
        · replace hF := (if_pos q5).symm.trans hF
          refine a_aload_n dX11_numberFor_38 0 rfl rfl ?_
          refine a_getR hZ.1 (hZ.2 60 0 (by decide) (by decide) Nat.one_pos) fl_X11_73 rfl 0 rfl dX11_numberFor_39 ?_
          refine a_iload dX11_numberFor_42 5 rfl ?_
          obtain ⟨p6, hF⟩ := gd_some hF
          refine a_iald hZ.1 (s 78 0 v5.toNatClampNeg) (hZ.2 78 0 (by decide) (by decide) Nat.one_pos) rfl rfl (inb_vp p6) rfl dX11_numberFor_44 ?_
          refine a_iload_n dX11_numberFor_45 1 rfl rfl ?_
          refine a_icmp_gt 53 dX11_numberFor_46 (by decide) (fun q7 => ?_) (fun q7 => ?_)
          · replace hF := (if_pos q7).symm.trans hF
            exact w_X11_numberFor_53 (l := l) hZ  (F_X11_numberFor_7 (zg Z) a1 a2 a3 h100_ n_) w7_ h100_ w100_ v4 v5  _ hF
          · replace hF := (if_neg q7).symm.trans hF
            refine a_iconst (v := (1 : Int32)) dX11_numberFor_49 (by decide) ?_
            refine a_goto 54 dX11_numberFor_50 (by decide) ?_
            exact w_X11_numberFor_54 (l := l) hZ  (F_X11_numberFor_7 (zg Z) a1 a2 a3 h100_ n_) w7_ h100_ w100_ v4 v5 (1 : Int32)  _ hF
set_option maxRecDepth 100000 in
set_option maxHeartbeats 4000000 in
theorem w_X11_numberFor {Z : ZE} {l : Launch} (hZ : OkM Z) {a1 : Int32} {a2 : Int32} {a3 : Int32}  {R : Int32 × St}    (s : St) (hF : F_X11_numberFor (zg Z) a1 a2 a3  s = some R) : AW Z l iX11_numberFor (Pq (rI R)) 0 0 0 [(0, .ref (za Z 60 0)), (1, .int a1), (2, .int a2), (3, .int a3)] [] s := by
  unfold F_X11_numberFor at hF
  refine a_ldc (v := (-1000000)) kw_951 dX11_numberFor_0 ?_
  refine a_istore [(4, .int (-1000000)), (0, .ref (za Z 60 0)), (1, .int a1), (2, .int a2), (3, .int a3)] dX11_numberFor_2 (by decide) rfl ?_
  refine a_iconst (v := (0 : Int32)) dX11_numberFor_4 (by decide) ?_
  refine a_istore [(5, .int (0 : Int32)), (4, .int (-1000000)), (0, .ref (za Z 60 0)), (1, .int a1), (2, .int a2), (3, .int a3)] dX11_numberFor_5 (by decide) rfl ?_
  refine a_loc [(0, .ref (za Z 60 0)), (1, .int a1), (2, .int a2), (3, .int a3), (4, .int (-1000000)), (5, .int (0 : Int32))] [2, 3, 4, 5, 1, 0] rfl ?_
  exact w_X11_numberFor_7 (l := l) hZ  (F_X11_numberFor_100 (zg Z) a1 a2 a3 ) (w_X11_numberFor_100 (l := l) hZ  ) fu (-1000000) (0 : Int32)  _ hF
theorem m_X11_numberFor {Z : ZE} {l : Launch} (hZ : OkM Z) {a1 : Int32} {a2 : Int32} {a3 : Int32}  {s : St} {R : Int32 × St} (hF : F_X11_numberFor (zg Z) a1 a2 a3 s = some R) : Sp Z l yX11_numberFor iX11_numberFor [.ref (za Z 60 0), .int a1, .int a2, .int a3] s (rI R) :=
  Sp.of (by decide) rfl (Nat.le_of_ble_eq_true rfl) (w_X11_numberFor hZ  s hF)
-- X11_markOf
set_option maxRecDepth 100000 in
set_option maxHeartbeats 4000000 in
theorem w_X11_markOf_91 {Z : ZE} {l : Launch} (hZ : OkM Z) {a1 : Int32}  {R : Int32 × St}  (v2 : Int32) (x0 : Int32) (x1 : Int32)  (s : St) (hF : F_X11_markOf_91 (zg Z) a1 v2 x0 x1 s = some R) : AW Z l iX11_markOf (Pq (rI R)) 0 0 91 [(0, .ref (za Z 60 0)), (1, .int a1), (2, .int v2)] [.int x1, .int x0] s := by
  unfold F_X11_markOf_91 at hF
  refine a_iadd dX11_markOf_91 ?_
  refine a_istore_n [(3, .int (x0 + x1)), (0, .ref (za Z 60 0)), (1, .int a1), (2, .int v2)] dX11_markOf_92 rfl (by decide) rfl ?_
  refine a_iload_n dX11_markOf_93 3 rfl rfl ?_
  refine a_iconst (v := (5 : Int32)) dX11_markOf_94 (by decide) ?_
  refine a_icmp_ne 108 dX11_markOf_95 (by decide) (fun q1 => ?_) (fun q1 => ?_)
  · replace hF := (if_neg q1).symm.trans hF
    refine a_iload_n dX11_markOf_108 0 rfl rfl ?_
    replace hF := Option.some.inj hF
    subst hF
    exact a_iret rfl (Nat.zero_le _) (Nat.zero_le _) dX11_markOf_109 ⟨rfl, rfl⟩
  · replace hF := (if_pos q1).symm.trans hF
    refine a_iload_n dX11_markOf_98 0 rfl rfl ?_
    refine a_aload_n dX11_markOf_99 1 rfl rfl ?_
    refine a_iload_n dX11_markOf_100 2 rfl rfl ?_
    obtain ⟨r101, s101, e101, hF⟩ := bd_some hF
    refine a_invV hZ.1 (As := [.int a1]) (rest := [.int (x0 + x1)]) (hZ.2 60 0 (by decide) (by decide) Nat.one_pos) lk_X11_347 ⟨⟨by decide, by decide⟩, by decide, by decide⟩ rfl (Nat.le_of_ble_eq_true rfl) dX11_markOf_101 (m_X11_loanSize hZ  e101) ?_
    show AW Z l iX11_markOf (Pq (rI R)) 0 0 104 [(3, .int (x0 + x1)), (0, .ref (za Z 60 0)), (1, .int a1), (2, .int v2)] [.int r101, .int (x0 + x1)] s101
    refine a_iadd dX11_markOf_104 ?_
    refine a_goto 109 dX11_markOf_105 (by decide) ?_
    replace hF := Option.some.inj hF
    subst hF
    exact a_iret rfl (Nat.zero_le _) (Nat.zero_le _) dX11_markOf_109 ⟨rfl, rfl⟩
set_option maxRecDepth 100000 in
set_option maxHeartbeats 4000000 in
theorem w_X11_markOf_46 {Z : ZE} {l : Launch} (hZ : OkM Z) {a1 : Int32}  {R : Int32 × St}  (v2 : Int32)  (s : St) (hF : F_X11_markOf_46 (zg Z) a1 v2 s = some R) : AW Z l iX11_markOf (Pq (rI R)) 0 0 46 [(0, .ref (za Z 60 0)), (1, .int a1), (2, .int v2)] [] s := by
  unfold F_X11_markOf_46 at hF
  refine a_aload_n dX11_markOf_46 0 rfl rfl ?_
  refine a_bipush (v := (20 : Int32)) dX11_markOf_47 (by decide) ?_
  obtain ⟨r49, s49, e49, hF⟩ := bd_some hF
  refine a_invV hZ.1 (As := [.int (20 : Int32)]) (rest := []) (hZ.2 60 0 (by decide) (by decide) Nat.one_pos) lk_X11_344 ⟨⟨by decide, by decide⟩, by decide, by decide⟩ rfl (Nat.le_of_ble_eq_true rfl) dX11_markOf_49 (m_X11_began hZ  e49) ?_
  show AW Z l iX11_markOf (Pq (rI R)) 0 0 52 [(0, .ref (za Z 60 0)), (1, .int a1), (2, .int v2)] [] s49
  refine a_aload_n dX11_markOf_52 0 rfl rfl ?_
  refine a_getI hZ.1 (s49 60 0 10) (hZ.2 60 0 (by decide) (by decide) Nat.one_pos) fl_X11_188 rfl rfl dX11_markOf_53 ?_
  refine a_iload_n dX11_markOf_56 2 rfl rfl ?_
  refine a_iconst (v := (2 : Int32)) dX11_markOf_57 (by decide) ?_
  obtain ⟨r58, s58, e58, hF⟩ := bd_some hF
  refine a_invS hZ.1 (As := [.int v2, .int (2 : Int32)]) (rest := [.int (s49 60 0 10)]) lk_X11_337 ⟨⟨by decide, by decide⟩, by decide, by decide⟩ rfl (Nat.le_of_ble_eq_true rfl) dX11_markOf_58 (m_X11_isOf hZ  e58) ?_
  show AW Z l iX11_markOf (Pq (rI R)) 0 0 61 [(0, .ref (za Z 60 0)), (1, .int a1), (2, .int v2)] [.int r58, .int (s49 60 0 10)] s58
  refine a_if_eq 69 dX11_markOf_61 (by decide) (fun q1 => ?_) (fun q1 => ?_)
  · replace hF := (if_pos q1).symm.trans hF
    refine a_iload_n dX11_markOf_69 2 rfl rfl ?_
    refine a_iconst (v := (4 : Int32)) dX11_markOf_70 (by decide) ?_
    obtain ⟨r71, s71, e71, hF⟩ := bd_some hF
    refine a_invS hZ.1 (As := [.int v2, .int (4 : Int32)]) (rest := [.int (s49 60 0 10)]) lk_X11_337 ⟨⟨by decide, by decide⟩, by decide, by decide⟩ rfl (Nat.le_of_ble_eq_true rfl) dX11_markOf_71 (m_X11_isOf hZ  e71) ?_
    show AW Z l iX11_markOf (Pq (rI R)) 0 0 74 [(0, .ref (za Z 60 0)), (1, .int a1), (2, .int v2)] [.int r71, .int (s49 60 0 10)] s71
    refine a_if_eq 90 dX11_markOf_74 (by decide) (fun q2 => ?_) (fun q2 => ?_)
    · replace hF := (if_pos q2).symm.trans hF
      refine a_iconst (v := (0 : Int32)) dX11_markOf_90 (by decide) ?_
      exact w_X11_markOf_91 (l := l) hZ   v2 (s49 60 0 10) (0 : Int32)  _ hF
    · replace hF := (if_neg q2).symm.trans hF
      refine a_aload_n dX11_markOf_77 0 rfl rfl ?_
      refine a_aload_n dX11_markOf_78 0 rfl rfl ?_
      refine a_getI hZ.1 (s71 60 0 10) (hZ.2 60 0 (by decide) (by decide) Nat.one_pos) fl_X11_188 rfl rfl dX11_markOf_79 ?_
      refine a_iconst (v := (1 : Int32)) dX11_markOf_82 (by decide) ?_
      refine a_iconst (v := (0 : Int32)) dX11_markOf_83 (by decide) ?_
      obtain ⟨r84, s84, e84, hF⟩ := bd_some hF
      refine a_invV hZ.1 (As := [.int (s71 60 0 10), .int (1 : Int32), .int (0 : Int32)]) (rest := [.int (s49 60 0 10)]) (hZ.2 60 0 (by decide) (by decide) Nat.one_pos) lk_X11_298 ⟨⟨by decide, by decide⟩, by decide, by decide⟩ rfl (Nat.le_of_ble_eq_true rfl) dX11_markOf_84 (m_X11_numberFor hZ  e84) ?_
      show AW Z l iX11_markOf (Pq (rI R)) 0 0 87 [(0, .ref (za Z 60 0)), (1, .int a1), (2, .int v2)] [.int r84, .int (s49 60 0 10)] s84
      refine a_goto 91 dX11_markOf_87 (by decide) ?_
      exact w_X11_markOf_91 (l := l) hZ   v2 (s49 60 0 10) r84  _ hF
  · replace hF := (if_neg q1).symm.trans hF
    refine a_bipush (v := (100 : Int32)) dX11_markOf_64 (by decide) ?_
    refine a_goto 91 dX11_markOf_66 (by decide) ?_
    exact w_X11_markOf_91 (l := l) hZ   v2 (s49 60 0 10) (100 : Int32)  _ hF
set_option maxRecDepth 100000 in
set_option maxHeartbeats 4000000 in
theorem w_X11_markOf_32 {Z : ZE} {l : Launch} (hZ : OkM Z) {a1 : Int32}  {R : Int32 × St}  (v2 : Int32)  (s : St) (hF : F_X11_markOf_32 (zg Z) a1 v2 s = some R) : AW Z l iX11_markOf (Pq (rI R)) 0 0 32 [(0, .ref (za Z 60 0)), (1, .int a1), (2, .int v2)] [] s := by
  unfold F_X11_markOf_32 at hF
  refine a_iload_n dX11_markOf_32 2 rfl rfl ?_
  refine a_iconst (v := (2 : Int32)) dX11_markOf_33 (by decide) ?_
  obtain ⟨r34, s34, e34, hF⟩ := bd_some hF
  refine a_invS hZ.1 (As := [.int v2, .int (2 : Int32)]) (rest := []) lk_X11_337 ⟨⟨by decide, by decide⟩, by decide, by decide⟩ rfl (Nat.le_of_ble_eq_true rfl) dX11_markOf_34 (m_X11_isOf hZ  e34) ?_
  show AW Z l iX11_markOf (Pq (rI R)) 0 0 37 [(0, .ref (za Z 60 0)), (1, .int a1), (2, .int v2)] [.int r34] s34
  refine a_if_eq 46 dX11_markOf_37 (by decide) (fun q1 => ?_) (fun q1 => ?_)
  · replace hF := (if_pos q1).symm.trans hF
    exact w_X11_markOf_46 (l := l) hZ   v2  _ hF
  · replace hF := (if_neg q1).symm.trans hF
    refine a_aload_n dX11_markOf_40 0 rfl rfl ?_
    refine a_bipush (v := (21 : Int32)) dX11_markOf_41 (by decide) ?_
    obtain ⟨r43, s43, e43, hF⟩ := bd_some hF
    refine a_invV hZ.1 (As := [.int (21 : Int32)]) (rest := []) (hZ.2 60 0 (by decide) (by decide) Nat.one_pos) lk_X11_344 ⟨⟨by decide, by decide⟩, by decide, by decide⟩ rfl (Nat.le_of_ble_eq_true rfl) dX11_markOf_43 (m_X11_began hZ  e43) ?_
    show AW Z l iX11_markOf (Pq (rI R)) 0 0 46 [(0, .ref (za Z 60 0)), (1, .int a1), (2, .int v2)] [] s43
    exact w_X11_markOf_46 (l := l) hZ   v2  _ hF
set_option maxRecDepth 100000 in
set_option maxHeartbeats 4000000 in
theorem w_X11_markOf_18 {Z : ZE} {l : Launch} (hZ : OkM Z) {a1 : Int32}  {R : Int32 × St}  (v2 : Int32)  (s : St) (hF : F_X11_markOf_18 (zg Z) a1 v2 s = some R) : AW Z l iX11_markOf (Pq (rI R)) 0 0 18 [(0, .ref (za Z 60 0)), (1, .int a1), (2, .int v2)] [] s := by
  unfold F_X11_markOf_18 at hF
  refine a_iload_n dX11_markOf_18 2 rfl rfl ?_
  refine a_iconst (v := (4 : Int32)) dX11_markOf_19 (by decide) ?_
  obtain ⟨r20, s20, e20, hF⟩ := bd_some hF
  refine a_invS hZ.1 (As := [.int v2, .int (4 : Int32)]) (rest := []) lk_X11_337 ⟨⟨by decide, by decide⟩, by decide, by decide⟩ rfl (Nat.le_of_ble_eq_true rfl) dX11_markOf_20 (m_X11_isOf hZ  e20) ?_
  show AW Z l iX11_markOf (Pq (rI R)) 0 0 23 [(0, .ref (za Z 60 0)), (1, .int a1), (2, .int v2)] [.int r20] s20
  refine a_if_eq 32 dX11_markOf_23 (by decide) (fun q1 => ?_) (fun q1 => ?_)
  · replace hF := (if_pos q1).symm.trans hF
    exact w_X11_markOf_32 (l := l) hZ   v2  _ hF
  · replace hF := (if_neg q1).symm.trans hF
    refine a_aload_n dX11_markOf_26 0 rfl rfl ?_
    refine a_bipush (v := (22 : Int32)) dX11_markOf_27 (by decide) ?_
    obtain ⟨r29, s29, e29, hF⟩ := bd_some hF
    refine a_invV hZ.1 (As := [.int (22 : Int32)]) (rest := []) (hZ.2 60 0 (by decide) (by decide) Nat.one_pos) lk_X11_344 ⟨⟨by decide, by decide⟩, by decide, by decide⟩ rfl (Nat.le_of_ble_eq_true rfl) dX11_markOf_29 (m_X11_began hZ  e29) ?_
    show AW Z l iX11_markOf (Pq (rI R)) 0 0 32 [(0, .ref (za Z 60 0)), (1, .int a1), (2, .int v2)] [] s29
    exact w_X11_markOf_32 (l := l) hZ   v2  _ hF
set_option maxRecDepth 100000 in
set_option maxHeartbeats 4000000 in
theorem w_X11_markOf {Z : ZE} {l : Launch} (hZ : OkM Z) {a1 : Int32}  {R : Int32 × St}    (s : St) (hF : F_X11_markOf (zg Z) a1  s = some R) : AW Z l iX11_markOf (Pq (rI R)) 0 0 0 [(0, .ref (za Z 60 0)), (1, .int a1)] [] s := by
  unfold F_X11_markOf at hF
  refine a_aload_n dX11_markOf_0 0 rfl rfl ?_
  refine a_getR hZ.1 (hZ.2 60 0 (by decide) (by decide) Nat.one_pos) fl_X11_103 rfl 0 rfl dX11_markOf_1 ?_
  refine a_iload_n dX11_markOf_4 1 rfl rfl ?_
  obtain ⟨p1, hF⟩ := gd_some hF
  refine a_iald hZ.1 (s 88 0 a1.toNatClampNeg) (hZ.2 88 0 (by decide) (by decide) Nat.one_pos) rfl rfl (inb_vp p1) rfl dX11_markOf_5 ?_
  refine a_istore_n [(2, .int (s 88 0 a1.toNatClampNeg)), (0, .ref (za Z 60 0)), (1, .int a1)] dX11_markOf_6 rfl (by decide) rfl ?_
  refine a_iload_n dX11_markOf_7 0 rfl rfl ?_
  refine a_iconst (v := (5 : Int32)) dX11_markOf_8 (by decide) ?_
  refine a_icmp_ne 18 dX11_markOf_9 (by decide) (fun q2 => ?_) (fun q2 => ?_)
  · replace hF := (if_neg q2).symm.trans hF
    refine a_loc [(0, .ref (za Z 60 0)), (1, .int a1), (2, .int (s 88 0 a1.toNatClampNeg))] [1, 2, 0] rfl ?_
    exact w_X11_markOf_18 (l := l) hZ   (s 88 0 a1.toNatClampNeg)  _ hF
  · replace hF := (if_pos q2).symm.trans hF
    refine a_aload_n dX11_markOf_12 1 rfl rfl ?_
    refine a_bipush (v := (23 : Int32)) dX11_markOf_13 (by decide) ?_
    obtain ⟨r15, s15, e15, hF⟩ := bd_some hF
    refine a_invV hZ.1 (As := [.int (23 : Int32)]) (rest := []) (hZ.2 60 0 (by decide) (by decide) Nat.one_pos) lk_X11_344 ⟨⟨by decide, by decide⟩, by decide, by decide⟩ rfl (Nat.le_of_ble_eq_true rfl) dX11_markOf_15 (m_X11_began hZ  e15) ?_
    show AW Z l iX11_markOf (Pq (rI R)) 0 0 18 [(2, .int (s 88 0 a1.toNatClampNeg)), (0, .ref (za Z 60 0)), (1, .int a1)] [] s15
    refine a_loc [(0, .ref (za Z 60 0)), (1, .int a1), (2, .int (s 88 0 a1.toNatClampNeg))] [1, 2, 0] rfl ?_
    exact w_X11_markOf_18 (l := l) hZ   (s 88 0 a1.toNatClampNeg)  _ hF
theorem m_X11_markOf {Z : ZE} {l : Launch} (hZ : OkM Z) {a1 : Int32}  {s : St} {R : Int32 × St} (hF : F_X11_markOf (zg Z) a1 s = some R) : Sp Z l yX11_markOf iX11_markOf [.ref (za Z 60 0), .int a1] s (rI R) :=
  Sp.of (by decide) rfl (Nat.le_of_ble_eq_true rfl) (w_X11_markOf hZ  s hF)
