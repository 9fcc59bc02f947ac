-- X11_mill
set_option maxRecDepth 100000 in
set_option maxHeartbeats 4000000 in
theorem w_X11_mill {Z : ZE} {l : Launch} (hZ : OkM Z) {a1 : Int32} {a2 : Int32} {a3 : Int32} {a4 : Int32}  {R : Int32 × St}    (s : St) (hF : F_X11_mill (zg Z) a1 a2 a3 a4  s = some R) : AW Z l iX11_mill (Pq (rI R)) 0 0 0 [(0, .ref (za Z 60 0)), (1, .int a1), (2, .int a2), (3, .int a3), (4, .int a4)] [] s := by
  unfold F_X11_mill at hF
  refine a_aload_n dX11_mill_0 0 rfl rfl ?_
  refine a_iconst (v := (0 : Int32)) dX11_mill_1 (by decide) ?_
  refine a_put hZ.1 (hZ.2 60 0 (by decide) (by decide) Nat.one_pos) fl_X11_1 rfl rfl rfl dX11_mill_2 ?_
  refine a_iload_n dX11_mill_5 1 rfl rfl ?_
  refine a_i2l dX11_mill_6 ?_
  refine a_lconst (v := (1 : Int64)) dX11_mill_7 (by decide) ?_
  refine a_ldc2 (v := (50 : Int64)) kw_1181 dX11_mill_8 ?_
  obtain ⟨r11, s11, e11, hF⟩ := bd_some hF
  refine a_invS hZ.1 (As := [.long a1.toInt64, .long (1 : Int64), .long (50 : Int64)]) (rest := []) lk_X11_126 ⟨⟨by decide, by decide⟩, by decide, by decide⟩ rfl (Nat.le_of_ble_eq_true rfl) dX11_mill_11 (m_X11_in hZ  e11) ?_
  show AW Z l iX11_mill (Pq (rI R)) 0 0 14 [(0, .ref (za Z 60 0)), (1, .int a1), (2, .int a2), (3, .int a3), (4, .int a4)] [.int r11] s11
  refine a_if_eq 54 dX11_mill_14 (by decide) (fun q1 => ?_) (fun q1 => ?_)
  · replace hF := (if_pos q1).symm.trans hF
    refine a_ldc (v := (-1000001)) kw_1136 dX11_mill_54 ?_
    replace hF := Option.some.inj hF
    subst hF
    exact a_iret rfl (Nat.zero_le _) (Nat.zero_le _) dX11_mill_56 ⟨rfl, rfl⟩
  · replace hF := (if_neg q1).symm.trans hF
    refine a_iload_n dX11_mill_17 2 rfl rfl ?_
    refine a_i2l dX11_mill_18 ?_
    refine a_lconst (v := (1 : Int64)) dX11_mill_19 (by decide) ?_
    refine a_ldc2 (v := (15 : Int64)) kw_1182 dX11_mill_20 ?_
    obtain ⟨r23, s23, e23, hF⟩ := bd_some hF
    refine a_invS hZ.1 (As := [.long a2.toInt64, .long (1 : Int64), .long (15 : Int64)]) (rest := []) lk_X11_126 ⟨⟨by decide, by decide⟩, by decide, by decide⟩ rfl (Nat.le_of_ble_eq_true rfl) dX11_mill_23 (m_X11_in hZ  e23) ?_
    show AW Z l iX11_mill (Pq (rI R)) 0 0 26 [(0, .ref (za Z 60 0)), (1, .int a1), (2, .int a2), (3, .int a3), (4, .int a4)] [.int r23] s23
    refine a_if_eq 54 dX11_mill_26 (by decide) (fun q2 => ?_) (fun q2 => ?_)
    · replace hF := (if_pos q2).symm.trans hF
      refine a_ldc (v := (-1000001)) kw_1136 dX11_mill_54 ?_
      replace hF := Option.some.inj hF
      subst hF
      exact a_iret rfl (Nat.zero_le _) (Nat.zero_le _) dX11_mill_56 ⟨rfl, rfl⟩
    · replace hF := (if_neg q2).symm.trans hF
      refine a_iload_n dX11_mill_29 3 rfl rfl ?_
      refine a_i2l dX11_mill_30 ?_
      refine a_lconst (v := (0 : Int64)) dX11_mill_31 (by decide) ?_
      refine a_ldc2 (v := (1000 : Int64)) kw_1163 dX11_mill_32 ?_
      obtain ⟨r35, s35, e35, hF⟩ := bd_some hF
      refine a_invS hZ.1 (As := [.long a3.toInt64, .long (0 : Int64), .long (1000 : Int64)]) (rest := []) lk_X11_126 ⟨⟨by decide, by decide⟩, by decide, by decide⟩ rfl (Nat.le_of_ble_eq_true rfl) dX11_mill_35 (m_X11_in hZ  e35) ?_
      show AW Z l iX11_mill (Pq (rI R)) 0 0 38 [(0, .ref (za Z 60 0)), (1, .int a1), (2, .int a2), (3, .int a3), (4, .int a4)] [.int r35] s35
      refine a_if_eq 54 dX11_mill_38 (by decide) (fun q3 => ?_) (fun q3 => ?_)
      · replace hF := (if_pos q3).symm.trans hF
        refine a_ldc (v := (-1000001)) kw_1136 dX11_mill_54 ?_
        replace hF := Option.some.inj hF
        subst hF
        exact a_iret rfl (Nat.zero_le _) (Nat.zero_le _) dX11_mill_56 ⟨rfl, rfl⟩
      · replace hF := (if_neg q3).symm.trans hF
        refine a_iload dX11_mill_41 4 rfl ?_
        refine a_i2l dX11_mill_43 ?_
        refine a_lconst (v := (0 : Int64)) dX11_mill_44 (by decide) ?_
        refine a_ldc2 (v := (5000 : Int64)) kw_1166 dX11_mill_45 ?_
        obtain ⟨r48, s48, e48, hF⟩ := bd_some hF
        refine a_invS hZ.1 (As := [.long a4.toInt64, .long (0 : Int64), .long (5000 : Int64)]) (rest := []) lk_X11_126 ⟨⟨by decide, by decide⟩, by decide, by decide⟩ rfl (Nat.le_of_ble_eq_true rfl) dX11_mill_48 (m_X11_in hZ  e48) ?_
        show AW Z l iX11_mill (Pq (rI R)) 0 0 51 [(0, .ref (za Z 60 0)), (1, .int a1), (2, .int a2), (3, .int a3), (4, .int a4)] [.int r48] s48
        refine a_if_ne 57 dX11_mill_51 (by decide) (fun q4 => ?_) (fun q4 => ?_)
        · replace hF := (if_neg q4).symm.trans hF
          refine a_aload_n dX11_mill_57 0 rfl rfl ?_
          refine a_getI hZ.1 (s48 60 0 15) (hZ.2 60 0 (by decide) (by decide) Nat.one_pos) fl_X11_145 rfl rfl dX11_mill_58 ?_
          refine a_bipush (v := (6 : Int32)) dX11_mill_61 (by decide) ?_
          refine a_icmp_ne 69 dX11_mill_63 (by decide) (fun q5 => ?_) (fun q5 => ?_)
          · replace hF := (if_neg q5).symm.trans hF
            refine a_aload_n dX11_mill_69 0 rfl rfl ?_
            refine a_getR hZ.1 (hZ.2 60 0 (by decide) (by decide) Nat.one_pos) fl_X11_48 rfl 0 rfl dX11_mill_70 ?_
            refine a_aload_n dX11_mill_73 0 rfl rfl ?_
            refine a_getI hZ.1 (s48 60 0 15) (hZ.2 60 0 (by decide) (by decide) Nat.one_pos) fl_X11_145 rfl rfl dX11_mill_74 ?_
            refine a_iload_n dX11_mill_77 1 rfl rfl ?_
            obtain ⟨p6, hF⟩ := gd_some hF
            refine a_iast hZ.1 (hZ.2 70 0 (by decide) (by decide) Nat.one_pos) rfl rfl (inb_vp p6) dX11_mill_78 ?_
            refine a_aload_n dX11_mill_79 0 rfl rfl ?_
            refine a_getR hZ.1 (hZ.2 60 0 (by decide) (by decide) Nat.one_pos) fl_X11_51 rfl 0 rfl dX11_mill_80 ?_
            refine a_aload_n dX11_mill_83 0 rfl rfl ?_
            refine a_getI hZ.1 (s48 60 0 15) (hZ.2 60 0 (by decide) (by decide) Nat.one_pos) fl_X11_145 rfl rfl dX11_mill_84 ?_
            refine a_iload_n dX11_mill_87 2 rfl rfl ?_
            obtain ⟨p7, hF⟩ := gd_some hF
            refine a_iast hZ.1 (hZ.2 71 0 (by decide) (by decide) Nat.one_pos) rfl rfl (inb_vp p7) dX11_mill_88 ?_
            refine a_aload_n dX11_mill_89 0 rfl rfl ?_
            refine a_getR hZ.1 (hZ.2 60 0 (by decide) (by decide) Nat.one_pos) fl_X11_54 rfl 0 rfl dX11_mill_90 ?_
            refine a_aload_n dX11_mill_93 0 rfl rfl ?_
            refine a_getI hZ.1 (s48 60 0 15) (hZ.2 60 0 (by decide) (by decide) Nat.one_pos) fl_X11_145 rfl rfl dX11_mill_94 ?_
            refine a_iload_n dX11_mill_97 3 rfl rfl ?_
            obtain ⟨p8, hF⟩ := gd_some hF
            refine a_iast hZ.1 (hZ.2 72 0 (by decide) (by decide) Nat.one_pos) rfl rfl (inb_vp p8) dX11_mill_98 ?_
            refine a_aload_n dX11_mill_99 0 rfl rfl ?_
            refine a_getR hZ.1 (hZ.2 60 0 (by decide) (by decide) Nat.one_pos) fl_X11_57 rfl 0 rfl dX11_mill_100 ?_
            refine a_aload_n dX11_mill_103 0 rfl rfl ?_
            refine a_getI hZ.1 (s48 60 0 15) (hZ.2 60 0 (by decide) (by decide) Nat.one_pos) fl_X11_145 rfl rfl dX11_mill_104 ?_
            refine a_iload dX11_mill_107 4 rfl ?_
            obtain ⟨p9, hF⟩ := gd_some hF
            refine a_iast hZ.1 (hZ.2 73 0 (by decide) (by decide) Nat.one_pos) rfl rfl (inb_vp p9) dX11_mill_109 ?_
            refine a_aload_n dX11_mill_110 0 rfl rfl ?_
            refine a_dup dX11_mill_111 rfl ?_
            refine a_getI hZ.1 (s48 60 0 15) (hZ.2 60 0 (by decide) (by decide) Nat.one_pos) fl_X11_145 rfl rfl dX11_mill_112 ?_
            refine a_iconst (v := (1 : Int32)) dX11_mill_115 (by decide) ?_
            refine a_iadd dX11_mill_116 ?_
            refine a_put hZ.1 (hZ.2 60 0 (by decide) (by decide) Nat.one_pos) fl_X11_145 rfl rfl rfl dX11_mill_117 ?_
            refine a_aload_n dX11_mill_120 0 rfl rfl ?_
            refine a_getI hZ.1 ((s48 60 0 15) + (1 : Int32)) (hZ.2 60 0 (by decide) (by decide) Nat.one_pos) fl_X11_145 rfl (by simp [up]) dX11_mill_121 ?_
            refine a_iconst (v := (1 : Int32)) dX11_mill_124 (by decide) ?_
            refine a_isub dX11_mill_125 ?_
            replace hF := Option.some.inj hF
            subst hF
            exact a_iret rfl (Nat.zero_le _) (Nat.zero_le _) dX11_mill_126 ⟨rfl, rfl⟩
          · replace hF := (if_pos q5).symm.trans hF
            refine a_ldc (v := (-1000003)) kw_1176 dX11_mill_66 ?_
            replace hF := Option.some.inj hF
            subst hF
            exact a_iret rfl (Nat.zero_le _) (Nat.zero_le _) dX11_mill_68 ⟨rfl, rfl⟩
        · replace hF := (if_pos q4).symm.trans hF
          refine a_ldc (v := (-1000001)) kw_1136 dX11_mill_54 ?_
          replace hF := Option.some.inj hF
          subst hF
          exact a_iret rfl (Nat.zero_le _) (Nat.zero_le _) dX11_mill_56 ⟨rfl, rfl⟩
theorem m_X11_mill {Z : ZE} {l : Launch} (hZ : OkM Z) {a1 : Int32} {a2 : Int32} {a3 : Int32} {a4 : Int32}  {s : St} {R : Int32 × St} (hF : F_X11_mill (zg Z) a1 a2 a3 a4 s = some R) : Sp Z l yX11_mill iX11_mill [.ref (za Z 60 0), .int a1, .int a2, .int a3, .int a4] s (rI R) :=
  Sp.of (by decide) rfl (Nat.le_of_ble_eq_true rfl) (w_X11_mill hZ  s hF)
-- X11_news
set_option maxRecDepth 100000 in
set_option maxHeartbeats 4000000 in
theorem w_X11_news {Z : ZE} {l : Launch} (hZ : OkM Z) {a1 : Int32} {a2 : Int32} {a3 : Int32} {a4 : Int32}  {R : Int32 × St}    (s : St) (hF : F_X11_news (zg Z) a1 a2 a3 a4  s = some R) : AW Z l iX11_news (Pq (rI R)) 0 0 0 [(0, .ref (za Z 60 0)), (1, .int a1), (2, .int a2), (3, .int a3), (4, .int a4)] [] s := by
  unfold F_X11_news at hF
  refine a_aload_n dX11_news_0 0 rfl rfl ?_
  refine a_iconst (v := (0 : Int32)) dX11_news_1 (by decide) ?_
  refine a_put hZ.1 (hZ.2 60 0 (by decide) (by decide) Nat.one_pos) fl_X11_1 rfl rfl rfl dX11_news_2 ?_
  refine a_iload_n dX11_news_5 1 rfl rfl ?_
  refine a_i2l dX11_news_6 ?_
  refine a_lconst (v := (0 : Int64)) dX11_news_7 (by decide) ?_
  refine a_ldc2 (v := (9 : Int64)) kw_1195 dX11_news_8 ?_
  obtain ⟨r11, s11, e11, hF⟩ := bd_some hF
  refine a_invS hZ.1 (As := [.long a1.toInt64, .long (0 : Int64), .long (9 : Int64)]) (rest := []) lk_X11_126 ⟨⟨by decide, by decide⟩, by decide, by decide⟩ rfl (Nat.le_of_ble_eq_true rfl) dX11_news_11 (m_X11_in hZ  e11) ?_
  show AW Z l iX11_news (Pq (rI R)) 0 0 14 [(0, .ref (za Z 60 0)), (1, .int a1), (2, .int a2), (3, .int a3), (4, .int a4)] [.int r11] s11
  refine a_if_eq 49 dX11_news_14 (by decide) (fun q1 => ?_) (fun q1 => ?_)
  · replace hF := (if_pos q1).symm.trans hF
    refine a_ldc (v := (-1000001)) kw_1136 dX11_news_49 ?_
    replace hF := Option.some.inj hF
    subst hF
    exact a_iret rfl (Nat.zero_le _) (Nat.zero_le _) dX11_news_51 ⟨rfl, rfl⟩
  · replace hF := (if_neg q1).symm.trans hF
    refine a_iload_n dX11_news_17 2 rfl rfl ?_
    obtain ⟨r18, s18, e18, hF⟩ := bd_some hF
    refine a_invS hZ.1 (As := [.int a2]) (rest := []) lk_X11_164 ⟨⟨by decide, by decide⟩, by decide, by decide⟩ rfl (Nat.le_of_ble_eq_true rfl) dX11_news_18 (m_X11_isWeek hZ  e18) ?_
    show AW Z l iX11_news (Pq (rI R)) 0 0 21 [(0, .ref (za Z 60 0)), (1, .int a1), (2, .int a2), (3, .int a3), (4, .int a4)] [.int r18] s18
    refine a_if_eq 49 dX11_news_21 (by decide) (fun q2 => ?_) (fun q2 => ?_)
    · replace hF := (if_pos q2).symm.trans hF
      refine a_ldc (v := (-1000001)) kw_1136 dX11_news_49 ?_
      replace hF := Option.some.inj hF
      subst hF
      exact a_iret rfl (Nat.zero_le _) (Nat.zero_le _) dX11_news_51 ⟨rfl, rfl⟩
    · replace hF := (if_neg q2).symm.trans hF
      refine a_iload_n dX11_news_24 3 rfl rfl ?_
      refine a_i2l dX11_news_25 ?_
      refine a_lconst (v := (0 : Int64)) dX11_news_26 (by decide) ?_
      refine a_ldc2 (v := (3 : Int64)) kw_1162 dX11_news_27 ?_
      obtain ⟨r30, s30, e30, hF⟩ := bd_some hF
      refine a_invS hZ.1 (As := [.long a3.toInt64, .long (0 : Int64), .long (3 : Int64)]) (rest := []) lk_X11_126 ⟨⟨by decide, by decide⟩, by decide, by decide⟩ rfl (Nat.le_of_ble_eq_true rfl) dX11_news_30 (m_X11_in hZ  e30) ?_
      show AW Z l iX11_news (Pq (rI R)) 0 0 33 [(0, .ref (za Z 60 0)), (1, .int a1), (2, .int a2), (3, .int a3), (4, .int a4)] [.int r30] s30
      refine a_if_eq 49 dX11_news_33 (by decide) (fun q3 => ?_) (fun q3 => ?_)
      · replace hF := (if_pos q3).symm.trans hF
        refine a_ldc (v := (-1000001)) kw_1136 dX11_news_49 ?_
        replace hF := Option.some.inj hF
        subst hF
        exact a_iret rfl (Nat.zero_le _) (Nat.zero_le _) dX11_news_51 ⟨rfl, rfl⟩
      · replace hF := (if_neg q3).symm.trans hF
        refine a_iload dX11_news_36 4 rfl ?_
        refine a_i2l dX11_news_38 ?_
        refine a_lconst (v := (0 : Int64)) dX11_news_39 (by decide) ?_
        refine a_ldc2 (v := (30 : Int64)) kw_1355 dX11_news_40 ?_
        obtain ⟨r43, s43, e43, hF⟩ := bd_some hF
        refine a_invS hZ.1 (As := [.long a4.toInt64, .long (0 : Int64), .long (30 : Int64)]) (rest := []) lk_X11_126 ⟨⟨by decide, by decide⟩, by decide, by decide⟩ rfl (Nat.le_of_ble_eq_true rfl) dX11_news_43 (m_X11_in hZ  e43) ?_
        show AW Z l iX11_news (Pq (rI R)) 0 0 46 [(0, .ref (za Z 60 0)), (1, .int a1), (2, .int a2), (3, .int a3), (4, .int a4)] [.int r43] s43
        refine a_if_ne 52 dX11_news_46 (by decide) (fun q4 => ?_) (fun q4 => ?_)
        · replace hF := (if_neg q4).symm.trans hF
          refine a_aload_n dX11_news_52 0 rfl rfl ?_
          refine a_getI hZ.1 (s43 60 0 51) (hZ.2 60 0 (by decide) (by decide) Nat.one_pos) fl_X11_334 rfl rfl dX11_news_53 ?_
          refine a_bipush (v := (20 : Int32)) dX11_news_56 (by decide) ?_
          refine a_icmp_ne 64 dX11_news_58 (by decide) (fun q5 => ?_) (fun q5 => ?_)
          · replace hF := (if_neg q5).symm.trans hF
            refine a_aload_n dX11_news_64 0 rfl rfl ?_
            refine a_getR hZ.1 (hZ.2 60 0 (by decide) (by decide) Nat.one_pos) fl_X11_112 rfl 0 rfl dX11_news_65 ?_
            refine a_aload_n dX11_news_68 0 rfl rfl ?_
            refine a_getI hZ.1 (s43 60 0 51) (hZ.2 60 0 (by decide) (by decide) Nat.one_pos) fl_X11_334 rfl rfl dX11_news_69 ?_
            refine a_iload_n dX11_news_72 1 rfl rfl ?_
            obtain ⟨p6, hF⟩ := gd_some hF
            refine a_iast hZ.1 (hZ.2 91 0 (by decide) (by decide) Nat.one_pos) rfl rfl (inb_vp p6) dX11_news_73 ?_
            refine a_aload_n dX11_news_74 0 rfl rfl ?_
            refine a_getR hZ.1 (hZ.2 60 0 (by decide) (by decide) Nat.one_pos) fl_X11_115 rfl 0 rfl dX11_news_75 ?_
            refine a_aload_n dX11_news_78 0 rfl rfl ?_
            refine a_getI hZ.1 (s43 60 0 51) (hZ.2 60 0 (by decide) (by decide) Nat.one_pos) fl_X11_334 rfl rfl dX11_news_79 ?_
            refine a_iload_n dX11_news_82 2 rfl rfl ?_
            refine a_iload dX11_news_83 4 rfl ?_
            refine a_iadd dX11_news_85 ?_
            obtain ⟨p7, hF⟩ := gd_some hF
            refine a_iast hZ.1 (hZ.2 92 0 (by decide) (by decide) Nat.one_pos) rfl rfl (inb_vp p7) dX11_news_86 ?_
            refine a_aload_n dX11_news_87 0 rfl rfl ?_
            refine a_getR hZ.1 (hZ.2 60 0 (by decide) (by decide) Nat.one_pos) fl_X11_118 rfl 0 rfl dX11_news_88 ?_
            refine a_aload_n dX11_news_91 0 rfl rfl ?_
            refine a_getI hZ.1 (s43 60 0 51) (hZ.2 60 0 (by decide) (by decide) Nat.one_pos) fl_X11_334 rfl rfl dX11_news_92 ?_
            refine a_iload_n dX11_news_95 3 rfl rfl ?_
            obtain ⟨p8, hF⟩ := gd_some hF
            refine a_iast hZ.1 (hZ.2 93 0 (by decide) (by decide) Nat.one_pos) rfl rfl (inb_vp p8) dX11_news_96 ?_
            refine a_aload_n dX11_news_97 0 rfl rfl ?_
            refine a_dup dX11_news_98 rfl ?_
            refine a_getI hZ.1 (s43 60 0 51) (hZ.2 60 0 (by decide) (by decide) Nat.one_pos) fl_X11_334 rfl rfl dX11_news_99 ?_
            refine a_iconst (v := (1 : Int32)) dX11_news_102 (by decide) ?_
            refine a_iadd dX11_news_103 ?_
            refine a_put hZ.1 (hZ.2 60 0 (by decide) (by decide) Nat.one_pos) fl_X11_334 rfl rfl rfl dX11_news_104 ?_
            refine a_aload_n dX11_news_107 0 rfl rfl ?_
            refine a_getI hZ.1 ((s43 60 0 51) + (1 : Int32)) (hZ.2 60 0 (by decide) (by decide) Nat.one_pos) fl_X11_334 rfl (by simp [up]) dX11_news_108 ?_
            replace hF := Option.some.inj hF
            subst hF
            exact a_iret rfl (Nat.zero_le _) (Nat.zero_le _) dX11_news_111 ⟨rfl, rfl⟩
          · replace hF := (if_pos q5).symm.trans hF
            refine a_ldc (v := (-1000003)) kw_1176 dX11_news_61 ?_
            replace hF := Option.some.inj hF
            subst hF
            exact a_iret rfl (Nat.zero_le _) (Nat.zero_le _) dX11_news_63 ⟨rfl, rfl⟩
        · replace hF := (if_pos q4).symm.trans hF
          refine a_ldc (v := (-1000001)) kw_1136 dX11_news_49 ?_
          replace hF := Option.some.inj hF
          subst hF
          exact a_iret rfl (Nat.zero_le _) (Nat.zero_le _) dX11_news_51 ⟨rfl, rfl⟩
theorem m_X11_news {Z : ZE} {l : Launch} (hZ : OkM Z) {a1 : Int32} {a2 : Int32} {a3 : Int32} {a4 : Int32}  {s : St} {R : Int32 × St} (hF : F_X11_news (zg Z) a1 a2 a3 a4 s = some R) : Sp Z l yX11_news iX11_news [.ref (za Z 60 0), .int a1, .int a2, .int a3, .int a4] s (rI R) :=
  Sp.of (by decide) rfl (Nat.le_of_ble_eq_true rfl) (w_X11_news hZ  s hF)
-- X11_paid
set_option maxRecDepth 100000 in
set_option maxHeartbeats 4000000 in
theorem w_X11_paid_447 {Z : ZE} {l : Launch} (hZ : OkM Z) {a1 : Int32} {a2 : Int32} {a3 : Int32} {a4 : Int32}  {R : Int32 × St}  (v7 : Int32)  (s : St) (hF : F_X11_paid_447 (zg Z) a1 a2 a3 a4 v7 s = some R) : AW Z l iX11_paid (Pq (rI R)) 0 0 447 [(0, .ref (za Z 60 0)), (3, .int a3), (4, .int a4), (7, .int v7)] [] s := by
  unfold F_X11_paid_447 at hF
  refine a_iload dX11_paid_447 2 rfl ?_
  refine a_iload_n dX11_paid_449 1 rfl rfl ?_
  refine a_icmp_ne 458 dX11_paid_450 (by decide) (fun q1 => ?_) (fun q1 => ?_)
  · replace hF := (if_neg q1).symm.trans hF
    refine a_aload_n dX11_paid_458 0 rfl rfl ?_
    refine a_getR hZ.1 (hZ.2 60 0 (by decide) (by decide) Nat.one_pos) fl_X11_94 rfl 0 rfl dX11_paid_459 ?_
    refine a_iload dX11_paid_462 2 rfl ?_
    obtain ⟨p2, hF⟩ := gd_some hF
    refine a_iald hZ.1 (s 85 0 a4.toNatClampNeg) (hZ.2 85 0 (by decide) (by decide) Nat.one_pos) rfl rfl (inb_vp p2) rfl dX11_paid_464 ?_
    replace hF := Option.some.inj hF
    subst hF
    exact a_iret rfl (Nat.zero_le _) (Nat.zero_le _) dX11_paid_465 ⟨rfl, rfl⟩
  · replace hF := (if_pos q1).symm.trans hF
    refine a_iload dX11_paid_453 3 rfl ?_
    refine a_goto 465 dX11_paid_455 (by decide) ?_
    replace hF := Option.some.inj hF
    subst hF
    exact a_iret rfl (Nat.zero_le _) (Nat.zero_le _) dX11_paid_465 ⟨rfl, rfl⟩
set_option maxRecDepth 100000 in
set_option maxHeartbeats 4000000 in
theorem w_X11_paid_441 {Z : ZE} {l : Launch} (hZ : OkM Z) {a1 : Int32} {a2 : Int32} {a3 : Int32} {a4 : Int32}  {R : Int32 × St} (h238_ : Int32 → Int32 → Int32 → St → Option (Int32 × St)) (w238_ : ∀ (v6 : Int32) (v7 : Int32) (v8 : Int32)  (s : St), h238_ v6 v7 v8 s = some R → AW Z l iX11_paid (Pq (rI R)) 0 0 238 [(0, .ref (za Z 60 0)), (3, .int a3), (4, .int a4), (6, .int v6), (7, .int v7), (8, .int v8)] [] s) (h447_ : Int32 → St → Option (Int32 × St)) (w447_ : ∀ (v7 : Int32)  (s : St), h447_ v7 s = some R → AW Z l iX11_paid (Pq (rI R)) 0 0 447 [(0, .ref (za Z 60 0)), (3, .int a3), (4, .int a4), (7, .int v7)] [] s) (v6 : Int32) (v8 : Int32) (x0 : Int32) (x1 : Int32)  (s : St) (hF : F_X11_paid_441 (zg Z) a1 a2 a3 a4 h238_ h447_ v6 v8 x0 x1 s = some R) : AW Z l iX11_paid (Pq (rI R)) 0 0 441 [(0, .ref (za Z 60 0)), (3, .int a3), (4, .int a4), (6, .int v6), (8, .int v8)] [.int x1, .int x0] s := by
  unfold F_X11_paid_441 at hF
  refine a_iadd dX11_paid_441 ?_
  refine a_istore [(7, .int (x0 + x1)), (0, .ref (za Z 60 0)), (3, .int a3), (4, .int a4), (6, .int v6), (8, .int v8)] dX11_paid_442 (by decide) rfl ?_
  refine a_goto 238 dX11_paid_444 (by decide) ?_
  refine a_loc [(0, .ref (za Z 60 0)), (3, .int a3), (4, .int a4), (6, .int v6), (7, .int (x0 + x1)), (8, .int v8)] [1, 2, 3, 4, 0, 5] rfl ?_
  exact w238_ v6 (x0 + x1) v8  _ hF
set_option maxRecDepth 100000 in
set_option maxHeartbeats 4000000 in
theorem w_X11_paid_429 {Z : ZE} {l : Launch} (hZ : OkM Z) {a1 : Int32} {a2 : Int32} {a3 : Int32} {a4 : Int32}  {R : Int32 × St} (h238_ : Int32 → Int32 → Int32 → St → Option (Int32 × St)) (w238_ : ∀ (v6 : Int32) (v7 : Int32) (v8 : Int32)  (s : St), h238_ v6 v7 v8 s = some R → AW Z l iX11_paid (Pq (rI R)) 0 0 238 [(0, .ref (za Z 60 0)), (3, .int a3), (4, .int a4), (6, .int v6), (7, .int v7), (8, .int v8)] [] s) (h447_ : Int32 → St → Option (Int32 × St)) (w447_ : ∀ (v7 : Int32)  (s : St), h447_ v7 s = some R → AW Z l iX11_paid (Pq (rI R)) 0 0 447 [(0, .ref (za Z 60 0)), (3, .int a3), (4, .int a4), (7, .int v7)] [] s) (v6 : Int32) (v7 : Int32) (v8 : Int32)  (s : St) (hF : F_X11_paid_429 (zg Z) a1 a2 a3 a4 h238_ h447_ v6 v7 v8 s = some R) : AW Z l iX11_paid (Pq (rI R)) 0 0 429 [(0, .ref (za Z 60 0)), (3, .int a3), (4, .int a4), (6, .int v6), (7, .int v7), (8, .int v8)] [] s := by
  unfold F_X11_paid_429 at hF
  refine a_iload dX11_paid_429 4 rfl ?_
  refine a_iload dX11_paid_431 5 rfl ?_
  refine a_if_eq 440 dX11_paid_433 (by decide) (fun q1 => ?_) (fun q1 => ?_)
  · replace hF := (if_pos q1).symm.trans hF
    refine a_iconst (v := (0 : Int32)) dX11_paid_440 (by decide) ?_
    refine a_loc [(0, .ref (za Z 60 0)), (3, .int a3), (4, .int a4), (6, .int v6), (8, .int v8)] [0, 1, 2, 3, 5] rfl ?_
    exact w_X11_paid_441 (l := l) hZ  h238_ w238_ h447_ w447_ v6 v8 v7 (0 : Int32)  _ hF
  · replace hF := (if_neg q1).symm.trans hF
    refine a_iconst (v := (1 : Int32)) dX11_paid_436 (by decide) ?_
    refine a_goto 441 dX11_paid_437 (by decide) ?_
    refine a_loc [(0, .ref (za Z 60 0)), (3, .int a3), (4, .int a4), (6, .int v6), (8, .int v8)] [0, 1, 2, 3, 5] rfl ?_
    exact w_X11_paid_441 (l := l) hZ  h238_ w238_ h447_ w447_ v6 v8 v7 (1 : Int32)  _ hF
set_option maxRecDepth 100000 in
set_option maxHeartbeats 4000000 in
theorem w_X11_paid_407 {Z : ZE} {l : Launch} (hZ : OkM Z) {a1 : Int32} {a2 : Int32} {a3 : Int32} {a4 : Int32}  {R : Int32 × St} (h374_ : Int32 → Int32 → Int32 → Int32 → St → Option (Int32 × St)) (w374_ : ∀ (v6 : Int32) (v7 : Int32) (v8 : Int32) (v9 : Int32)  (s : St), h374_ v6 v7 v8 v9 s = some R → AW Z l iX11_paid (Pq (rI R)) 0 0 374 [(0, .ref (za Z 60 0)), (3, .int a3), (4, .int a4), (6, .int v6), (7, .int v7), (8, .int v8), (9, .int v9)] [] s) (h429_ : Int32 → Int32 → Int32 → St → Option (Int32 × St)) (w429_ : ∀ (v6 : Int32) (v7 : Int32) (v8 : Int32)  (s : St), h429_ v6 v7 v8 s = some R → AW Z l iX11_paid (Pq (rI R)) 0 0 429 [(0, .ref (za Z 60 0)), (3, .int a3), (4, .int a4), (6, .int v6), (7, .int v7), (8, .int v8)] [] s) (v6 : Int32) (v7 : Int32) (v9 : Int32) (x0 : Int32)  (s : St) (hF : F_X11_paid_407 (zg Z) a1 a2 a3 a4 h374_ h429_ v6 v7 v9 x0 s = some R) : AW Z l iX11_paid (Pq (rI R)) 0 0 407 [(0, .ref (za Z 60 0)), (3, .int a3), (4, .int a4), (6, .int v6), (7, .int v7), (9, .int v9)] [.int x0] s := by
  unfold F_X11_paid_407 at hF
  refine a_istore [(8, .int x0), (0, .ref (za Z 60 0)), (3, .int a3), (4, .int a4), (6, .int v6), (7, .int v7), (9, .int v9)] dX11_paid_407 (by decide) rfl ?_
  refine a_aload_n dX11_paid_409 1 rfl rfl ?_
  refine a_getR hZ.1 (hZ.2 60 0 (by decide) (by decide) Nat.one_pos) fl_X11_94 rfl 0 rfl dX11_paid_410 ?_
  refine a_iload dX11_paid_413 6 rfl ?_
  refine a_aload_n dX11_paid_415 1 rfl rfl ?_
  refine a_getR hZ.1 (hZ.2 60 0 (by decide) (by decide) Nat.one_pos) fl_X11_97 rfl 0 rfl dX11_paid_416 ?_
  refine a_iload dX11_paid_419 6 rfl ?_
  obtain ⟨p1, hF⟩ := gd_some hF
  refine a_iald hZ.1 (s 86 0 v9.toNatClampNeg) (hZ.2 86 0 (by decide) (by decide) Nat.one_pos) rfl rfl (inb_vp p1) rfl dX11_paid_421 ?_
  obtain ⟨p2, hF⟩ := gd_some hF
  refine a_iast hZ.1 (hZ.2 85 0 (by decide) (by decide) Nat.one_pos) rfl rfl (inb_vp p2) dX11_paid_422 ?_
  refine a_iinc [(9, .int (v9 + 1)), (8, .int x0), (0, .ref (za Z 60 0)), (3, .int a3), (4, .int a4), (6, .int v6), (7, .int v7)] dX11_paid_423 6 rfl rfl (by decide) rfl ?_
  refine a_goto 374 dX11_paid_426 (by decide) ?_
  refine a_loc [(0, .ref (za Z 60 0)), (3, .int a3), (4, .int a4), (6, .int v6), (7, .int v7), (8, .int x0), (9, .int (v9 + 1))] [2, 3, 4, 5, 6, 1, 0] rfl ?_
  exact w374_ v6 v7 x0 (v9 + 1)  _ hF
set_option maxRecDepth 100000 in
set_option maxHeartbeats 4000000 in
theorem w_X11_paid_402 {Z : ZE} {l : Launch} (hZ : OkM Z) {a1 : Int32} {a2 : Int32} {a3 : Int32} {a4 : Int32}  {R : Int32 × St} (h374_ : Int32 → Int32 → Int32 → Int32 → St → Option (Int32 × St)) (w374_ : ∀ (v6 : Int32) (v7 : Int32) (v8 : Int32) (v9 : Int32)  (s : St), h374_ v6 v7 v8 v9 s = some R → AW Z l iX11_paid (Pq (rI R)) 0 0 374 [(0, .ref (za Z 60 0)), (3, .int a3), (4, .int a4), (6, .int v6), (7, .int v7), (8, .int v8), (9, .int v9)] [] s) (h429_ : Int32 → Int32 → Int32 → St → Option (Int32 × St)) (w429_ : ∀ (v6 : Int32) (v7 : Int32) (v8 : Int32)  (s : St), h429_ v6 v7 v8 s = some R → AW Z l iX11_paid (Pq (rI R)) 0 0 429 [(0, .ref (za Z 60 0)), (3, .int a3), (4, .int a4), (6, .int v6), (7, .int v7), (8, .int v8)] [] s) (v6 : Int32) (v7 : Int32) (v9 : Int32)  (s : St) (hF : F_X11_paid_402 (zg Z) a1 a2 a3 a4 h374_ h429_ v6 v7 v9 s = some R) : AW Z l iX11_paid (Pq (rI R)) 0 0 402 [(0, .ref (za Z 60 0)), (3, .int a3), (4, .int a4), (6, .int v6), (7, .int v7), (9, .int v9)] [] s := by
  unfold F_X11_paid_402 at hF
  refine a_iconst (v := (1 : Int32)) dX11_paid_402 (by decide) ?_
  refine a_goto 407 dX11_paid_403 (by decide) ?_
  exact w_X11_paid_407 (l := l) hZ  h374_ w374_ h429_ w429_ v6 v7 v9 (1 : Int32)  _ hF
set_option maxRecDepth 100000 in
set_option maxHeartbeats 4000000 in
theorem w_X11_paid_374 {Z : ZE} {l : Launch} (hZ : OkM Z) {a1 : Int32} {a2 : Int32} {a3 : Int32} {a4 : Int32}  {R : Int32 × St} (h429_ : Int32 → Int32 → Int32 → St → Option (Int32 × St)) (w429_ : ∀ (v6 : Int32) (v7 : Int32) (v8 : Int32)  (s : St), h429_ v6 v7 v8 s = some R → AW Z l iX11_paid (Pq (rI R)) 0 0 429 [(0, .ref (za Z 60 0)), (3, .int a3), (4, .int a4), (6, .int v6), (7, .int v7), (8, .int v8)] [] s) : ∀ (n_ : Nat) (v6 : Int32) (v7 : Int32) (v8 : Int32) (v9 : Int32)  (s : St), F_X11_paid_374 (zg Z) a1 a2 a3 a4 h429_ n_ v6 v7 v8 v9 s = some R → AW Z l iX11_paid (Pq (rI R)) 0 0 374 [(0, .ref (za Z 60 0)), (3, .int a3), (4, .int a4), (6, .int v6), (7, .int v7), (8, .int v8), (9, .int v9)] [] s := by
  intro n_
  induction n_ with
  | zero =>
    intro v6 v7 v8 v9 s hF
    exact absurd hF (by rw [F_X11_paid_374]; exact fun q => by cases q)
  | succ n_ w374_ =>
    intro v6 v7 v8 v9 s hF
    rw [F_X11_paid_374] at hF
    refine a_iload dX11_paid_374 6 rfl ?_
    refine a_iload_n dX11_paid_376 1 rfl rfl ?_
    refine a_icmp_ge 429 dX11_paid_377 (by decide) (fun q1 => ?_) (fun q1 => ?_)
    · replace hF := (if_pos q1).symm.trans hF
      refine a_loc [(0, .ref (za Z 60 0)), (3, .int a3), (4, .int a4), (6, .int v6), (7, .int v7), (8, .int v8)] [0, 1, 2, 3, 4, 5] rfl ?_
      exact w429_ v6 v7 v8  _ hF
    · replace hF := (if_neg q1).symm.trans hF
      refine a_iload dX11_paid_380 5 rfl ?_
      refine a_if_ne 402 dX11_paid_382 (by decide) (fun q2 => ?_) (fun q2 => ?_)
      · replace hF := (if_neg q2).symm.trans hF
        refine a_loc [(0, .ref (za Z 60 0)), (3, .int a3), (4, .int a4), (6, .int v6), (7, .int v7), (9, .int v9)] [0, 1, 2, 3, 4, 6] rfl ?_
        exact w_X11_paid_402 (l := l) hZ  (F_X11_paid_374 (zg Z) a1 a2 a3 a4 h429_ n_) w374_ h429_ w429_ v6 v7 v9  _ hF
      · replace hF := (if_pos q2).symm.trans hF
        refine a_aload_n dX11_paid_385 0 rfl rfl ?_
        refine a_getR hZ.1 (hZ.2 60 0 (by decide) (by decide) Nat.one_pos) fl_X11_97 rfl 0 rfl dX11_paid_386 ?_
        refine a_iload dX11_paid_389 6 rfl ?_
        obtain ⟨p3, hF⟩ := gd_some hF
        refine a_iald hZ.1 (s 86 0 v9.toNatClampNeg) (hZ.2 86 0 (by decide) (by decide) Nat.one_pos) rfl rfl (inb_vp p3) rfl dX11_paid_391 ?_
        refine a_aload_n dX11_paid_392 0 rfl rfl ?_
        refine a_getR hZ.1 (hZ.2 60 0 (by decide) (by decide) Nat.one_pos) fl_X11_94 rfl 0 rfl dX11_paid_393 ?_
        refine a_iload dX11_paid_396 6 rfl ?_
        obtain ⟨p4, hF⟩ := gd_some hF
        refine a_iald hZ.1 (s 85 0 v9.toNatClampNeg) (hZ.2 85 0 (by decide) (by decide) Nat.one_pos) rfl rfl (inb_vp p4) rfl dX11_paid_398 ?_
        refine a_icmp_eq 406 dX11_paid_399 (by decide) (fun q5 => ?_) (fun q5 => ?_)
        · replace hF := (if_pos q5).symm.trans hF
          refine a_iconst (v := (0 : Int32)) dX11_paid_406 (by decide) ?_
          refine a_loc [(0, .ref (za Z 60 0)), (3, .int a3), (4, .int a4), (6, .int v6), (7, .int v7), (9, .int v9)] [0, 1, 2, 3, 4, 6] rfl ?_
          exact w_X11_paid_407 (l := l) hZ  (F_X11_paid_374 (zg Z) a1 a2 a3 a4 h429_ n_) w374_ h429_ w429_ v6 v7 v9 (0 : Int32)  _ hF
        · replace hF := (if_neg q5).symm.trans hF
          refine a_loc [(0, .ref (za Z 60 0)), (3, .int a3), (4, .int a4), (6, .int v6), (7, .int v7), (9, .int v9)] [0, 1, 2, 3, 4, 6] rfl ?_
          exact w_X11_paid_402 (l := l) hZ  (F_X11_paid_374 (zg Z) a1 a2 a3 a4 h429_ n_) w374_ h429_ w429_ v6 v7 v9  _ hF
set_option maxRecDepth 100000 in
set_option maxHeartbeats 4000000 in
theorem w_X11_paid_371 {Z : ZE} {l : Launch} (hZ : OkM Z) {a1 : Int32} {a2 : Int32} {a3 : Int32} {a4 : Int32}  {R : Int32 × St} (h238_ : Int32 → Int32 → Int32 → St → Option (Int32 × St)) (w238_ : ∀ (v6 : Int32) (v7 : Int32) (v8 : Int32)  (s : St), h238_ v6 v7 v8 s = some R → AW Z l iX11_paid (Pq (rI R)) 0 0 238 [(0, .ref (za Z 60 0)), (3, .int a3), (4, .int a4), (6, .int v6), (7, .int v7), (8, .int v8)] [] s) (h447_ : Int32 → St → Option (Int32 × St)) (w447_ : ∀ (v7 : Int32)  (s : St), h447_ v7 s = some R → AW Z l iX11_paid (Pq (rI R)) 0 0 447 [(0, .ref (za Z 60 0)), (3, .int a3), (4, .int a4), (7, .int v7)] [] s) (v6 : Int32) (v7 : Int32) (v8 : Int32)  (s : St) (hF : F_X11_paid_371 (zg Z) a1 a2 a3 a4 h238_ h447_ v6 v7 v8 s = some R) : AW Z l iX11_paid (Pq (rI R)) 0 0 371 [(0, .ref (za Z 60 0)), (3, .int a3), (4, .int a4), (6, .int v6), (7, .int v7), (8, .int v8)] [] s := by
  unfold F_X11_paid_371 at hF
  refine a_iconst (v := (0 : Int32)) dX11_paid_371 (by decide) ?_
  refine a_istore [(9, .int (0 : Int32)), (0, .ref (za Z 60 0)), (3, .int a3), (4, .int a4), (6, .int v6), (7, .int v7), (8, .int v8)] dX11_paid_372 (by decide) rfl ?_
  refine a_loc [(0, .ref (za Z 60 0)), (3, .int a3), (4, .int a4), (6, .int v6), (7, .int v7), (8, .int v8), (9, .int (0 : Int32))] [1, 2, 3, 4, 5, 6, 0] rfl ?_
  exact w_X11_paid_374 (l := l) hZ  (F_X11_paid_429 (zg Z) a1 a2 a3 a4 h238_ h447_) (w_X11_paid_429 (l := l) hZ  h238_ w238_ h447_ w447_) fu v6 v7 v8 (0 : Int32)  _ hF
set_option maxRecDepth 100000 in
set_option maxHeartbeats 4000000 in
theorem w_X11_paid_364 {Z : ZE} {l : Launch} (hZ : OkM Z) {a1 : Int32} {a2 : Int32} {a3 : Int32} {a4 : Int32}  {R : Int32 × St} (h249_ : Int32 → Int32 → Int32 → Int32 → St → Option (Int32 × St)) (w249_ : ∀ (v6 : Int32) (v7 : Int32) (v8 : Int32) (v9 : Int32)  (s : St), h249_ v6 v7 v8 v9 s = some R → AW Z l iX11_paid (Pq (rI R)) 0 0 249 [(0, .ref (za Z 60 0)), (3, .int a3), (4, .int a4), (6, .int v6), (7, .int v7), (8, .int v8), (9, .int v9)] [] s) (h371_ : Int32 → Int32 → Int32 → St → Option (Int32 × St)) (w371_ : ∀ (v6 : Int32) (v7 : Int32) (v8 : Int32)  (s : St), h371_ v6 v7 v8 s = some R → AW Z l iX11_paid (Pq (rI R)) 0 0 371 [(0, .ref (za Z 60 0)), (3, .int a3), (4, .int a4), (6, .int v6), (7, .int v7), (8, .int v8)] [] s) (v6 : Int32) (v7 : Int32) (v8 : Int32) (v9 : Int32) (x1 : Int32) (x2 : Int32)  (s : St) (hF : F_X11_paid_364 (zg Z) a1 a2 a3 a4 h249_ h371_ v6 v7 v8 v9 x1 x2 s = some R) : AW Z l iX11_paid (Pq (rI R)) 0 0 364 [(0, .ref (za Z 60 0)), (3, .int a3), (4, .int a4), (6, .int v6), (7, .int v7), (8, .int v8), (9, .int v9)] [.int x2, .int x1, .ref (za Z 86 0)] s := by
  unfold F_X11_paid_364 at hF
  obtain ⟨p1, hF⟩ := gd_some hF
  refine a_iast hZ.1 (hZ.2 86 0 (by decide) (by decide) Nat.one_pos) rfl rfl (inb_vp p1) dX11_paid_364 ?_
  refine a_iinc [(9, .int (v9 + 1)), (0, .ref (za Z 60 0)), (3, .int a3), (4, .int a4), (6, .int v6), (7, .int v7), (8, .int v8)] dX11_paid_365 6 rfl rfl (by decide) rfl ?_
  refine a_goto 249 dX11_paid_368 (by decide) ?_
  refine a_loc [(0, .ref (za Z 60 0)), (3, .int a3), (4, .int a4), (6, .int v6), (7, .int v7), (8, .int v8), (9, .int (v9 + 1))] [1, 2, 3, 4, 5, 6, 0] rfl ?_
  exact w249_ v6 v7 v8 (v9 + 1)  _ hF
set_option maxRecDepth 100000 in
set_option maxHeartbeats 4000000 in
theorem w_X11_paid_334 {Z : ZE} {l : Launch} (hZ : OkM Z) {a1 : Int32} {a2 : Int32} {a3 : Int32} {a4 : Int32}  {R : Int32 × St} (h249_ : Int32 → Int32 → Int32 → Int32 → St → Option (Int32 × St)) (w249_ : ∀ (v6 : Int32) (v7 : Int32) (v8 : Int32) (v9 : Int32)  (s : St), h249_ v6 v7 v8 v9 s = some R → AW Z l iX11_paid (Pq (rI R)) 0 0 249 [(0, .ref (za Z 60 0)), (3, .int a3), (4, .int a4), (6, .int v6), (7, .int v7), (8, .int v8), (9, .int v9)] [] s) (h371_ : Int32 → Int32 → Int32 → St → Option (Int32 × St)) (w371_ : ∀ (v6 : Int32) (v7 : Int32) (v8 : Int32)  (s : St), h371_ v6 v7 v8 s = some R → AW Z l iX11_paid (Pq (rI R)) 0 0 371 [(0, .ref (za Z 60 0)), (3, .int a3), (4, .int a4), (6, .int v6), (7, .int v7), (8, .int v8)] [] s) (v6 : Int32) (v7 : Int32) (v8 : Int32) (v9 : Int32) (v10 : Int32)  (s : St) (hF : F_X11_paid_334 (zg Z) a1 a2 a3 a4 h249_ h371_ v6 v7 v8 v9 v10 s = some R) : AW Z l iX11_paid (Pq (rI R)) 0 0 334 [(0, .ref (za Z 60 0)), (3, .int a3), (4, .int a4), (6, .int v6), (7, .int v7), (8, .int v8), (9, .int v9), (10, .int v10)] [] s := by
  unfold F_X11_paid_334 at hF
  refine a_aload_n dX11_paid_334 0 rfl rfl ?_
  refine a_getR hZ.1 (hZ.2 60 0 (by decide) (by decide) Nat.one_pos) fl_X11_97 rfl 0 rfl dX11_paid_335 ?_
  refine a_iload dX11_paid_338 6 rfl ?_
  refine a_iload dX11_paid_340 7 rfl ?_
  refine a_aload_n dX11_paid_342 0 rfl rfl ?_
  refine a_getR hZ.1 (hZ.2 60 0 (by decide) (by decide) Nat.one_pos) fl_X11_100 rfl 0 rfl dX11_paid_343 ?_
  refine a_iload dX11_paid_346 6 rfl ?_
  obtain ⟨p1, hF⟩ := gd_some hF
  refine a_iald hZ.1 (s 87 0 v9.toNatClampNeg) (hZ.2 87 0 (by decide) (by decide) Nat.one_pos) rfl rfl (inb_vp p1) rfl dX11_paid_348 ?_
  refine a_icmp_ge 357 dX11_paid_349 (by decide) (fun q2 => ?_) (fun q2 => ?_)
  · replace hF := (if_pos q2).symm.trans hF
    refine a_aload_n dX11_paid_357 0 rfl rfl ?_
    refine a_getR hZ.1 (hZ.2 60 0 (by decide) (by decide) Nat.one_pos) fl_X11_100 rfl 0 rfl dX11_paid_358 ?_
    refine a_iload dX11_paid_361 6 rfl ?_
    obtain ⟨p3, hF⟩ := gd_some hF
    refine a_iald hZ.1 (s 87 0 v9.toNatClampNeg) (hZ.2 87 0 (by decide) (by decide) Nat.one_pos) rfl rfl (inb_vp p3) rfl dX11_paid_363 ?_
    refine a_loc [(0, .ref (za Z 60 0)), (3, .int a3), (4, .int a4), (6, .int v6), (7, .int v7), (8, .int v8), (9, .int v9)] [0, 1, 2, 3, 4, 5, 6] rfl ?_
    exact w_X11_paid_364 (l := l) hZ  h249_ w249_ h371_ w371_ v6 v7 v8 v9 v9 (s 87 0 v9.toNatClampNeg)  _ hF
  · replace hF := (if_neg q2).symm.trans hF
    refine a_iload dX11_paid_352 7 rfl ?_
    refine a_goto 364 dX11_paid_354 (by decide) ?_
    refine a_loc [(0, .ref (za Z 60 0)), (3, .int a3), (4, .int a4), (6, .int v6), (7, .int v7), (8, .int v8), (9, .int v9)] [0, 1, 2, 3, 4, 5, 6] rfl ?_
    exact w_X11_paid_364 (l := l) hZ  h249_ w249_ h371_ w371_ v6 v7 v8 v9 v9 v10  _ hF
set_option maxRecDepth 100000 in
set_option maxHeartbeats 4000000 in
theorem w_X11_paid_325 {Z : ZE} {l : Launch} (hZ : OkM Z) {a1 : Int32} {a2 : Int32} {a3 : Int32} {a4 : Int32}  {R : Int32 × St} (h270_ : Int32 → Int32 → Int32 → Int32 → Int32 → Int32 → St → Option (Int32 × St)) (w270_ : ∀ (v6 : Int32) (v7 : Int32) (v8 : Int32) (v9 : Int32) (v10 : Int32) (v11 : Int32)  (s : St), h270_ v6 v7 v8 v9 v10 v11 s = some R → AW Z l iX11_paid (Pq (rI R)) 0 0 270 [(0, .ref (za Z 60 0)), (3, .int a3), (4, .int a4), (6, .int v6), (7, .int v7), (8, .int v8), (9, .int v9), (10, .int v10), (11, .int v11)] [] s) (h334_ : Int32 → Int32 → Int32 → Int32 → Int32 → St → Option (Int32 × St)) (w334_ : ∀ (v6 : Int32) (v7 : Int32) (v8 : Int32) (v9 : Int32) (v10 : Int32)  (s : St), h334_ v6 v7 v8 v9 v10 s = some R → AW Z l iX11_paid (Pq (rI R)) 0 0 334 [(0, .ref (za Z 60 0)), (3, .int a3), (4, .int a4), (6, .int v6), (7, .int v7), (8, .int v8), (9, .int v9), (10, .int v10)] [] s) (v6 : Int32) (v7 : Int32) (v8 : Int32) (v9 : Int32) (v11 : Int32) (x0 : Int32) (x1 : Int32)  (s : St) (hF : F_X11_paid_325 (zg Z) a1 a2 a3 a4 h270_ h334_ v6 v7 v8 v9 v11 x0 x1 s = some R) : AW Z l iX11_paid (Pq (rI R)) 0 0 325 [(0, .ref (za Z 60 0)), (3, .int a3), (4, .int a4), (6, .int v6), (7, .int v7), (8, .int v8), (9, .int v9), (11, .int v11)] [.int x1, .int x0] s := by
  unfold F_X11_paid_325 at hF
  refine a_iadd dX11_paid_325 ?_
  refine a_istore [(10, .int (x0 + x1)), (0, .ref (za Z 60 0)), (3, .int a3), (4, .int a4), (6, .int v6), (7, .int v7), (8, .int v8), (9, .int v9), (11, .int v11)] dX11_paid_326 (by decide) rfl ?_
  refine a_iinc [(11, .int (v11 + 1)), (10, .int (x0 + x1)), (0, .ref (za Z 60 0)), (3, .int a3), (4, .int a4), (6, .int v6), (7, .int v7), (8, .int v8), (9, .int v9)] dX11_paid_328 8 rfl rfl (by decide) rfl ?_
  refine a_goto 270 dX11_paid_331 (by decide) ?_
  refine a_loc [(0, .ref (za Z 60 0)), (3, .int a3), (4, .int a4), (6, .int v6), (7, .int v7), (8, .int v8), (9, .int v9), (10, .int (x0 + x1)), (11, .int (v11 + 1))] [2, 3, 4, 5, 6, 7, 8, 1, 0] rfl ?_
  exact w270_ v6 v7 v8 v9 (x0 + x1) (v11 + 1)  _ hF
set_option maxRecDepth 100000 in
set_option maxHeartbeats 4000000 in
theorem w_X11_paid_270 {Z : ZE} {l : Launch} (hZ : OkM Z) {a1 : Int32} {a2 : Int32} {a3 : Int32} {a4 : Int32}  {R : Int32 × St} (h334_ : Int32 → Int32 → Int32 → Int32 → Int32 → St → Option (Int32 × St)) (w334_ : ∀ (v6 : Int32) (v7 : Int32) (v8 : Int32) (v9 : Int32) (v10 : Int32)  (s : St), h334_ v6 v7 v8 v9 v10 s = some R → AW Z l iX11_paid (Pq (rI R)) 0 0 334 [(0, .ref (za Z 60 0)), (3, .int a3), (4, .int a4), (6, .int v6), (7, .int v7), (8, .int v8), (9, .int v9), (10, .int v10)] [] s) : ∀ (n_ : Nat) (v6 : Int32) (v7 : Int32) (v8 : Int32) (v9 : Int32) (v10 : Int32) (v11 : Int32)  (s : St), F_X11_paid_270 (zg Z) a1 a2 a3 a4 h334_ n_ v6 v7 v8 v9 v10 v11 s = some R → AW Z l iX11_paid (Pq (rI R)) 0 0 270 [(0, .ref (za Z 60 0)), (3, .int a3), (4, .int a4), (6, .int v6), (7, .int v7), (8, .int v8), (9, .int v9), (10, .int v10), (11, .int v11)] [] s := by
  intro n_
  induction n_ with
  | zero =>
    intro v6 v7 v8 v9 v10 v11 s hF
    exact absurd hF (by rw [F_X11_paid_270]; exact fun q => by cases q)
  | succ n_ w270_ =>
    intro v6 v7 v8 v9 v10 v11 s hF
    rw [F_X11_paid_270] at hF
    refine a_iload dX11_paid_270 8 rfl ?_
    refine a_iload_n dX11_paid_272 1 rfl rfl ?_
    refine a_icmp_ge 334 dX11_paid_273 (by decide) (fun q1 => ?_) (fun q1 => ?_)
    · replace hF := (if_pos q1).symm.trans hF
      refine a_loc [(0, .ref (za Z 60 0)), (3, .int a3), (4, .int a4), (6, .int v6), (7, .int v7), (8, .int v8), (9, .int v9), (10, .int v10)] [0, 1, 2, 3, 4, 5, 6, 7] rfl ?_
      exact w334_ v6 v7 v8 v9 v10  _ hF
    · replace hF := (if_neg q1).symm.trans hF
      refine a_iload dX11_paid_276 7 rfl ?_
      refine a_aload_n dX11_paid_278 0 rfl rfl ?_
      refine a_getR hZ.1 (hZ.2 60 0 (by decide) (by decide) Nat.one_pos) fl_X11_100 rfl 0 rfl dX11_paid_279 ?_
      refine a_iload dX11_paid_282 8 rfl ?_
      obtain ⟨p2, hF⟩ := gd_some hF
      refine a_iald hZ.1 (s 87 0 v11.toNatClampNeg) (hZ.2 87 0 (by decide) (by decide) Nat.one_pos) rfl rfl (inb_vp p2) rfl dX11_paid_284 ?_
      refine a_if_ne 292 dX11_paid_285 (by decide) (fun q3 => ?_) (fun q3 => ?_)
      · replace hF := (if_neg q3).symm.trans hF
        refine a_aload_n dX11_paid_292 0 rfl rfl ?_
        refine a_getR hZ.1 (hZ.2 60 0 (by decide) (by decide) Nat.one_pos) fl_X11_94 rfl 0 rfl dX11_paid_293 ?_
        refine a_iload dX11_paid_296 8 rfl ?_
        obtain ⟨p4, hF⟩ := gd_some hF
        refine a_iald hZ.1 (s 85 0 v11.toNatClampNeg) (hZ.2 85 0 (by decide) (by decide) Nat.one_pos) rfl rfl (inb_vp p4) rfl dX11_paid_298 ?_
        refine a_aload_n dX11_paid_299 0 rfl rfl ?_
        refine a_getR hZ.1 (hZ.2 60 0 (by decide) (by decide) Nat.one_pos) fl_X11_24 rfl 0 rfl dX11_paid_300 ?_
        refine a_iload dX11_paid_303 3 rfl ?_
        refine a_iload_n dX11_paid_305 1 rfl rfl ?_
        refine a_iadd dX11_paid_306 ?_
        refine a_iload_n dX11_paid_307 1 rfl rfl ?_
        refine a_iload dX11_paid_308 8 rfl ?_
        refine a_imul dX11_paid_310 ?_
        refine a_iadd dX11_paid_311 ?_
        refine a_iload dX11_paid_312 6 rfl ?_
        refine a_iadd dX11_paid_314 ?_
        obtain ⟨p5, hF⟩ := gd_some hF
        refine a_iald hZ.1 (s 63 0 (((v6 + a3) + (a3 * v11)) + v9).toNatClampNeg) (hZ.2 63 0 (by decide) (by decide) Nat.one_pos) rfl rfl (inb_vp p5) rfl dX11_paid_315 ?_
        refine a_imul dX11_paid_316 ?_
        refine a_aload_n dX11_paid_317 0 rfl rfl ?_
        refine a_getR hZ.1 (hZ.2 60 0 (by decide) (by decide) Nat.one_pos) fl_X11_100 rfl 0 rfl dX11_paid_318 ?_
        refine a_iload dX11_paid_321 8 rfl ?_
        obtain ⟨p6, hF⟩ := gd_some hF
        refine a_iald hZ.1 (s 87 0 v11.toNatClampNeg) (hZ.2 87 0 (by decide) (by decide) Nat.one_pos) rfl rfl (inb_vp p6) rfl dX11_paid_323 ?_
        obtain ⟨p7, hF⟩ := gd_some hF
        refine a_idiv dX11_paid_324 (ne0_n p7) ?_
        refine a_loc [(0, .ref (za Z 60 0)), (3, .int a3), (4, .int a4), (6, .int v6), (7, .int v7), (8, .int v8), (9, .int v9), (11, .int v11)] [0, 1, 2, 3, 4, 5, 6, 8] rfl ?_
        exact w_X11_paid_325 (l := l) hZ  (F_X11_paid_270 (zg Z) a1 a2 a3 a4 h334_ n_) w270_ h334_ w334_ v6 v7 v8 v9 v11 v10 (((s 85 0 v11.toNatClampNeg) * (s 63 0 (((v6 + a3) + (a3 * v11)) + v9).toNatClampNeg)) / (s 87 0 v11.toNatClampNeg))  _ hF
      · replace hF := (if_pos q3).symm.trans hF
        refine a_iconst (v := (0 : Int32)) dX11_paid_288 (by decide) ?_
        refine a_goto 325 dX11_paid_289 (by decide) ?_
        refine a_loc [(0, .ref (za Z 60 0)), (3, .int a3), (4, .int a4), (6, .int v6), (7, .int v7), (8, .int v8), (9, .int v9), (11, .int v11)] [0, 1, 2, 3, 4, 5, 6, 8] rfl ?_
        exact w_X11_paid_325 (l := l) hZ  (F_X11_paid_270 (zg Z) a1 a2 a3 a4 h334_ n_) w270_ h334_ w334_ v6 v7 v8 v9 v11 v10 (0 : Int32)  _ hF
set_option maxRecDepth 100000 in
set_option maxHeartbeats 4000000 in
theorem w_X11_paid_249 {Z : ZE} {l : Launch} (hZ : OkM Z) {a1 : Int32} {a2 : Int32} {a3 : Int32} {a4 : Int32}  {R : Int32 × St} (h371_ : Int32 → Int32 → Int32 → St → Option (Int32 × St)) (w371_ : ∀ (v6 : Int32) (v7 : Int32) (v8 : Int32)  (s : St), h371_ v6 v7 v8 s = some R → AW Z l iX11_paid (Pq (rI R)) 0 0 371 [(0, .ref (za Z 60 0)), (3, .int a3), (4, .int a4), (6, .int v6), (7, .int v7), (8, .int v8)] [] s) : ∀ (n_ : Nat) (v6 : Int32) (v7 : Int32) (v8 : Int32) (v9 : Int32)  (s : St), F_X11_paid_249 (zg Z) a1 a2 a3 a4 h371_ n_ v6 v7 v8 v9 s = some R → AW Z l iX11_paid (Pq (rI R)) 0 0 249 [(0, .ref (za Z 60 0)), (3, .int a3), (4, .int a4), (6, .int v6), (7, .int v7), (8, .int v8), (9, .int v9)] [] s := by
  intro n_
  induction n_ with
  | zero =>
    intro v6 v7 v8 v9 s hF
    exact absurd hF (by rw [F_X11_paid_249]; exact fun q => by cases q)
  | succ n_ w249_ =>
    intro v6 v7 v8 v9 s hF
    rw [F_X11_paid_249] at hF
    refine a_iload dX11_paid_249 6 rfl ?_
    refine a_iload_n dX11_paid_251 1 rfl rfl ?_
    refine a_icmp_ge 371 dX11_paid_252 (by decide) (fun q1 => ?_) (fun q1 => ?_)
    · replace hF := (if_pos q1).symm.trans hF
      refine a_loc [(0, .ref (za Z 60 0)), (3, .int a3), (4, .int a4), (6, .int v6), (7, .int v7), (8, .int v8)] [0, 1, 2, 3, 4, 5] rfl ?_
      exact w371_ v6 v7 v8  _ hF
    · replace hF := (if_neg q1).symm.trans hF
      refine a_aload_n dX11_paid_255 0 rfl rfl ?_
      refine a_getR hZ.1 (hZ.2 60 0 (by decide) (by decide) Nat.one_pos) fl_X11_24 rfl 0 rfl dX11_paid_256 ?_
      refine a_iload dX11_paid_259 3 rfl ?_
      refine a_iload dX11_paid_261 6 rfl ?_
      refine a_iadd dX11_paid_263 ?_
      obtain ⟨p2, hF⟩ := gd_some hF
      refine a_iald hZ.1 (s 63 0 (v6 + v9).toNatClampNeg) (hZ.2 63 0 (by decide) (by decide) Nat.one_pos) rfl rfl (inb_vp p2) rfl dX11_paid_264 ?_
      refine a_istore [(10, .int (s 63 0 (v6 + v9).toNatClampNeg)), (0, .ref (za Z 60 0)), (3, .int a3), (4, .int a4), (6, .int v6), (7, .int v7), (8, .int v8), (9, .int v9)] dX11_paid_265 (by decide) rfl ?_
      refine a_iconst (v := (0 : Int32)) dX11_paid_267 (by decide) ?_
      refine a_istore [(11, .int (0 : Int32)), (10, .int (s 63 0 (v6 + v9).toNatClampNeg)), (0, .ref (za Z 60 0)), (3, .int a3), (4, .int a4), (6, .int v6), (7, .int v7), (8, .int v8), (9, .int v9)] dX11_paid_268 (by decide) rfl ?_
      refine a_loc [(0, .ref (za Z 60 0)), (3, .int a3), (4, .int a4), (6, .int v6), (7, .int v7), (8, .int v8), (9, .int v9), (10, .int (s 63 0 (v6 + v9).toNatClampNeg)), (11, .int (0 : Int32))] [2, 3, 4, 5, 6, 7, 8, 1, 0] rfl ?_
      exact w_X11_paid_270 (l := l) hZ  (F_X11_paid_334 (zg Z) a1 a2 a3 a4 (F_X11_paid_249 (zg Z) a1 a2 a3 a4 h371_ n_) h371_) (w_X11_paid_334 (l := l) hZ  (F_X11_paid_249 (zg Z) a1 a2 a3 a4 h371_ n_) w249_ h371_ w371_) fu v6 v7 v8 v9 (s 63 0 (v6 + v9).toNatClampNeg) (0 : Int32)  _ hF
set_option maxRecDepth 100000 in
set_option maxHeartbeats 4000000 in
theorem w_X11_paid_238 {Z : ZE} {l : Launch} (hZ : OkM Z) {a1 : Int32} {a2 : Int32} {a3 : Int32} {a4 : Int32}  {R : Int32 × St} (h447_ : Int32 → St → Option (Int32 × St)) (w447_ : ∀ (v7 : Int32)  (s : St), h447_ v7 s = some R → AW Z l iX11_paid (Pq (rI R)) 0 0 447 [(0, .ref (za Z 60 0)), (3, .int a3), (4, .int a4), (7, .int v7)] [] s) : ∀ (n_ : Nat) (v6 : Int32) (v7 : Int32) (v8 : Int32)  (s : St), F_X11_paid_238 (zg Z) a1 a2 a3 a4 h447_ n_ v6 v7 v8 s = some R → AW Z l iX11_paid (Pq (rI R)) 0 0 238 [(0, .ref (za Z 60 0)), (3, .int a3), (4, .int a4), (6, .int v6), (7, .int v7), (8, .int v8)] [] s := by
  intro n_
  induction n_ with
  | zero =>
    intro v6 v7 v8 s hF
    exact absurd hF (by rw [F_X11_paid_238]; exact fun q => by cases q)
  | succ n_ w238_ =>
    intro v6 v7 v8 s hF
    rw [F_X11_paid_238] at hF
    refine a_iload dX11_paid_238 5 rfl ?_
    refine a_if_eq 447 dX11_paid_240 (by decide) (fun q1 => ?_) (fun q1 => ?_)
    · replace hF := (if_pos q1).symm.trans hF
      refine a_loc [(0, .ref (za Z 60 0)), (3, .int a3), (4, .int a4), (7, .int v7)] [0, 1, 2, 4] rfl ?_
      exact w447_ v7  _ hF
    · replace hF := (if_neg q1).symm.trans hF
      refine a_iconst (v := (0 : Int32)) dX11_paid_243 (by decide) ?_
      refine a_istore [(8, .int (0 : Int32)), (0, .ref (za Z 60 0)), (3, .int a3), (4, .int a4), (6, .int v6), (7, .int v7)] dX11_paid_244 (by decide) rfl ?_
      refine a_iconst (v := (0 : Int32)) dX11_paid_246 (by decide) ?_
      refine a_istore [(9, .int (0 : Int32)), (8, .int (0 : Int32)), (0, .ref (za Z 60 0)), (3, .int a3), (4, .int a4), (6, .int v6), (7, .int v7)] dX11_paid_247 (by decide) rfl ?_
      refine a_loc [(0, .ref (za Z 60 0)), (3, .int a3), (4, .int a4), (6, .int v6), (7, .int v7), (8, .int (0 : Int32)), (9, .int (0 : Int32))] [2, 3, 4, 5, 6, 1, 0] rfl ?_
      exact w_X11_paid_249 (l := l) hZ  (F_X11_paid_371 (zg Z) a1 a2 a3 a4 (F_X11_paid_238 (zg Z) a1 a2 a3 a4 h447_ n_) h447_) (w_X11_paid_371 (l := l) hZ  (F_X11_paid_238 (zg Z) a1 a2 a3 a4 h447_ n_) w238_ h447_ w447_) fu v6 v7 (0 : Int32) (0 : Int32)  _ hF
set_option maxRecDepth 100000 in
set_option maxHeartbeats 4000000 in
theorem w_X11_paid_232 {Z : ZE} {l : Launch} (hZ : OkM Z) {a1 : Int32} {a2 : Int32} {a3 : Int32} {a4 : Int32}  {R : Int32 × St}  (v6 : Int32)  (s : St) (hF : F_X11_paid_232 (zg Z) a1 a2 a3 a4 v6 s = some R) : AW Z l iX11_paid (Pq (rI R)) 0 0 232 [(0, .ref (za Z 60 0)), (3, .int a3), (4, .int a4), (6, .int v6)] [] s := by
  unfold F_X11_paid_232 at hF
  refine a_iconst (v := (0 : Int32)) dX11_paid_232 (by decide) ?_
  refine a_istore [(7, .int (0 : Int32)), (0, .ref (za Z 60 0)), (3, .int a3), (4, .int a4), (6, .int v6)] dX11_paid_233 (by decide) rfl ?_
  refine a_iconst (v := (1 : Int32)) dX11_paid_235 (by decide) ?_
  refine a_istore [(8, .int (1 : Int32)), (7, .int (0 : Int32)), (0, .ref (za Z 60 0)), (3, .int a3), (4, .int a4), (6, .int v6)] dX11_paid_236 (by decide) rfl ?_
  refine a_loc [(0, .ref (za Z 60 0)), (3, .int a3), (4, .int a4), (6, .int v6), (7, .int (0 : Int32)), (8, .int (1 : Int32))] [2, 3, 4, 5, 1, 0] rfl ?_
  exact w_X11_paid_238 (l := l) hZ  (F_X11_paid_447 (zg Z) a1 a2 a3 a4 ) (w_X11_paid_447 (l := l) hZ  ) fu v6 (0 : Int32) (1 : Int32)  _ hF
set_option maxRecDepth 100000 in
set_option maxHeartbeats 4000000 in
theorem w_X11_paid_212 {Z : ZE} {l : Launch} (hZ : OkM Z) {a1 : Int32} {a2 : Int32} {a3 : Int32} {a4 : Int32}  {R : Int32 × St} (h156_ : Int32 → Int32 → St → Option (Int32 × St)) (w156_ : ∀ (v6 : Int32) (v7 : Int32)  (s : St), h156_ v6 v7 s = some R → AW Z l iX11_paid (Pq (rI R)) 0 0 156 [(0, .ref (za Z 60 0)), (3, .int a3), (4, .int a4), (6, .int v6), (7, .int v7)] [] s) (h232_ : Int32 → St → Option (Int32 × St)) (w232_ : ∀ (v6 : Int32)  (s : St), h232_ v6 s = some R → AW Z l iX11_paid (Pq (rI R)) 0 0 232 [(0, .ref (za Z 60 0)), (3, .int a3), (4, .int a4), (6, .int v6)] [] s) (v6 : Int32) (v7 : Int32)  (s : St) (hF : F_X11_paid_212 (zg Z) a1 a2 a3 a4 h156_ h232_ v6 v7 s = some R) : AW Z l iX11_paid (Pq (rI R)) 0 0 212 [(0, .ref (za Z 60 0)), (3, .int a3), (4, .int a4), (6, .int v6), (7, .int v7)] [] s := by
  unfold F_X11_paid_212 at hF
  refine a_aload_n dX11_paid_212 0 rfl rfl ?_
  refine a_getR hZ.1 (hZ.2 60 0 (by decide) (by decide) Nat.one_pos) fl_X11_94 rfl 0 rfl dX11_paid_213 ?_
  refine a_iload dX11_paid_216 4 rfl ?_
  refine a_aload_n dX11_paid_218 0 rfl rfl ?_
  refine a_getR hZ.1 (hZ.2 60 0 (by decide) (by decide) Nat.one_pos) fl_X11_100 rfl 0 rfl dX11_paid_219 ?_
  refine a_iload dX11_paid_222 4 rfl ?_
  obtain ⟨p1, hF⟩ := gd_some hF
  refine a_iald hZ.1 (s 87 0 v7.toNatClampNeg) (hZ.2 87 0 (by decide) (by decide) Nat.one_pos) rfl rfl (inb_vp p1) rfl dX11_paid_224 ?_
  obtain ⟨p2, hF⟩ := gd_some hF
  refine a_iast hZ.1 (hZ.2 85 0 (by decide) (by decide) Nat.one_pos) rfl rfl (inb_vp p2) dX11_paid_225 ?_
  refine a_iinc [(7, .int (v7 + 1)), (0, .ref (za Z 60 0)), (3, .int a3), (4, .int a4), (6, .int v6)] dX11_paid_226 4 rfl rfl (by decide) rfl ?_
  refine a_goto 156 dX11_paid_229 (by decide) ?_
  refine a_loc [(0, .ref (za Z 60 0)), (3, .int a3), (4, .int a4), (6, .int v6), (7, .int (v7 + 1))] [1, 2, 3, 4, 0] rfl ?_
  exact w156_ v6 (v7 + 1)  _ hF
set_option maxRecDepth 100000 in
set_option maxHeartbeats 4000000 in
theorem w_X11_paid_173 {Z : ZE} {l : Launch} (hZ : OkM Z) {a1 : Int32} {a2 : Int32} {a3 : Int32} {a4 : Int32}  {R : Int32 × St} (h212_ : Int32 → Int32 → St → Option (Int32 × St)) (w212_ : ∀ (v6 : Int32) (v7 : Int32)  (s : St), h212_ v6 v7 s = some R → AW Z l iX11_paid (Pq (rI R)) 0 0 212 [(0, .ref (za Z 60 0)), (3, .int a3), (4, .int a4), (6, .int v6), (7, .int v7)] [] s) : ∀ (n_ : Nat) (v6 : Int32) (v7 : Int32) (v8 : Int32)  (s : St), F_X11_paid_173 (zg Z) a1 a2 a3 a4 h212_ n_ v6 v7 v8 s = some R → AW Z l iX11_paid (Pq (rI R)) 0 0 173 [(0, .ref (za Z 60 0)), (3, .int a3), (4, .int a4), (6, .int v6), (7, .int v7), (8, .int v8)] [] s := by
  intro n_
  induction n_ with
  | zero =>
    intro v6 v7 v8 s hF
    exact absurd hF (by rw [F_X11_paid_173]; exact fun q => by cases q)
  | succ n_ w173_ =>
    intro v6 v7 v8 s hF
    rw [F_X11_paid_173] at hF
    refine a_iload dX11_paid_173 5 rfl ?_
    refine a_iload_n dX11_paid_175 1 rfl rfl ?_
    refine a_icmp_ge 212 dX11_paid_176 (by decide) (fun q1 => ?_) (fun q1 => ?_)
    · replace hF := (if_pos q1).symm.trans hF
      refine a_loc [(0, .ref (za Z 60 0)), (3, .int a3), (4, .int a4), (6, .int v6), (7, .int v7)] [0, 1, 2, 3, 4] rfl ?_
      exact w212_ v6 v7  _ hF
    · replace hF := (if_neg q1).symm.trans hF
      refine a_aload_n dX11_paid_179 0 rfl rfl ?_
      refine a_getR hZ.1 (hZ.2 60 0 (by decide) (by decide) Nat.one_pos) fl_X11_100 rfl 0 rfl dX11_paid_180 ?_
      refine a_iload dX11_paid_183 4 rfl ?_
      refine a_dup2 dX11_paid_185 rfl rfl ?_
      obtain ⟨p2, hF⟩ := gd_some hF
      refine a_iald hZ.1 (s 87 0 v7.toNatClampNeg) (hZ.2 87 0 (by decide) (by decide) Nat.one_pos) rfl rfl (inb_vp p2) rfl dX11_paid_186 ?_
      refine a_aload_n dX11_paid_187 0 rfl rfl ?_
      refine a_getR hZ.1 (hZ.2 60 0 (by decide) (by decide) Nat.one_pos) fl_X11_24 rfl 0 rfl dX11_paid_188 ?_
      refine a_iload dX11_paid_191 3 rfl ?_
      refine a_iload_n dX11_paid_193 1 rfl rfl ?_
      refine a_iadd dX11_paid_194 ?_
      refine a_iload_n dX11_paid_195 1 rfl rfl ?_
      refine a_iload dX11_paid_196 4 rfl ?_
      refine a_imul dX11_paid_198 ?_
      refine a_iadd dX11_paid_199 ?_
      refine a_iload dX11_paid_200 5 rfl ?_
      refine a_iadd dX11_paid_202 ?_
      obtain ⟨p3, hF⟩ := gd_some hF
      refine a_iald hZ.1 (s 63 0 (((v6 + a3) + (a3 * v7)) + v8).toNatClampNeg) (hZ.2 63 0 (by decide) (by decide) Nat.one_pos) rfl rfl (inb_vp p3) rfl dX11_paid_203 ?_
      refine a_iadd dX11_paid_204 ?_
      obtain ⟨p4, hF⟩ := gd_some hF
      refine a_iast hZ.1 (hZ.2 87 0 (by decide) (by decide) Nat.one_pos) rfl rfl (inb_vp p4) dX11_paid_205 ?_
      refine a_iinc [(8, .int (v8 + 1)), (0, .ref (za Z 60 0)), (3, .int a3), (4, .int a4), (6, .int v6), (7, .int v7)] dX11_paid_206 5 rfl rfl (by decide) rfl ?_
      refine a_goto 173 dX11_paid_209 (by decide) ?_
      refine a_loc [(0, .ref (za Z 60 0)), (3, .int a3), (4, .int a4), (6, .int v6), (7, .int v7), (8, .int (v8 + 1))] [1, 2, 3, 4, 5, 0] rfl ?_
      exact w173_ v6 v7 (v8 + 1)  _ hF
set_option maxRecDepth 100000 in
set_option maxHeartbeats 4000000 in
theorem w_X11_paid_156 {Z : ZE} {l : Launch} (hZ : OkM Z) {a1 : Int32} {a2 : Int32} {a3 : Int32} {a4 : Int32}  {R : Int32 × St} (h232_ : Int32 → St → Option (Int32 × St)) (w232_ : ∀ (v6 : Int32)  (s : St), h232_ v6 s = some R → AW Z l iX11_paid (Pq (rI R)) 0 0 232 [(0, .ref (za Z 60 0)), (3, .int a3), (4, .int a4), (6, .int v6)] [] s) : ∀ (n_ : Nat) (v6 : Int32) (v7 : Int32)  (s : St), F_X11_paid_156 (zg Z) a1 a2 a3 a4 h232_ n_ v6 v7 s = some R → AW Z l iX11_paid (Pq (rI R)) 0 0 156 [(0, .ref (za Z 60 0)), (3, .int a3), (4, .int a4), (6, .int v6), (7, .int v7)] [] s := by
  intro n_
  induction n_ with
  | zero =>
    intro v6 v7 s hF
    exact absurd hF (by rw [F_X11_paid_156]; exact fun q => by cases q)
  | succ n_ w156_ =>
    intro v6 v7 s hF
    rw [F_X11_paid_156] at hF
    refine a_iload dX11_paid_156 4 rfl ?_
    refine a_iload_n dX11_paid_158 1 rfl rfl ?_
    refine a_icmp_ge 232 dX11_paid_159 (by decide) (fun q1 => ?_) (fun q1 => ?_)
    · replace hF := (if_pos q1).symm.trans hF
      refine a_loc [(0, .ref (za Z 60 0)), (3, .int a3), (4, .int a4), (6, .int v6)] [0, 1, 2, 3] rfl ?_
      exact w232_ v6  _ hF
    · replace hF := (if_neg q1).symm.trans hF
      refine a_aload_n dX11_paid_162 0 rfl rfl ?_
      refine a_getR hZ.1 (hZ.2 60 0 (by decide) (by decide) Nat.one_pos) fl_X11_100 rfl 0 rfl dX11_paid_163 ?_
      refine a_iload dX11_paid_166 4 rfl ?_
      refine a_iconst (v := (0 : Int32)) dX11_paid_168 (by decide) ?_
      obtain ⟨p2, hF⟩ := gd_some hF
      refine a_iast hZ.1 (hZ.2 87 0 (by decide) (by decide) Nat.one_pos) rfl rfl (inb_vp p2) dX11_paid_169 ?_
      refine a_iconst (v := (0 : Int32)) dX11_paid_170 (by decide) ?_
      refine a_istore [(8, .int (0 : Int32)), (0, .ref (za Z 60 0)), (3, .int a3), (4, .int a4), (6, .int v6), (7, .int v7)] dX11_paid_171 (by decide) rfl ?_
      refine a_loc [(0, .ref (za Z 60 0)), (3, .int a3), (4, .int a4), (6, .int v6), (7, .int v7), (8, .int (0 : Int32))] [1, 2, 3, 4, 5, 0] rfl ?_
      exact w_X11_paid_173 (l := l) hZ  (F_X11_paid_212 (zg Z) a1 a2 a3 a4 (F_X11_paid_156 (zg Z) a1 a2 a3 a4 h232_ n_) h232_) (w_X11_paid_212 (l := l) hZ  (F_X11_paid_156 (zg Z) a1 a2 a3 a4 h232_ n_) w156_ h232_ w232_) fu v6 v7 (0 : Int32)  _ hF
set_option maxRecDepth 100000 in
set_option maxHeartbeats 4000000 in
theorem w_X11_paid_148 {Z : ZE} {l : Launch} (hZ : OkM Z) {a1 : Int32} {a2 : Int32} {a3 : Int32} {a4 : Int32}  {R : Int32 × St}  (v6 : Int32)  (s : St) (hF : F_X11_paid_148 (zg Z) a1 a2 a3 a4 v6 s = some R) : AW Z l iX11_paid (Pq (rI R)) 0 0 148 [(0, .ref (za Z 60 0)), (3, .int a3), (4, .int a4), (6, .int v6)] [] s := by
  unfold F_X11_paid_148 at hF
  refine a_aload_n dX11_paid_148 0 rfl rfl ?_
  refine a_iconst (v := (0 : Int32)) dX11_paid_149 (by decide) ?_
  refine a_put hZ.1 (hZ.2 60 0 (by decide) (by decide) Nat.one_pos) fl_X11_7 rfl rfl rfl dX11_paid_150 ?_
  refine a_iconst (v := (0 : Int32)) dX11_paid_153 (by decide) ?_
  refine a_istore [(7, .int (0 : Int32)), (0, .ref (za Z 60 0)), (3, .int a3), (4, .int a4), (6, .int v6)] dX11_paid_154 (by decide) rfl ?_
  refine a_loc [(0, .ref (za Z 60 0)), (3, .int a3), (4, .int a4), (6, .int v6), (7, .int (0 : Int32))] [1, 2, 3, 4, 0] rfl ?_
  exact w_X11_paid_156 (l := l) hZ  (F_X11_paid_232 (zg Z) a1 a2 a3 a4 ) (w_X11_paid_232 (l := l) hZ  ) fu v6 (0 : Int32)  _ hF
set_option maxRecDepth 100000 in
set_option maxHeartbeats 4000000 in
theorem w_X11_paid_133 {Z : ZE} {l : Launch} (hZ : OkM Z) {a1 : Int32} {a2 : Int32} {a3 : Int32} {a4 : Int32}  {R : Int32 × St} (h71_ : Int32 → Int32 → St → Option (Int32 × St)) (w71_ : ∀ (v6 : Int32) (v7 : Int32)  (s : St), h71_ v6 v7 s = some R → AW Z l iX11_paid (Pq (rI R)) 0 0 71 [(0, .ref (za Z 60 0)), (3, .int a3), (4, .int a4), (6, .int v6), (7, .int v7)] [] s) (h148_ : Int32 → St → Option (Int32 × St)) (w148_ : ∀ (v6 : Int32)  (s : St), h148_ v6 s = some R → AW Z l iX11_paid (Pq (rI R)) 0 0 148 [(0, .ref (za Z 60 0)), (3, .int a3), (4, .int a4), (6, .int v6)] [] s) (v6 : Int32) (v7 : Int32) (x0 : Int64) (x1 : Int64) (x2 : Int64)  (s : St) (hF : F_X11_paid_133 (zg Z) a1 a2 a3 a4 h71_ h148_ v6 v7 x0 x1 x2 s = some R) : AW Z l iX11_paid (Pq (rI R)) 0 0 133 [(0, .ref (za Z 60 0)), (3, .int a3), (4, .int a4), (6, .int v6), (7, .int v7)] [.long x2, .long x1, .long x0] s := by
  unfold F_X11_paid_133 at hF
  obtain ⟨r133, s133, e133, hF⟩ := bd_some hF
  refine a_invS hZ.1 (As := [.long x0, .long x1, .long x2]) (rest := []) lk_X11_126 ⟨⟨by decide, by decide⟩, by decide, by decide⟩ rfl (Nat.le_of_ble_eq_true rfl) dX11_paid_133 (m_X11_in hZ  e133) ?_
  show AW Z l iX11_paid (Pq (rI R)) 0 0 136 [(0, .ref (za Z 60 0)), (3, .int a3), (4, .int a4), (6, .int v6), (7, .int v7)] [.int r133] s133
  refine a_if_ne 142 dX11_paid_136 (by decide) (fun q1 => ?_) (fun q1 => ?_)
  · replace hF := (if_neg q1).symm.trans hF
    refine a_iinc [(7, .int (v7 + 1)), (0, .ref (za Z 60 0)), (3, .int a3), (4, .int a4), (6, .int v6)] dX11_paid_142 4 rfl rfl (by decide) rfl ?_
    refine a_goto 71 dX11_paid_145 (by decide) ?_
    refine a_loc [(0, .ref (za Z 60 0)), (3, .int a3), (4, .int a4), (6, .int v6), (7, .int (v7 + 1))] [1, 2, 3, 4, 0] rfl ?_
    exact w71_ v6 (v7 + 1)  _ hF
  · replace hF := (if_pos q1).symm.trans hF
    refine a_ldc (v := (-1000001)) kw_1136 dX11_paid_139 ?_
    replace hF := Option.some.inj hF
    subst hF
    exact a_iret rfl (Nat.zero_le _) (Nat.zero_le _) dX11_paid_141 ⟨rfl, rfl⟩
set_option maxRecDepth 100000 in
set_option maxHeartbeats 4000000 in
theorem w_X11_paid_107 {Z : ZE} {l : Launch} (hZ : OkM Z) {a1 : Int32} {a2 : Int32} {a3 : Int32} {a4 : Int32}  {R : Int32 × St} (h71_ : Int32 → Int32 → St → Option (Int32 × St)) (w71_ : ∀ (v6 : Int32) (v7 : Int32)  (s : St), h71_ v6 v7 s = some R → AW Z l iX11_paid (Pq (rI R)) 0 0 71 [(0, .ref (za Z 60 0)), (3, .int a3), (4, .int a4), (6, .int v6), (7, .int v7)] [] s) (h148_ : Int32 → St → Option (Int32 × St)) (w148_ : ∀ (v6 : Int32)  (s : St), h148_ v6 s = some R → AW Z l iX11_paid (Pq (rI R)) 0 0 148 [(0, .ref (za Z 60 0)), (3, .int a3), (4, .int a4), (6, .int v6)] [] s) (v6 : Int32) (v7 : Int32) (x0 : Int32)  (s : St) (hF : F_X11_paid_107 (zg Z) a1 a2 a3 a4 h71_ h148_ v6 v7 x0 s = some R) : AW Z l iX11_paid (Pq (rI R)) 0 0 107 [(0, .ref (za Z 60 0)), (3, .int a3), (4, .int a4), (6, .int v6), (7, .int v7)] [.int x0] s := by
  unfold F_X11_paid_107 at hF
  refine a_istore [(8, .int x0), (0, .ref (za Z 60 0)), (3, .int a3), (4, .int a4), (6, .int v6), (7, .int v7)] dX11_paid_107 (by decide) rfl ?_
  refine a_aload_n dX11_paid_109 1 rfl rfl ?_
  refine a_getR hZ.1 (hZ.2 60 0 (by decide) (by decide) Nat.one_pos) fl_X11_24 rfl 0 rfl dX11_paid_110 ?_
  refine a_iload dX11_paid_113 4 rfl ?_
  refine a_iload dX11_paid_115 5 rfl ?_
  refine a_iadd dX11_paid_117 ?_
  obtain ⟨p1, hF⟩ := gd_some hF
  refine a_iald hZ.1 (s 63 0 (v6 + v7).toNatClampNeg) (hZ.2 63 0 (by decide) (by decide) Nat.one_pos) rfl rfl (inb_vp p1) rfl dX11_paid_118 ?_
  refine a_i2l dX11_paid_119 ?_
  refine a_lconst (v := (0 : Int64)) dX11_paid_120 (by decide) ?_
  refine a_iload dX11_paid_121 0 rfl ?_
  refine a_if_eq 130 dX11_paid_123 (by decide) (fun q2 => ?_) (fun q2 => ?_)
  · replace hF := (if_pos q2).symm.trans hF
    refine a_ldc2 (v := (1000 : Int64)) kw_1163 dX11_paid_130 ?_
    refine a_loc [(0, .ref (za Z 60 0)), (3, .int a3), (4, .int a4), (6, .int v6), (7, .int v7)] [1, 2, 3, 4, 5] rfl ?_
    exact w_X11_paid_133 (l := l) hZ  h71_ w71_ h148_ w148_ v6 v7 ((s 63 0 (v6 + v7).toNatClampNeg).toInt64) (0 : Int64) (1000 : Int64)  _ hF
  · replace hF := (if_neg q2).symm.trans hF
    refine a_lconst (v := (0 : Int64)) dX11_paid_126 (by decide) ?_
    refine a_goto 133 dX11_paid_127 (by decide) ?_
    refine a_loc [(0, .ref (za Z 60 0)), (3, .int a3), (4, .int a4), (6, .int v6), (7, .int v7)] [1, 2, 3, 4, 5] rfl ?_
    exact w_X11_paid_133 (l := l) hZ  h71_ w71_ h148_ w148_ v6 v7 ((s 63 0 (v6 + v7).toNatClampNeg).toInt64) (0 : Int64) (0 : Int64)  _ hF
set_option maxRecDepth 100000 in
set_option maxHeartbeats 4000000 in
theorem w_X11_paid_106 {Z : ZE} {l : Launch} (hZ : OkM Z) {a1 : Int32} {a2 : Int32} {a3 : Int32} {a4 : Int32}  {R : Int32 × St} (h71_ : Int32 → Int32 → St → Option (Int32 × St)) (w71_ : ∀ (v6 : Int32) (v7 : Int32)  (s : St), h71_ v6 v7 s = some R → AW Z l iX11_paid (Pq (rI R)) 0 0 71 [(0, .ref (za Z 60 0)), (3, .int a3), (4, .int a4), (6, .int v6), (7, .int v7)] [] s) (h148_ : Int32 → St → Option (Int32 × St)) (w148_ : ∀ (v6 : Int32)  (s : St), h148_ v6 s = some R → AW Z l iX11_paid (Pq (rI R)) 0 0 148 [(0, .ref (za Z 60 0)), (3, .int a3), (4, .int a4), (6, .int v6)] [] s) (v6 : Int32) (v7 : Int32)  (s : St) (hF : F_X11_paid_106 (zg Z) a1 a2 a3 a4 h71_ h148_ v6 v7 s = some R) : AW Z l iX11_paid (Pq (rI R)) 0 0 106 [(0, .ref (za Z 60 0)), (3, .int a3), (4, .int a4), (6, .int v6), (7, .int v7)] [] s := by
  unfold F_X11_paid_106 at hF
  refine a_iconst (v := (0 : Int32)) dX11_paid_106 (by decide) ?_
  exact w_X11_paid_107 (l := l) hZ  h71_ w71_ h148_ w148_ v6 v7 (0 : Int32)  _ hF
set_option maxRecDepth 100000 in
set_option maxHeartbeats 4000000 in
theorem w_X11_paid_71 {Z : ZE} {l : Launch} (hZ : OkM Z) {a1 : Int32} {a2 : Int32} {a3 : Int32} {a4 : Int32}  {R : Int32 × St} (h148_ : Int32 → St → Option (Int32 × St)) (w148_ : ∀ (v6 : Int32)  (s : St), h148_ v6 s = some R → AW Z l iX11_paid (Pq (rI R)) 0 0 148 [(0, .ref (za Z 60 0)), (3, .int a3), (4, .int a4), (6, .int v6)] [] s) : ∀ (n_ : Nat) (v6 : Int32) (v7 : Int32)  (s : St), F_X11_paid_71 (zg Z) a1 a2 a3 a4 h148_ n_ v6 v7 s = some R → AW Z l iX11_paid (Pq (rI R)) 0 0 71 [(0, .ref (za Z 60 0)), (3, .int a3), (4, .int a4), (6, .int v6), (7, .int v7)] [] s := by
  intro n_
  induction n_ with
  | zero =>
    intro v6 v7 s hF
    exact absurd hF (by rw [F_X11_paid_71]; exact fun q => by cases q)
  | succ n_ w71_ =>
    intro v6 v7 s hF
    rw [F_X11_paid_71] at hF
    refine a_iload dX11_paid_71 4 rfl ?_
    refine a_iload_n dX11_paid_73 1 rfl rfl ?_
    refine a_iload_n dX11_paid_74 1 rfl rfl ?_
    refine a_iload_n dX11_paid_75 1 rfl rfl ?_
    refine a_imul dX11_paid_76 ?_
    refine a_iadd dX11_paid_77 ?_
    refine a_icmp_ge 148 dX11_paid_78 (by decide) (fun q1 => ?_) (fun q1 => ?_)
    · replace hF := (if_pos q1).symm.trans hF
      refine a_loc [(0, .ref (za Z 60 0)), (3, .int a3), (4, .int a4), (6, .int v6)] [0, 1, 2, 3] rfl ?_
      exact w148_ v6  _ hF
    · replace hF := (if_neg q1).symm.trans hF
      refine a_iload dX11_paid_81 4 rfl ?_
      refine a_iload_n dX11_paid_83 1 rfl rfl ?_
      refine a_icmp_lt 106 dX11_paid_84 (by decide) (fun q2 => ?_) (fun q2 => ?_)
      · replace hF := (if_pos q2).symm.trans hF
        exact w_X11_paid_106 (l := l) hZ  (F_X11_paid_71 (zg Z) a1 a2 a3 a4 h148_ n_) w71_ h148_ w148_ v6 v7  _ hF
      · replace hF := (if_neg q2).symm.trans hF
        refine a_iload dX11_paid_87 4 rfl ?_
        refine a_iload_n dX11_paid_89 1 rfl rfl ?_
        refine a_isub dX11_paid_90 ?_
        refine a_iload_n dX11_paid_91 1 rfl rfl ?_
        obtain ⟨p3, hF⟩ := gd_some hF
        refine a_idiv dX11_paid_92 (ne0_n p3) ?_
        refine a_iload dX11_paid_93 4 rfl ?_
        refine a_iload_n dX11_paid_95 1 rfl rfl ?_
        refine a_isub dX11_paid_96 ?_
        refine a_iload_n dX11_paid_97 1 rfl rfl ?_
        obtain ⟨p4, hF⟩ := gd_some hF
        refine a_irem dX11_paid_98 (ne0_n p4) ?_
        refine a_icmp_ne 106 dX11_paid_99 (by decide) (fun q5 => ?_) (fun q5 => ?_)
        · replace hF := (if_neg q5).symm.trans hF
          exact w_X11_paid_106 (l := l) hZ  (F_X11_paid_71 (zg Z) a1 a2 a3 a4 h148_ n_) w71_ h148_ w148_ v6 v7  _ hF
        · replace hF := (if_pos q5).symm.trans hF
          refine a_iconst (v := (1 : Int32)) dX11_paid_102 (by decide) ?_
          refine a_goto 107 dX11_paid_103 (by decide) ?_
          exact w_X11_paid_107 (l := l) hZ  (F_X11_paid_71 (zg Z) a1 a2 a3 a4 h148_ n_) w71_ h148_ w148_ v6 v7 (1 : Int32)  _ hF
set_option maxRecDepth 100000 in
set_option maxHeartbeats 4000000 in
theorem w_X11_paid {Z : ZE} {l : Launch} (hZ : OkM Z) {a1 : Int32} {a2 : Int32} {a3 : Int32} {a4 : Int32}  {R : Int32 × St}    (s : St) (hF : F_X11_paid (zg Z) a1 a2 a3 a4  s = some R) : AW Z l iX11_paid (Pq (rI R)) 0 0 0 [(0, .ref (za Z 60 0)), (1, .int a1), (2, .int a2), (3, .int a3), (4, .int a4)] [] s := by
  unfold F_X11_paid at hF
  refine a_aload_n dX11_paid_0 0 rfl rfl ?_
  refine a_iconst (v := (0 : Int32)) dX11_paid_1 (by decide) ?_
  refine a_put hZ.1 (hZ.2 60 0 (by decide) (by decide) Nat.one_pos) fl_X11_1 rfl rfl rfl dX11_paid_2 ?_
  refine a_iload_n dX11_paid_5 1 rfl rfl ?_
  obtain ⟨r6, s6, e6, hF⟩ := bd_some hF
  refine a_invS hZ.1 (As := [.int a1]) (rest := []) lk_X11_130 ⟨⟨by decide, by decide⟩, by decide, by decide⟩ rfl (Nat.le_of_ble_eq_true rfl) dX11_paid_6 (m_X11_isSheet hZ  e6) ?_
  show AW Z l iX11_paid (Pq (rI R)) 0 0 9 [(0, .ref (za Z 60 0)), (1, .int a1), (2, .int a2), (3, .int a3), (4, .int a4)] [.int r6] s6
  refine a_if_eq 36 dX11_paid_9 (by decide) (fun q1 => ?_) (fun q1 => ?_)
  · replace hF := (if_pos q1).symm.trans hF
    refine a_ldc (v := (-1000001)) kw_1136 dX11_paid_36 ?_
    replace hF := Option.some.inj hF
    subst hF
    exact a_iret rfl (Nat.zero_le _) (Nat.zero_le _) dX11_paid_38 ⟨rfl, rfl⟩
  · replace hF := (if_neg q1).symm.trans hF
    refine a_iload_n dX11_paid_12 3 rfl rfl ?_
    refine a_i2l dX11_paid_13 ?_
    refine a_lconst (v := (1 : Int64)) dX11_paid_14 (by decide) ?_
    refine a_ldc2 (v := (8 : Int64)) kw_1256 dX11_paid_15 ?_
    obtain ⟨r18, s18, e18, hF⟩ := bd_some hF
    refine a_invS hZ.1 (As := [.long a3.toInt64, .long (1 : Int64), .long (8 : Int64)]) (rest := []) lk_X11_126 ⟨⟨by decide, by decide⟩, by decide, by decide⟩ rfl (Nat.le_of_ble_eq_true rfl) dX11_paid_18 (m_X11_in hZ  e18) ?_
    show AW Z l iX11_paid (Pq (rI R)) 0 0 21 [(0, .ref (za Z 60 0)), (1, .int a1), (2, .int a2), (3, .int a3), (4, .int a4)] [.int r18] s18
    refine a_if_eq 36 dX11_paid_21 (by decide) (fun q2 => ?_) (fun q2 => ?_)
    · replace hF := (if_pos q2).symm.trans hF
      refine a_ldc (v := (-1000001)) kw_1136 dX11_paid_36 ?_
      replace hF := Option.some.inj hF
      subst hF
      exact a_iret rfl (Nat.zero_le _) (Nat.zero_le _) dX11_paid_38 ⟨rfl, rfl⟩
    · replace hF := (if_neg q2).symm.trans hF
      refine a_iload dX11_paid_24 4 rfl ?_
      refine a_i2l dX11_paid_26 ?_
      refine a_lconst (v := (0 : Int64)) dX11_paid_27 (by decide) ?_
      refine a_iload_n dX11_paid_28 3 rfl rfl ?_
      refine a_i2l dX11_paid_29 ?_
      obtain ⟨r30, s30, e30, hF⟩ := bd_some hF
      refine a_invS hZ.1 (As := [.long a4.toInt64, .long (0 : Int64), .long a3.toInt64]) (rest := []) lk_X11_126 ⟨⟨by decide, by decide⟩, by decide, by decide⟩ rfl (Nat.le_of_ble_eq_true rfl) dX11_paid_30 (m_X11_in hZ  e30) ?_
      show AW Z l iX11_paid (Pq (rI R)) 0 0 33 [(0, .ref (za Z 60 0)), (1, .int a1), (2, .int a2), (3, .int a3), (4, .int a4)] [.int r30] s30
      refine a_if_ne 39 dX11_paid_33 (by decide) (fun q3 => ?_) (fun q3 => ?_)
      · replace hF := (if_neg q3).symm.trans hF
        refine a_aload_n dX11_paid_39 0 rfl rfl ?_
        refine a_iload_n dX11_paid_40 1 rfl rfl ?_
        refine a_iload_n dX11_paid_41 2 rfl rfl ?_
        refine a_iload_n dX11_paid_42 3 rfl rfl ?_
        refine a_iload_n dX11_paid_43 3 rfl rfl ?_
        refine a_iload_n dX11_paid_44 3 rfl rfl ?_
        refine a_imul dX11_paid_45 ?_
        refine a_iadd dX11_paid_46 ?_
        obtain ⟨r47, s47, e47, hF⟩ := bd_some hF
        refine a_invV hZ.1 (As := [.int a1, .int a2, .int (a3 + (a3 * a3))]) (rest := []) (hZ.2 60 0 (by decide) (by decide) Nat.one_pos) lk_X11_316 ⟨⟨by decide, by decide⟩, by decide, by decide⟩ rfl (Nat.le_of_ble_eq_true rfl) dX11_paid_47 (m_X11_lookItems hZ  e47) ?_
        show AW Z l iX11_paid (Pq (rI R)) 0 0 50 [(0, .ref (za Z 60 0)), (1, .int a1), (2, .int a2), (3, .int a3), (4, .int a4)] [.int r47] s47
        refine a_istore [(5, .int r47), (0, .ref (za Z 60 0)), (1, .int a1), (2, .int a2), (3, .int a3), (4, .int a4)] dX11_paid_50 (by decide) rfl ?_
        refine a_iload dX11_paid_52 0 rfl ?_
        refine a_if_ge 60 dX11_paid_54 (by decide) (fun q4 => ?_) (fun q4 => ?_)
        · replace hF := (if_pos q4).symm.trans hF
          refine a_bipush (v := (80 : Int32)) dX11_paid_60 (by decide) ?_
          refine a_iload_n dX11_paid_62 2 rfl rfl ?_
          refine a_imul dX11_paid_63 ?_
          refine a_iload_n dX11_paid_64 3 rfl rfl ?_
          refine a_iadd dX11_paid_65 ?_
          refine a_istore [(6, .int (((80 : Int32) * a1) + a2)), (5, .int r47), (0, .ref (za Z 60 0)), (1, .int a1), (2, .int a2), (3, .int a3), (4, .int a4)] dX11_paid_66 (by decide) rfl ?_
          refine a_iconst (v := (0 : Int32)) dX11_paid_68 (by decide) ?_
          refine a_istore [(7, .int (0 : Int32)), (6, .int (((80 : Int32) * a1) + a2)), (5, .int r47), (0, .ref (za Z 60 0)), (1, .int a1), (2, .int a2), (3, .int a3), (4, .int a4)] dX11_paid_69 (by decide) rfl ?_
          refine a_loc [(0, .ref (za Z 60 0)), (3, .int a3), (4, .int a4), (6, .int (((80 : Int32) * a1) + a2)), (7, .int (0 : Int32))] [3, 6, 7, 1, 0] rfl ?_
          exact w_X11_paid_71 (l := l) hZ  (F_X11_paid_148 (zg Z) a1 a2 a3 a4 ) (w_X11_paid_148 (l := l) hZ  ) fu (((80 : Int32) * a1) + a2) (0 : Int32)  _ hF
        · replace hF := (if_neg q4).symm.trans hF
          refine a_iload dX11_paid_57 0 rfl ?_
          replace hF := Option.some.inj hF
          subst hF
          exact a_iret rfl (Nat.zero_le _) (Nat.zero_le _) dX11_paid_59 ⟨rfl, rfl⟩
      · replace hF := (if_pos q3).symm.trans hF
        refine a_ldc (v := (-1000001)) kw_1136 dX11_paid_36 ?_
        replace hF := Option.some.inj hF
        subst hF
        exact a_iret rfl (Nat.zero_le _) (Nat.zero_le _) dX11_paid_38 ⟨rfl, rfl⟩
theorem m_X11_paid {Z : ZE} {l : Launch} (hZ : OkM Z) {a1 : Int32} {a2 : Int32} {a3 : Int32} {a4 : Int32}  {s : St} {R : Int32 × St} (hF : F_X11_paid (zg Z) a1 a2 a3 a4 s = some R) : Sp Z l yX11_paid iX11_paid [.ref (za Z 60 0), .int a1, .int a2, .int a3, .int a4] s (rI R) :=
  Sp.of (by decide) rfl (Nat.le_of_ble_eq_true rfl) (w_X11_paid hZ  s hF)
-- X11_priceOf
set_option maxRecDepth 100000 in
set_option maxHeartbeats 4000000 in
theorem w_X11_priceOf_50 {Z : ZE} {l : Launch} (hZ : OkM Z) {a1 : Int32}  {R : Int32 × St}  (v2 : Int32)  (s : St) (hF : F_X11_priceOf_50 (zg Z) a1 v2 s = some R) : AW Z l iX11_priceOf (Pq (rI R)) 0 0 50 [(0, .ref (za Z 60 0)), (1, .int a1), (2, .int v2)] [] s := by
  unfold F_X11_priceOf_50 at hF
  refine a_aload_n dX11_priceOf_50 0 rfl rfl ?_
  refine a_getR hZ.1 (hZ.2 60 0 (by decide) (by decide) Nat.one_pos) fl_X11_27 rfl 0 rfl dX11_priceOf_51 ?_
  refine a_iload_n dX11_priceOf_54 1 rfl rfl ?_
  obtain ⟨p1, hF⟩ := gd_some hF
  refine a_iald hZ.1 (s 64 0 a1.toNatClampNeg) (hZ.2 64 0 (by decide) (by decide) Nat.one_pos) rfl rfl (inb_vp p1) rfl dX11_priceOf_55 ?_
  refine a_iload_n dX11_priceOf_56 2 rfl rfl ?_
  refine a_imul dX11_priceOf_57 ?_
  refine a_iconst (v := (1 : Int32)) dX11_priceOf_58 (by decide) ?_
  refine a_aload_n dX11_priceOf_59 0 rfl rfl ?_
  refine a_iload_n dX11_priceOf_60 1 rfl rfl ?_
  obtain ⟨r61, s61, e61, hF⟩ := bd_some hF
  refine a_invV hZ.1 (As := [.int a1]) (rest := [.int (1 : Int32), .int ((s 64 0 a1.toNatClampNeg) * v2)]) (hZ.2 60 0 (by decide) (by decide) Nat.one_pos) lk_X11_182 ⟨⟨by decide, by decide⟩, by decide, by decide⟩ rfl (Nat.le_of_ble_eq_true rfl) dX11_priceOf_61 (m_X11_balesOf hZ  e61) ?_
  show AW Z l iX11_priceOf (Pq (rI R)) 0 0 64 [(0, .ref (za Z 60 0)), (1, .int a1), (2, .int v2)] [.int r61, .int (1 : Int32), .int ((s 64 0 a1.toNatClampNeg) * v2)] s61
  refine a_iadd dX11_priceOf_64 ?_
  obtain ⟨p2, hF⟩ := gd_some hF
  refine a_idiv dX11_priceOf_65 (ne0_n p2) ?_
  refine a_istore_n [(3, .int (((s 64 0 a1.toNatClampNeg) * v2) / ((1 : Int32) + r61))), (0, .ref (za Z 60 0)), (1, .int a1), (2, .int v2)] dX11_priceOf_66 rfl (by decide) rfl ?_
  refine a_iload_n dX11_priceOf_67 0 rfl rfl ?_
  refine a_iconst (v := (1 : Int32)) dX11_priceOf_68 (by decide) ?_
  refine a_icmp_ge 76 dX11_priceOf_69 (by decide) (fun q3 => ?_) (fun q3 => ?_)
  · replace hF := (if_pos q3).symm.trans hF
    refine a_iload_n dX11_priceOf_76 0 rfl rfl ?_
    refine a_sipush (v := (5000 : Int32)) dX11_priceOf_77 (by decide) ?_
    refine a_icmp_le 89 dX11_priceOf_80 (by decide) (fun q4 => ?_) (fun q4 => ?_)
    · replace hF := (if_pos q4).symm.trans hF
      refine a_iload_n dX11_priceOf_89 0 rfl rfl ?_
      replace hF := Option.some.inj hF
      subst hF
      exact a_iret rfl (Nat.zero_le _) (Nat.zero_le _) dX11_priceOf_90 ⟨rfl, rfl⟩
    · replace hF := (if_neg q4).symm.trans hF
      refine a_sipush (v := (5000 : Int32)) dX11_priceOf_83 (by decide) ?_
      refine a_goto 90 dX11_priceOf_86 (by decide) ?_
      replace hF := Option.some.inj hF
      subst hF
      exact a_iret rfl (Nat.zero_le _) (Nat.zero_le _) dX11_priceOf_90 ⟨rfl, rfl⟩
  · replace hF := (if_neg q3).symm.trans hF
    refine a_iconst (v := (1 : Int32)) dX11_priceOf_72 (by decide) ?_
    refine a_goto 90 dX11_priceOf_73 (by decide) ?_
    replace hF := Option.some.inj hF
    subst hF
    exact a_iret rfl (Nat.zero_le _) (Nat.zero_le _) dX11_priceOf_90 ⟨rfl, rfl⟩
set_option maxRecDepth 100000 in
set_option maxHeartbeats 4000000 in
theorem w_X11_priceOf_42 {Z : ZE} {l : Launch} (hZ : OkM Z) {a1 : Int32}  {R : Int32 × St} (h7_ : Int32 → Int32 → St → Option (Int32 × St)) (w7_ : ∀ (v2 : Int32) (v3 : Int32)  (s : St), h7_ v2 v3 s = some R → AW Z l iX11_priceOf (Pq (rI R)) 0 0 7 [(0, .ref (za Z 60 0)), (1, .int a1), (2, .int v2), (3, .int v3)] [] s) (h50_ : Int32 → St → Option (Int32 × St)) (w50_ : ∀ (v2 : Int32)  (s : St), h50_ v2 s = some R → AW Z l iX11_priceOf (Pq (rI R)) 0 0 50 [(0, .ref (za Z 60 0)), (1, .int a1), (2, .int v2)] [] s) (v3 : Int32) (x0 : Int32) (x1 : Int32)  (s : St) (hF : F_X11_priceOf_42 (zg Z) a1 h7_ h50_ v3 x0 x1 s = some R) : AW Z l iX11_priceOf (Pq (rI R)) 0 0 42 [(0, .ref (za Z 60 0)), (1, .int a1), (3, .int v3)] [.int x1, .int x0] s := by
  unfold F_X11_priceOf_42 at hF
  refine a_iadd dX11_priceOf_42 ?_
  refine a_istore_n [(2, .int (x0 + x1)), (0, .ref (za Z 60 0)), (1, .int a1), (3, .int v3)] dX11_priceOf_43 rfl (by decide) rfl ?_
  refine a_iinc [(3, .int (v3 + 1)), (2, .int (x0 + x1)), (0, .ref (za Z 60 0)), (1, .int a1)] dX11_priceOf_44 3 rfl rfl (by decide) rfl ?_
  refine a_goto 7 dX11_priceOf_47 (by decide) ?_
  refine a_loc [(0, .ref (za Z 60 0)), (1, .int a1), (2, .int (x0 + x1)), (3, .int (v3 + 1))] [2, 3, 1, 0] rfl ?_
  exact w7_ (x0 + x1) (v3 + 1)  _ hF
set_option maxRecDepth 100000 in
set_option maxHeartbeats 4000000 in
theorem w_X11_priceOf_7 {Z : ZE} {l : Launch} (hZ : OkM Z) {a1 : Int32}  {R : Int32 × St} (h50_ : Int32 → St → Option (Int32 × St)) (w50_ : ∀ (v2 : Int32)  (s : St), h50_ v2 s = some R → AW Z l iX11_priceOf (Pq (rI R)) 0 0 50 [(0, .ref (za Z 60 0)), (1, .int a1), (2, .int v2)] [] s) : ∀ (n_ : Nat) (v2 : Int32) (v3 : Int32)  (s : St), F_X11_priceOf_7 (zg Z) a1 h50_ n_ v2 v3 s = some R → AW Z l iX11_priceOf (Pq (rI R)) 0 0 7 [(0, .ref (za Z 60 0)), (1, .int a1), (2, .int v2), (3, .int v3)] [] s := by
  intro n_
  induction n_ with
  | zero =>
    intro v2 v3 s hF
    exact absurd hF (by rw [F_X11_priceOf_7]; exact fun q => by cases q)
  | succ n_ w7_ =>
    intro v2 v3 s hF
    rw [F_X11_priceOf_7] at hF
    refine a_iload_n dX11_priceOf_7 3 rfl rfl ?_
    refine a_aload_n dX11_priceOf_8 0 rfl rfl ?_
    refine a_getI hZ.1 (s 60 0 15) (hZ.2 60 0 (by decide) (by decide) Nat.one_pos) fl_X11_145 rfl rfl dX11_priceOf_9 ?_
    refine a_icmp_ge 50 dX11_priceOf_12 (by decide) (fun q1 => ?_) (fun q1 => ?_)
    · replace hF := (if_pos q1).symm.trans hF
      refine a_loc [(0, .ref (za Z 60 0)), (1, .int a1), (2, .int v2)] [0, 1, 2] rfl ?_
      exact w50_ v2  _ hF
    · replace hF := (if_neg q1).symm.trans hF
      refine a_iload_n dX11_priceOf_15 2 rfl rfl ?_
      refine a_aload_n dX11_priceOf_16 0 rfl rfl ?_
      refine a_getR hZ.1 (hZ.2 60 0 (by decide) (by decide) Nat.one_pos) fl_X11_51 rfl 0 rfl dX11_priceOf_17 ?_
      refine a_iload_n dX11_priceOf_20 3 rfl rfl ?_
      obtain ⟨p2, hF⟩ := gd_some hF
      refine a_iald hZ.1 (s 71 0 v3.toNatClampNeg) (hZ.2 71 0 (by decide) (by decide) Nat.one_pos) rfl rfl (inb_vp p2) rfl dX11_priceOf_21 ?_
      refine a_iload_n dX11_priceOf_22 1 rfl rfl ?_
      refine a_ishr dX11_priceOf_23 ?_
      refine a_iconst (v := (1 : Int32)) dX11_priceOf_24 (by decide) ?_
      refine a_iand dX11_priceOf_25 ?_
      refine a_iconst (v := (1 : Int32)) dX11_priceOf_26 (by decide) ?_
      refine a_icmp_ne 41 dX11_priceOf_27 (by decide) (fun q3 => ?_) (fun q3 => ?_)
      · replace hF := (if_neg q3).symm.trans hF
        refine a_iconst (v := (0 : Int32)) dX11_priceOf_41 (by decide) ?_
        refine a_loc [(0, .ref (za Z 60 0)), (1, .int a1), (3, .int v3)] [0, 1, 3] rfl ?_
        exact w_X11_priceOf_42 (l := l) hZ  (F_X11_priceOf_7 (zg Z) a1 h50_ n_) w7_ h50_ w50_ v3 v2 (0 : Int32)  _ hF
      · replace hF := (if_pos q3).symm.trans hF
        refine a_iconst (v := (4 : Int32)) dX11_priceOf_30 (by decide) ?_
        refine a_aload_n dX11_priceOf_31 0 rfl rfl ?_
        refine a_getR hZ.1 (hZ.2 60 0 (by decide) (by decide) Nat.one_pos) fl_X11_48 rfl 0 rfl dX11_priceOf_32 ?_
        refine a_iload_n dX11_priceOf_35 3 rfl rfl ?_
        obtain ⟨p4, hF⟩ := gd_some hF
        refine a_iald hZ.1 (s 70 0 v3.toNatClampNeg) (hZ.2 70 0 (by decide) (by decide) Nat.one_pos) rfl rfl (inb_vp p4) rfl dX11_priceOf_36 ?_
        refine a_imul dX11_priceOf_37 ?_
        refine a_goto 42 dX11_priceOf_38 (by decide) ?_
        refine a_loc [(0, .ref (za Z 60 0)), (1, .int a1), (3, .int v3)] [0, 1, 3] rfl ?_
        exact w_X11_priceOf_42 (l := l) hZ  (F_X11_priceOf_7 (zg Z) a1 h50_ n_) w7_ h50_ w50_ v3 v2 ((4 : Int32) * (s 70 0 v3.toNatClampNeg))  _ hF
set_option maxRecDepth 100000 in
set_option maxHeartbeats 4000000 in
theorem w_X11_priceOf {Z : ZE} {l : Launch} (hZ : OkM Z) {a1 : Int32}  {R : Int32 × St}    (s : St) (hF : F_X11_priceOf (zg Z) a1  s = some R) : AW Z l iX11_priceOf (Pq (rI R)) 0 0 0 [(0, .ref (za Z 60 0)), (1, .int a1)] [] s := by
  unfold F_X11_priceOf at hF
  refine a_aload_n dX11_priceOf_0 0 rfl rfl ?_
  refine a_getI hZ.1 (s 60 0 9) (hZ.2 60 0 (by decide) (by decide) Nat.one_pos) fl_X11_161 rfl rfl dX11_priceOf_1 ?_
  refine a_istore_n [(2, .int (s 60 0 9)), (0, .ref (za Z 60 0)), (1, .int a1)] dX11_priceOf_4 rfl (by decide) rfl ?_
  refine a_iconst (v := (0 : Int32)) dX11_priceOf_5 (by decide) ?_
  refine a_istore_n [(3, .int (0 : Int32)), (2, .int (s 60 0 9)), (0, .ref (za Z 60 0)), (1, .int a1)] dX11_priceOf_6 rfl (by decide) rfl ?_
  refine a_loc [(0, .ref (za Z 60 0)), (1, .int a1), (2, .int (s 60 0 9)), (3, .int (0 : Int32))] [2, 3, 1, 0] rfl ?_
  exact w_X11_priceOf_7 (l := l) hZ  (F_X11_priceOf_50 (zg Z) a1 ) (w_X11_priceOf_50 (l := l) hZ  ) fu (s 60 0 9) (0 : Int32)  _ hF
theorem m_X11_priceOf {Z : ZE} {l : Launch} (hZ : OkM Z) {a1 : Int32}  {s : St} {R : Int32 × St} (hF : F_X11_priceOf (zg Z) a1 s = some R) : Sp Z l yX11_priceOf iX11_priceOf [.ref (za Z 60 0), .int a1] s (rI R) :=
  Sp.of (by decide) rfl (Nat.le_of_ble_eq_true rfl) (w_X11_priceOf hZ  s hF)
-- X11_price
set_option maxRecDepth 100000 in
set_option maxHeartbeats 4000000 in
theorem w_X11_price {Z : ZE} {l : Launch} (hZ : OkM Z) {a1 : Int32} {a2 : Int32}  {R : Int32 × St}    (s : St) (hF : F_X11_price (zg Z) a1 a2  s = some R) : AW Z l iX11_price (Pq (rI R)) 0 0 0 [(0, .ref (za Z 60 0)), (1, .int a1), (2, .int a2)] [] s := by
  unfold F_X11_price at hF
  refine a_aload_n dX11_price_0 0 rfl rfl ?_
  refine a_iconst (v := (0 : Int32)) dX11_price_1 (by decide) ?_
  refine a_put hZ.1 (hZ.2 60 0 (by decide) (by decide) Nat.one_pos) fl_X11_1 rfl rfl rfl dX11_price_2 ?_
  refine a_iload_n dX11_price_5 1 rfl rfl ?_
  obtain ⟨r6, s6, e6, hF⟩ := bd_some hF
  refine a_invS hZ.1 (As := [.int a1]) (rest := []) lk_X11_150 ⟨⟨by decide, by decide⟩, by decide, by decide⟩ rfl (Nat.le_of_ble_eq_true rfl) dX11_price_6 (m_X11_isSort hZ  e6) ?_
  show AW Z l iX11_price (Pq (rI R)) 0 0 9 [(0, .ref (za Z 60 0)), (1, .int a1), (2, .int a2)] [.int r6] s6
  refine a_if_eq 22 dX11_price_9 (by decide) (fun q1 => ?_) (fun q1 => ?_)
  · replace hF := (if_pos q1).symm.trans hF
    refine a_ldc (v := (-1000001)) kw_1136 dX11_price_22 ?_
    refine a_goto 45 dX11_price_24 (by decide) ?_
    replace hF := Option.some.inj hF
    subst hF
    exact a_iret rfl (Nat.zero_le _) (Nat.zero_le _) dX11_price_45 ⟨rfl, rfl⟩
  · replace hF := (if_neg q1).symm.trans hF
    refine a_iload_n dX11_price_12 2 rfl rfl ?_
    refine a_i2l dX11_price_13 ?_
    refine a_lconst (v := (0 : Int64)) dX11_price_14 (by decide) ?_
    refine a_lconst (v := (1 : Int64)) dX11_price_15 (by decide) ?_
    obtain ⟨r16, s16, e16, hF⟩ := bd_some hF
    refine a_invS hZ.1 (As := [.long a2.toInt64, .long (0 : Int64), .long (1 : Int64)]) (rest := []) lk_X11_126 ⟨⟨by decide, by decide⟩, by decide, by decide⟩ rfl (Nat.le_of_ble_eq_true rfl) dX11_price_16 (m_X11_in hZ  e16) ?_
    show AW Z l iX11_price (Pq (rI R)) 0 0 19 [(0, .ref (za Z 60 0)), (1, .int a1), (2, .int a2)] [.int r16] s16
    refine a_if_ne 27 dX11_price_19 (by decide) (fun q2 => ?_) (fun q2 => ?_)
    · replace hF := (if_neg q2).symm.trans hF
      refine a_iload_n dX11_price_27 2 rfl rfl ?_
      refine a_if_ne 39 dX11_price_28 (by decide) (fun q3 => ?_) (fun q3 => ?_)
      · replace hF := (if_neg q3).symm.trans hF
        refine a_aload_n dX11_price_39 0 rfl rfl ?_
        refine a_getR hZ.1 (hZ.2 60 0 (by decide) (by decide) Nat.one_pos) fl_X11_70 rfl 0 rfl dX11_price_40 ?_
        refine a_iload_n dX11_price_43 1 rfl rfl ?_
        obtain ⟨p4, hF⟩ := gd_some hF
        refine a_iald hZ.1 (s16 77 0 a1.toNatClampNeg) (hZ.2 77 0 (by decide) (by decide) Nat.one_pos) rfl rfl (inb_vp p4) rfl dX11_price_44 ?_
        replace hF := Option.some.inj hF
        subst hF
        exact a_iret rfl (Nat.zero_le _) (Nat.zero_le _) dX11_price_45 ⟨rfl, rfl⟩
      · replace hF := (if_pos q3).symm.trans hF
        refine a_aload_n dX11_price_31 0 rfl rfl ?_
        refine a_iload_n dX11_price_32 1 rfl rfl ?_
        obtain ⟨r33, s33, e33, hF⟩ := bd_some hF
        refine a_invV hZ.1 (As := [.int a1]) (rest := []) (hZ.2 60 0 (by decide) (by decide) Nat.one_pos) lk_X11_195 ⟨⟨by decide, by decide⟩, by decide, by decide⟩ rfl (Nat.le_of_ble_eq_true rfl) dX11_price_33 (m_X11_priceOf hZ  e33) ?_
        show AW Z l iX11_price (Pq (rI R)) 0 0 36 [(0, .ref (za Z 60 0)), (1, .int a1), (2, .int a2)] [.int r33] s33
        refine a_goto 45 dX11_price_36 (by decide) ?_
        replace hF := Option.some.inj hF
        subst hF
        exact a_iret rfl (Nat.zero_le _) (Nat.zero_le _) dX11_price_45 ⟨rfl, rfl⟩
    · replace hF := (if_pos q2).symm.trans hF
      refine a_ldc (v := (-1000001)) kw_1136 dX11_price_22 ?_
      refine a_goto 45 dX11_price_24 (by decide) ?_
      replace hF := Option.some.inj hF
      subst hF
      exact a_iret rfl (Nat.zero_le _) (Nat.zero_le _) dX11_price_45 ⟨rfl, rfl⟩
theorem m_X11_price {Z : ZE} {l : Launch} (hZ : OkM Z) {a1 : Int32} {a2 : Int32}  {s : St} {R : Int32 × St} (hF : F_X11_price (zg Z) a1 a2 s = some R) : Sp Z l yX11_price iX11_price [.ref (za Z 60 0), .int a1, .int a2] s (rI R) :=
  Sp.of (by decide) rfl (Nat.le_of_ble_eq_true rfl) (w_X11_price hZ  s hF)
-- X11_ran
set_option maxRecDepth 100000 in
set_option maxHeartbeats 4000000 in
theorem w_X11_ran {Z : ZE} {l : Launch} (hZ : OkM Z) {a1 : Int32} {a2 : Int32}  {R : Int32 × St}    (s : St) (hF : F_X11_ran (zg Z) a1 a2  s = some R) : AW Z l iX11_ran (Pq (rI R)) 0 0 0 [(0, .ref (za Z 60 0)), (1, .int a1), (2, .int a2)] [] s := by
  unfold F_X11_ran at hF
  refine a_aload_n dX11_ran_0 0 rfl rfl ?_
  refine a_iconst (v := (0 : Int32)) dX11_ran_1 (by decide) ?_
  refine a_put hZ.1 (hZ.2 60 0 (by decide) (by decide) Nat.one_pos) fl_X11_1 rfl rfl rfl dX11_ran_2 ?_
  refine a_iload_n dX11_ran_5 1 rfl rfl ?_
  refine a_i2l dX11_ran_6 ?_
  refine a_lconst (v := (0 : Int64)) dX11_ran_7 (by decide) ?_
  refine a_ldc2 (v := (5 : Int64)) kw_1247 dX11_ran_8 ?_
  obtain ⟨r11, s11, e11, hF⟩ := bd_some hF
  refine a_invS hZ.1 (As := [.long a1.toInt64, .long (0 : Int64), .long (5 : Int64)]) (rest := []) lk_X11_126 ⟨⟨by decide, by decide⟩, by decide, by decide⟩ rfl (Nat.le_of_ble_eq_true rfl) dX11_ran_11 (m_X11_in hZ  e11) ?_
  show AW Z l iX11_ran (Pq (rI R)) 0 0 14 [(0, .ref (za Z 60 0)), (1, .int a1), (2, .int a2)] [.int r11] s11
  refine a_if_eq 24 dX11_ran_14 (by decide) (fun q1 => ?_) (fun q1 => ?_)
  · replace hF := (if_pos q1).symm.trans hF
    refine a_ldc (v := (-1000001)) kw_1136 dX11_ran_24 ?_
    refine a_goto 40 dX11_ran_26 (by decide) ?_
    replace hF := Option.some.inj hF
    subst hF
    exact a_iret rfl (Nat.zero_le _) (Nat.zero_le _) dX11_ran_40 ⟨rfl, rfl⟩
  · replace hF := (if_neg q1).symm.trans hF
    refine a_iload_n dX11_ran_17 2 rfl rfl ?_
    obtain ⟨r18, s18, e18, hF⟩ := bd_some hF
    refine a_invS hZ.1 (As := [.int a2]) (rest := []) lk_X11_164 ⟨⟨by decide, by decide⟩, by decide, by decide⟩ rfl (Nat.le_of_ble_eq_true rfl) dX11_ran_18 (m_X11_isWeek hZ  e18) ?_
    show AW Z l iX11_ran (Pq (rI R)) 0 0 21 [(0, .ref (za Z 60 0)), (1, .int a1), (2, .int a2)] [.int r18] s18
    refine a_if_ne 29 dX11_ran_21 (by decide) (fun q2 => ?_) (fun q2 => ?_)
    · replace hF := (if_neg q2).symm.trans hF
      refine a_aload_n dX11_ran_29 0 rfl rfl ?_
      refine a_getR hZ.1 (hZ.2 60 0 (by decide) (by decide) Nat.one_pos) fl_X11_66 rfl 0 rfl dX11_ran_30 ?_
      refine a_bipush (v := (100 : Int32)) dX11_ran_33 (by decide) ?_
      refine a_iload_n dX11_ran_35 1 rfl rfl ?_
      refine a_imul dX11_ran_36 ?_
      refine a_iload_n dX11_ran_37 2 rfl rfl ?_
      refine a_iadd dX11_ran_38 ?_
      obtain ⟨p3, hF⟩ := gd_some hF
      refine a_iald hZ.1 (s18 76 0 (((100 : Int32) * a1) + a2).toNatClampNeg) (hZ.2 76 0 (by decide) (by decide) Nat.one_pos) rfl rfl (inb_vp p3) rfl dX11_ran_39 ?_
      replace hF := Option.some.inj hF
      subst hF
      exact a_iret rfl (Nat.zero_le _) (Nat.zero_le _) dX11_ran_40 ⟨rfl, rfl⟩
    · replace hF := (if_pos q2).symm.trans hF
      refine a_ldc (v := (-1000001)) kw_1136 dX11_ran_24 ?_
      refine a_goto 40 dX11_ran_26 (by decide) ?_
      replace hF := Option.some.inj hF
      subst hF
      exact a_iret rfl (Nat.zero_le _) (Nat.zero_le _) dX11_ran_40 ⟨rfl, rfl⟩
theorem m_X11_ran {Z : ZE} {l : Launch} (hZ : OkM Z) {a1 : Int32} {a2 : Int32}  {s : St} {R : Int32 × St} (hF : F_X11_ran (zg Z) a1 a2 s = some R) : Sp Z l yX11_ran iX11_ran [.ref (za Z 60 0), .int a1, .int a2] s (rI R) :=
  Sp.of (by decide) rfl (Nat.le_of_ble_eq_true rfl) (w_X11_ran hZ  s hF)
-- X11_set
set_option maxRecDepth 100000 in
set_option maxHeartbeats 4000000 in
theorem w_X11_set_99 {Z : ZE} {l : Launch} (hZ : OkM Z) {a1 : Int32} {a2 : Int32} {a3 : Int32}  {R : Int32 × St}  (x1 : Int32) (x2 : Int32)  (s : St) (hF : F_X11_set_99 (zg Z) a1 a2 a3 x1 x2 s = some R) : AW Z l iX11_set (Pq (rI R)) 0 0 99 [(0, .ref (za Z 60 0)), (1, .int a1), (2, .int a2)] [.int x2, .int x1, .ref (za Z 63 0)] s := by
  unfold F_X11_set_99 at hF
  obtain ⟨p1, hF⟩ := gd_some hF
  refine a_iast hZ.1 (hZ.2 63 0 (by decide) (by decide) Nat.one_pos) rfl rfl (inb_vp p1) dX11_set_99 ?_
  refine a_aload_n dX11_set_100 0 rfl rfl ?_
  refine a_getR hZ.1 (hZ.2 60 0 (by decide) (by decide) Nat.one_pos) fl_X11_24 rfl 0 rfl dX11_set_101 ?_
  refine a_bipush (v := (80 : Int32)) dX11_set_104 (by decide) ?_
  refine a_iload_n dX11_set_106 1 rfl rfl ?_
  refine a_imul dX11_set_107 ?_
  refine a_iload_n dX11_set_108 2 rfl rfl ?_
  refine a_iadd dX11_set_109 ?_
  obtain ⟨p2, hF⟩ := gd_some hF
  refine a_iald hZ.1 ((up s 63 0 x1.toNatClampNeg x2) 63 0 (((80 : Int32) * a1) + a2).toNatClampNeg) (hZ.2 63 0 (by decide) (by decide) Nat.one_pos) rfl rfl (inb_vp p2) rfl dX11_set_110 ?_
  replace hF := Option.some.inj hF
  subst hF
  exact a_iret rfl (Nat.zero_le _) (Nat.zero_le _) dX11_set_111 ⟨rfl, rfl⟩
set_option maxRecDepth 100000 in
set_option maxHeartbeats 4000000 in
theorem w_X11_set {Z : ZE} {l : Launch} (hZ : OkM Z) {a1 : Int32} {a2 : Int32} {a3 : Int32}  {R : Int32 × St}    (s : St) (hF : F_X11_set (zg Z) a1 a2 a3  s = some R) : AW Z l iX11_set (Pq (rI R)) 0 0 0 [(0, .ref (za Z 60 0)), (1, .int a1), (2, .int a2), (3, .int a3)] [] s := by
  unfold F_X11_set at hF
  refine a_aload_n dX11_set_0 0 rfl rfl ?_
  refine a_iconst (v := (0 : Int32)) dX11_set_1 (by decide) ?_
  refine a_put hZ.1 (hZ.2 60 0 (by decide) (by decide) Nat.one_pos) fl_X11_1 rfl rfl rfl dX11_set_2 ?_
  refine a_iload_n dX11_set_5 1 rfl rfl ?_
  obtain ⟨r6, s6, e6, hF⟩ := bd_some hF
  refine a_invS hZ.1 (As := [.int a1]) (rest := []) lk_X11_130 ⟨⟨by decide, by decide⟩, by decide, by decide⟩ rfl (Nat.le_of_ble_eq_true rfl) dX11_set_6 (m_X11_isSheet hZ  e6) ?_
  show AW Z l iX11_set (Pq (rI R)) 0 0 9 [(0, .ref (za Z 60 0)), (1, .int a1), (2, .int a2), (3, .int a3)] [.int r6] s6
  refine a_if_ne 15 dX11_set_9 (by decide) (fun q1 => ?_) (fun q1 => ?_)
  · replace hF := (if_neg q1).symm.trans hF
    refine a_aload_n dX11_set_15 0 rfl rfl ?_
    refine a_iconst (v := (0 : Int32)) dX11_set_16 (by decide) ?_
    refine a_put hZ.1 (hZ.2 60 0 (by decide) (by decide) Nat.one_pos) fl_X11_7 rfl rfl rfl dX11_set_17 ?_
    refine a_aload_n dX11_set_20 0 rfl rfl ?_
    refine a_getR hZ.1 (hZ.2 60 0 (by decide) (by decide) Nat.one_pos) fl_X11_17 rfl 0 rfl dX11_set_21 ?_
    refine a_iload_n dX11_set_24 1 rfl rfl ?_
    obtain ⟨p2, hF⟩ := gd_some hF
    refine a_iald hZ.1 (s6 61 0 a1.toNatClampNeg) (hZ.2 61 0 (by decide) (by decide) Nat.one_pos) rfl rfl (inb_vp p2) rfl dX11_set_25 ?_
    refine a_if_ge 35 dX11_set_26 (by decide) (fun q3 => ?_) (fun q3 => ?_)
    · replace hF := (if_pos q3).symm.trans hF
      refine a_iload_n dX11_set_35 2 rfl rfl ?_
      refine a_i2l dX11_set_36 ?_
      refine a_lconst (v := (0 : Int64)) dX11_set_37 (by decide) ?_
      refine a_aload_n dX11_set_38 0 rfl rfl ?_
      refine a_getR hZ.1 (hZ.2 60 0 (by decide) (by decide) Nat.one_pos) fl_X11_21 rfl 0 rfl dX11_set_39 ?_
      refine a_iload_n dX11_set_42 1 rfl rfl ?_
      obtain ⟨p4, hF⟩ := gd_some hF
      refine a_iald hZ.1 (s6 62 0 a1.toNatClampNeg) (hZ.2 62 0 (by decide) (by decide) Nat.one_pos) rfl rfl (inb_vp p4) rfl dX11_set_43 ?_
      refine a_iconst (v := (1 : Int32)) dX11_set_44 (by decide) ?_
      refine a_isub dX11_set_45 ?_
      refine a_i2l dX11_set_46 ?_
      obtain ⟨r47, s47, e47, hF⟩ := bd_some hF
      refine a_invS hZ.1 (As := [.long a2.toInt64, .long (0 : Int64), .long ((s6 62 0 a1.toNatClampNeg) - (1 : Int32)).toInt64]) (rest := []) lk_X11_126 ⟨⟨by decide, by decide⟩, by decide, by decide⟩ rfl (Nat.le_of_ble_eq_true rfl) dX11_set_47 (m_X11_in hZ  e47) ?_
      show AW Z l iX11_set (Pq (rI R)) 0 0 50 [(0, .ref (za Z 60 0)), (1, .int a1), (2, .int a2), (3, .int a3)] [.int r47] s47
      refine a_if_ne 59 dX11_set_50 (by decide) (fun q5 => ?_) (fun q5 => ?_)
      · replace hF := (if_neg q5).symm.trans hF
        refine a_aload_n dX11_set_59 0 rfl rfl ?_
        refine a_getR hZ.1 (hZ.2 60 0 (by decide) (by decide) Nat.one_pos) fl_X11_24 rfl 0 rfl dX11_set_60 ?_
        refine a_bipush (v := (80 : Int32)) dX11_set_63 (by decide) ?_
        refine a_iload_n dX11_set_65 1 rfl rfl ?_
        refine a_imul dX11_set_66 ?_
        refine a_iload_n dX11_set_67 2 rfl rfl ?_
        refine a_iadd dX11_set_68 ?_
        refine a_aload_n dX11_set_69 0 rfl rfl ?_
        refine a_getR hZ.1 (hZ.2 60 0 (by decide) (by decide) Nat.one_pos) fl_X11_17 rfl 0 rfl dX11_set_70 ?_
        refine a_iload_n dX11_set_73 1 rfl rfl ?_
        obtain ⟨p6, hF⟩ := gd_some hF
        refine a_iald hZ.1 (s47 61 0 a1.toNatClampNeg) (hZ.2 61 0 (by decide) (by decide) Nat.one_pos) rfl rfl (inb_vp p6) rfl dX11_set_74 ?_
        refine a_if_ne 83 dX11_set_75 (by decide) (fun q7 => ?_) (fun q7 => ?_)
        · replace hF := (if_neg q7).symm.trans hF
          refine a_aload_n dX11_set_83 0 rfl rfl ?_
          refine a_getR hZ.1 (hZ.2 60 0 (by decide) (by decide) Nat.one_pos) fl_X11_17 rfl 0 rfl dX11_set_84 ?_
          refine a_iload_n dX11_set_87 1 rfl rfl ?_
          obtain ⟨p8, hF⟩ := gd_some hF
          refine a_iald hZ.1 (s47 61 0 a1.toNatClampNeg) (hZ.2 61 0 (by decide) (by decide) Nat.one_pos) rfl rfl (inb_vp p8) rfl dX11_set_88 ?_
          refine a_iconst (v := (1 : Int32)) dX11_set_89 (by decide) ?_
          refine a_icmp_ne 98 dX11_set_90 (by decide) (fun q9 => ?_) (fun q9 => ?_)
          · replace hF := (if_neg q9).symm.trans hF
            refine a_iload_n dX11_set_98 3 rfl rfl ?_
            refine a_loc [(0, .ref (za Z 60 0)), (1, .int a1), (2, .int a2)] [0, 1, 2] rfl ?_
            exact w_X11_set_99 (l := l) hZ   (((80 : Int32) * a1) + a2) a3  _ hF
          · replace hF := (if_pos q9).symm.trans hF
            refine a_iload_n dX11_set_93 3 rfl rfl ?_
            refine a_i2s dX11_set_94 ?_
            refine a_goto 99 dX11_set_95 (by decide) ?_
            refine a_loc [(0, .ref (za Z 60 0)), (1, .int a1), (2, .int a2)] [0, 1, 2] rfl ?_
            exact w_X11_set_99 (l := l) hZ   (((80 : Int32) * a1) + a2) a3.toInt16.toInt32  _ hF
        · replace hF := (if_pos q7).symm.trans hF
          refine a_iload_n dX11_set_78 3 rfl rfl ?_
          refine a_i2b dX11_set_79 ?_
          refine a_goto 99 dX11_set_80 (by decide) ?_
          refine a_loc [(0, .ref (za Z 60 0)), (1, .int a1), (2, .int a2)] [0, 1, 2] rfl ?_
          exact w_X11_set_99 (l := l) hZ   (((80 : Int32) * a1) + a2) a3.toInt8.toInt32  _ hF
      · replace hF := (if_pos q5).symm.trans hF
        refine a_aload_n dX11_set_53 0 rfl rfl ?_
        refine a_iconst (v := (2 : Int32)) dX11_set_54 (by decide) ?_
        obtain ⟨r55, s55, e55, hF⟩ := bd_some hF
        refine a_invV hZ.1 (As := [.int (2 : Int32)]) (rest := []) (hZ.2 60 0 (by decide) (by decide) Nat.one_pos) lk_X11_137 ⟨⟨by decide, by decide⟩, by decide, by decide⟩ rfl (Nat.le_of_ble_eq_true rfl) dX11_set_55 (m_X11_finding hZ  e55) ?_
        show AW Z l iX11_set (Pq (rI R)) 0 0 58 [(0, .ref (za Z 60 0)), (1, .int a1), (2, .int a2), (3, .int a3)] [.int r55] s55
        replace hF := Option.some.inj hF
        subst hF
        exact a_iret rfl (Nat.zero_le _) (Nat.zero_le _) dX11_set_58 ⟨rfl, rfl⟩
    · replace hF := (if_neg q3).symm.trans hF
      refine a_aload_n dX11_set_29 0 rfl rfl ?_
      refine a_iconst (v := (1 : Int32)) dX11_set_30 (by decide) ?_
      obtain ⟨r31, s31, e31, hF⟩ := bd_some hF
      refine a_invV hZ.1 (As := [.int (1 : Int32)]) (rest := []) (hZ.2 60 0 (by decide) (by decide) Nat.one_pos) lk_X11_137 ⟨⟨by decide, by decide⟩, by decide, by decide⟩ rfl (Nat.le_of_ble_eq_true rfl) dX11_set_31 (m_X11_finding hZ  e31) ?_
      show AW Z l iX11_set (Pq (rI R)) 0 0 34 [(0, .ref (za Z 60 0)), (1, .int a1), (2, .int a2), (3, .int a3)] [.int r31] s31
      replace hF := Option.some.inj hF
      subst hF
      exact a_iret rfl (Nat.zero_le _) (Nat.zero_le _) dX11_set_34 ⟨rfl, rfl⟩
  · replace hF := (if_pos q1).symm.trans hF
    refine a_ldc (v := (-1000001)) kw_1136 dX11_set_12 ?_
    replace hF := Option.some.inj hF
    subst hF
    exact a_iret rfl (Nat.zero_le _) (Nat.zero_le _) dX11_set_14 ⟨rfl, rfl⟩
theorem m_X11_set {Z : ZE} {l : Launch} (hZ : OkM Z) {a1 : Int32} {a2 : Int32} {a3 : Int32}  {s : St} {R : Int32 × St} (hF : F_X11_set (zg Z) a1 a2 a3 s = some R) : Sp Z l yX11_set iX11_set [.ref (za Z 60 0), .int a1, .int a2, .int a3] s (rI R) :=
  Sp.of (by decide) rfl (Nat.le_of_ble_eq_true rfl) (w_X11_set hZ  s hF)
-- X11_sheet
set_option maxRecDepth 100000 in
set_option maxHeartbeats 4000000 in
theorem w_X11_sheet_65 {Z : ZE} {l : Launch} (hZ : OkM Z) {a1 : Int32} {a2 : Int32} {a3 : Int32}  {R : Int32 × St}  : ∀ (n_ : Nat) (v4 : Int32)  (s : St), F_X11_sheet_65 (zg Z) a1 a2 a3 n_ v4 s = some R → AW Z l iX11_sheet (Pq (rI R)) 0 0 65 [(0, .ref (za Z 60 0)), (1, .int a1), (3, .int a3), (4, .int v4)] [] s := by
  intro n_
  induction n_ with
  | zero =>
    intro v4 s hF
    exact absurd hF (by rw [F_X11_sheet_65]; exact fun q => by cases q)
  | succ n_ w65_ =>
    intro v4 s hF
    rw [F_X11_sheet_65] at hF
    refine a_iload dX11_sheet_65 3 rfl ?_
    refine a_bipush (v := (80 : Int32)) dX11_sheet_67 (by decide) ?_
    refine a_icmp_ge 91 dX11_sheet_69 (by decide) (fun q1 => ?_) (fun q1 => ?_)
    · replace hF := (if_pos q1).symm.trans hF
      refine a_iload_n dX11_sheet_91 2 rfl rfl ?_
      replace hF := Option.some.inj hF
      subst hF
      exact a_iret rfl (Nat.zero_le _) (Nat.zero_le _) dX11_sheet_92 ⟨rfl, rfl⟩
    · replace hF := (if_neg q1).symm.trans hF
      refine a_aload_n dX11_sheet_72 0 rfl rfl ?_
      refine a_getR hZ.1 (hZ.2 60 0 (by decide) (by decide) Nat.one_pos) fl_X11_24 rfl 0 rfl dX11_sheet_73 ?_
      refine a_bipush (v := (80 : Int32)) dX11_sheet_76 (by decide) ?_
      refine a_iload_n dX11_sheet_78 1 rfl rfl ?_
      refine a_imul dX11_sheet_79 ?_
      refine a_iload dX11_sheet_80 3 rfl ?_
      refine a_iadd dX11_sheet_82 ?_
      refine a_iconst (v := (0 : Int32)) dX11_sheet_83 (by decide) ?_
      obtain ⟨p2, hF⟩ := gd_some hF
      refine a_iast hZ.1 (hZ.2 63 0 (by decide) (by decide) Nat.one_pos) rfl rfl (inb_vp p2) dX11_sheet_84 ?_
      refine a_iinc [(4, .int (v4 + 1)), (0, .ref (za Z 60 0)), (1, .int a1), (3, .int a3)] dX11_sheet_85 3 rfl rfl (by decide) rfl ?_
      refine a_goto 65 dX11_sheet_88 (by decide) ?_
      refine a_loc [(0, .ref (za Z 60 0)), (1, .int a1), (3, .int a3), (4, .int (v4 + 1))] [1, 2, 3, 0] rfl ?_
      exact w65_ (v4 + 1)  _ hF
set_option maxRecDepth 100000 in
set_option maxHeartbeats 4000000 in
theorem w_X11_sheet {Z : ZE} {l : Launch} (hZ : OkM Z) {a1 : Int32} {a2 : Int32} {a3 : Int32}  {R : Int32 × St}    (s : St) (hF : F_X11_sheet (zg Z) a1 a2 a3  s = some R) : AW Z l iX11_sheet (Pq (rI R)) 0 0 0 [(0, .ref (za Z 60 0)), (1, .int a1), (2, .int a2), (3, .int a3)] [] s := by
  unfold F_X11_sheet at hF
  refine a_aload_n dX11_sheet_0 0 rfl rfl ?_
  refine a_iconst (v := (0 : Int32)) dX11_sheet_1 (by decide) ?_
  refine a_put hZ.1 (hZ.2 60 0 (by decide) (by decide) Nat.one_pos) fl_X11_1 rfl rfl rfl dX11_sheet_2 ?_
  refine a_iload_n dX11_sheet_5 1 rfl rfl ?_
  obtain ⟨r6, s6, e6, hF⟩ := bd_some hF
  refine a_invS hZ.1 (As := [.int a1]) (rest := []) lk_X11_130 ⟨⟨by decide, by decide⟩, by decide, by decide⟩ rfl (Nat.le_of_ble_eq_true rfl) dX11_sheet_6 (m_X11_isSheet hZ  e6) ?_
  show AW Z l iX11_sheet (Pq (rI R)) 0 0 9 [(0, .ref (za Z 60 0)), (1, .int a1), (2, .int a2), (3, .int a3)] [.int r6] s6
  refine a_if_eq 30 dX11_sheet_9 (by decide) (fun q1 => ?_) (fun q1 => ?_)
  · replace hF := (if_pos q1).symm.trans hF
    refine a_ldc (v := (-1000001)) kw_1136 dX11_sheet_30 ?_
    replace hF := Option.some.inj hF
    subst hF
    exact a_iret rfl (Nat.zero_le _) (Nat.zero_le _) dX11_sheet_32 ⟨rfl, rfl⟩
  · replace hF := (if_neg q1).symm.trans hF
    refine a_iload_n dX11_sheet_12 2 rfl rfl ?_
    refine a_i2l dX11_sheet_13 ?_
    refine a_lconst (v := (0 : Int64)) dX11_sheet_14 (by decide) ?_
    refine a_ldc2 (v := (2 : Int64)) kw_1135 dX11_sheet_15 ?_
    obtain ⟨r18, s18, e18, hF⟩ := bd_some hF
    refine a_invS hZ.1 (As := [.long a2.toInt64, .long (0 : Int64), .long (2 : Int64)]) (rest := []) lk_X11_126 ⟨⟨by decide, by decide⟩, by decide, by decide⟩ rfl (Nat.le_of_ble_eq_true rfl) dX11_sheet_18 (m_X11_in hZ  e18) ?_
    show AW Z l iX11_sheet (Pq (rI R)) 0 0 21 [(0, .ref (za Z 60 0)), (1, .int a1), (2, .int a2), (3, .int a3)] [.int r18] s18
    refine a_if_eq 30 dX11_sheet_21 (by decide) (fun q2 => ?_) (fun q2 => ?_)
    · replace hF := (if_pos q2).symm.trans hF
      refine a_ldc (v := (-1000001)) kw_1136 dX11_sheet_30 ?_
      replace hF := Option.some.inj hF
      subst hF
      exact a_iret rfl (Nat.zero_le _) (Nat.zero_le _) dX11_sheet_32 ⟨rfl, rfl⟩
    · replace hF := (if_neg q2).symm.trans hF
      refine a_iload_n dX11_sheet_24 3 rfl rfl ?_
      refine a_bipush (v := (80 : Int32)) dX11_sheet_25 (by decide) ?_
      refine a_icmp_le 33 dX11_sheet_27 (by decide) (fun q3 => ?_) (fun q3 => ?_)
      · replace hF := (if_pos q3).symm.trans hF
        refine a_aload_n dX11_sheet_33 0 rfl rfl ?_
        refine a_iconst (v := (0 : Int32)) dX11_sheet_34 (by decide) ?_
        refine a_put hZ.1 (hZ.2 60 0 (by decide) (by decide) Nat.one_pos) fl_X11_7 rfl rfl rfl dX11_sheet_35 ?_
        refine a_iload_n dX11_sheet_38 3 rfl rfl ?_
        refine a_if_ge 48 dX11_sheet_39 (by decide) (fun q4 => ?_) (fun q4 => ?_)
        · replace hF := (if_pos q4).symm.trans hF
          refine a_aload_n dX11_sheet_48 0 rfl rfl ?_
          refine a_getR hZ.1 (hZ.2 60 0 (by decide) (by decide) Nat.one_pos) fl_X11_17 rfl 0 rfl dX11_sheet_49 ?_
          refine a_iload_n dX11_sheet_52 1 rfl rfl ?_
          refine a_iload_n dX11_sheet_53 2 rfl rfl ?_
          obtain ⟨p5, hF⟩ := gd_some hF
          refine a_iast hZ.1 (hZ.2 61 0 (by decide) (by decide) Nat.one_pos) rfl rfl (inb_vp p5) dX11_sheet_54 ?_
          refine a_aload_n dX11_sheet_55 0 rfl rfl ?_
          refine a_getR hZ.1 (hZ.2 60 0 (by decide) (by decide) Nat.one_pos) fl_X11_21 rfl 0 rfl dX11_sheet_56 ?_
          refine a_iload_n dX11_sheet_59 1 rfl rfl ?_
          refine a_iload_n dX11_sheet_60 3 rfl rfl ?_
          obtain ⟨p6, hF⟩ := gd_some hF
          refine a_iast hZ.1 (hZ.2 62 0 (by decide) (by decide) Nat.one_pos) rfl rfl (inb_vp p6) dX11_sheet_61 ?_
          refine a_iconst (v := (0 : Int32)) dX11_sheet_62 (by decide) ?_
          refine a_istore [(4, .int (0 : Int32)), (0, .ref (za Z 60 0)), (1, .int a1), (2, .int a2), (3, .int a3)] dX11_sheet_63 (by decide) rfl ?_
          refine a_loc [(0, .ref (za Z 60 0)), (1, .int a1), (3, .int a3), (4, .int (0 : Int32))] [1, 2, 4, 0] rfl ?_
          exact w_X11_sheet_65 (l := l) hZ   fu (0 : Int32)  _ hF
        · replace hF := (if_neg q4).symm.trans hF
          refine a_aload_n dX11_sheet_42 0 rfl rfl ?_
          refine a_iconst (v := (4 : Int32)) dX11_sheet_43 (by decide) ?_
          obtain ⟨r44, s44, e44, hF⟩ := bd_some hF
          refine a_invV hZ.1 (As := [.int (4 : Int32)]) (rest := []) (hZ.2 60 0 (by decide) (by decide) Nat.one_pos) lk_X11_137 ⟨⟨by decide, by decide⟩, by decide, by decide⟩ rfl (Nat.le_of_ble_eq_true rfl) dX11_sheet_44 (m_X11_finding hZ  e44) ?_
          show AW Z l iX11_sheet (Pq (rI R)) 0 0 47 [(0, .ref (za Z 60 0)), (1, .int a1), (2, .int a2), (3, .int a3)] [.int r44] s44
          replace hF := Option.some.inj hF
          subst hF
          exact a_iret rfl (Nat.zero_le _) (Nat.zero_le _) dX11_sheet_47 ⟨rfl, rfl⟩
      · replace hF := (if_neg q3).symm.trans hF
        refine a_ldc (v := (-1000001)) kw_1136 dX11_sheet_30 ?_
        replace hF := Option.some.inj hF
        subst hF
        exact a_iret rfl (Nat.zero_le _) (Nat.zero_le _) dX11_sheet_32 ⟨rfl, rfl⟩
theorem m_X11_sheet {Z : ZE} {l : Launch} (hZ : OkM Z) {a1 : Int32} {a2 : Int32} {a3 : Int32}  {s : St} {R : Int32 × St} (hF : F_X11_sheet (zg Z) a1 a2 a3 s = some R) : Sp Z l yX11_sheet iX11_sheet [.ref (za Z 60 0), .int a1, .int a2, .int a3] s (rI R) :=
  Sp.of (by decide) rfl (Nat.le_of_ble_eq_true rfl) (w_X11_sheet hZ  s hF)
-- X11_ship
set_option maxRecDepth 100000 in
set_option maxHeartbeats 4000000 in
theorem w_X11_ship {Z : ZE} {l : Launch} (hZ : OkM Z) {a1 : Int32} {a2 : Int32} {a3 : Int32} {a4 : Int32}  {R : Int32 × St}    (s : St) (hF : F_X11_ship (zg Z) a1 a2 a3 a4  s = some R) : AW Z l iX11_ship (Pq (rI R)) 0 0 0 [(0, .ref (za Z 60 0)), (1, .int a1), (2, .int a2), (3, .int a3), (4, .int a4)] [] s := by
  unfold F_X11_ship at hF
  refine a_aload_n dX11_ship_0 0 rfl rfl ?_
  refine a_iconst (v := (0 : Int32)) dX11_ship_1 (by decide) ?_
  refine a_put hZ.1 (hZ.2 60 0 (by decide) (by decide) Nat.one_pos) fl_X11_1 rfl rfl rfl dX11_ship_2 ?_
  refine a_iload_n dX11_ship_5 1 rfl rfl ?_
  obtain ⟨r6, s6, e6, hF⟩ := bd_some hF
  refine a_invS hZ.1 (As := [.int a1]) (rest := []) lk_X11_164 ⟨⟨by decide, by decide⟩, by decide, by decide⟩ rfl (Nat.le_of_ble_eq_true rfl) dX11_ship_6 (m_X11_isWeek hZ  e6) ?_
  show AW Z l iX11_ship (Pq (rI R)) 0 0 9 [(0, .ref (za Z 60 0)), (1, .int a1), (2, .int a2), (3, .int a3), (4, .int a4)] [.int r6] s6
  refine a_if_eq 42 dX11_ship_9 (by decide) (fun q1 => ?_) (fun q1 => ?_)
  · replace hF := (if_pos q1).symm.trans hF
    refine a_ldc (v := (-1000001)) kw_1136 dX11_ship_42 ?_
    replace hF := Option.some.inj hF
    subst hF
    exact a_iret rfl (Nat.zero_le _) (Nat.zero_le _) dX11_ship_44 ⟨rfl, rfl⟩
  · replace hF := (if_neg q1).symm.trans hF
    refine a_iload_n dX11_ship_12 2 rfl rfl ?_
    obtain ⟨r13, s13, e13, hF⟩ := bd_some hF
    refine a_invS hZ.1 (As := [.int a2]) (rest := []) lk_X11_150 ⟨⟨by decide, by decide⟩, by decide, by decide⟩ rfl (Nat.le_of_ble_eq_true rfl) dX11_ship_13 (m_X11_isSort hZ  e13) ?_
    show AW Z l iX11_ship (Pq (rI R)) 0 0 16 [(0, .ref (za Z 60 0)), (1, .int a1), (2, .int a2), (3, .int a3), (4, .int a4)] [.int r13] s13
    refine a_if_eq 42 dX11_ship_16 (by decide) (fun q2 => ?_) (fun q2 => ?_)
    · replace hF := (if_pos q2).symm.trans hF
      refine a_ldc (v := (-1000001)) kw_1136 dX11_ship_42 ?_
      replace hF := Option.some.inj hF
      subst hF
      exact a_iret rfl (Nat.zero_le _) (Nat.zero_le _) dX11_ship_44 ⟨rfl, rfl⟩
    · replace hF := (if_neg q2).symm.trans hF
      refine a_iload_n dX11_ship_19 3 rfl rfl ?_
      refine a_i2l dX11_ship_20 ?_
      refine a_lconst (v := (1 : Int64)) dX11_ship_21 (by decide) ?_
      refine a_ldc2 (v := (500 : Int64)) kw_1175 dX11_ship_22 ?_
      obtain ⟨r25, s25, e25, hF⟩ := bd_some hF
      refine a_invS hZ.1 (As := [.long a3.toInt64, .long (1 : Int64), .long (500 : Int64)]) (rest := []) lk_X11_126 ⟨⟨by decide, by decide⟩, by decide, by decide⟩ rfl (Nat.le_of_ble_eq_true rfl) dX11_ship_25 (m_X11_in hZ  e25) ?_
      show AW Z l iX11_ship (Pq (rI R)) 0 0 28 [(0, .ref (za Z 60 0)), (1, .int a1), (2, .int a2), (3, .int a3), (4, .int a4)] [.int r25] s25
      refine a_if_eq 42 dX11_ship_28 (by decide) (fun q3 => ?_) (fun q3 => ?_)
      · replace hF := (if_pos q3).symm.trans hF
        refine a_ldc (v := (-1000001)) kw_1136 dX11_ship_42 ?_
        replace hF := Option.some.inj hF
        subst hF
        exact a_iret rfl (Nat.zero_le _) (Nat.zero_le _) dX11_ship_44 ⟨rfl, rfl⟩
      · replace hF := (if_neg q3).symm.trans hF
        refine a_iload dX11_ship_31 4 rfl ?_
        refine a_i2l dX11_ship_33 ?_
        refine a_lconst (v := (0 : Int64)) dX11_ship_34 (by decide) ?_
        refine a_lconst (v := (1 : Int64)) dX11_ship_35 (by decide) ?_
        obtain ⟨r36, s36, e36, hF⟩ := bd_some hF
        refine a_invS hZ.1 (As := [.long a4.toInt64, .long (0 : Int64), .long (1 : Int64)]) (rest := []) lk_X11_126 ⟨⟨by decide, by decide⟩, by decide, by decide⟩ rfl (Nat.le_of_ble_eq_true rfl) dX11_ship_36 (m_X11_in hZ  e36) ?_
        show AW Z l iX11_ship (Pq (rI R)) 0 0 39 [(0, .ref (za Z 60 0)), (1, .int a1), (2, .int a2), (3, .int a3), (4, .int a4)] [.int r36] s36
        refine a_if_ne 45 dX11_ship_39 (by decide) (fun q4 => ?_) (fun q4 => ?_)
        · replace hF := (if_neg q4).symm.trans hF
          refine a_aload_n dX11_ship_45 0 rfl rfl ?_
          refine a_getI hZ.1 (s36 60 0 11) (hZ.2 60 0 (by decide) (by decide) Nat.one_pos) fl_X11_169 rfl rfl dX11_ship_46 ?_
          refine a_bipush (v := (30 : Int32)) dX11_ship_49 (by decide) ?_
          refine a_icmp_ne 57 dX11_ship_51 (by decide) (fun q5 => ?_) (fun q5 => ?_)
          · replace hF := (if_neg q5).symm.trans hF
            refine a_aload_n dX11_ship_57 0 rfl rfl ?_
            refine a_getR hZ.1 (hZ.2 60 0 (by decide) (by decide) Nat.one_pos) fl_X11_39 rfl 0 rfl dX11_ship_58 ?_
            refine a_aload_n dX11_ship_61 0 rfl rfl ?_
            refine a_getI hZ.1 (s36 60 0 11) (hZ.2 60 0 (by decide) (by decide) Nat.one_pos) fl_X11_169 rfl rfl dX11_ship_62 ?_
            refine a_iload_n dX11_ship_65 1 rfl rfl ?_
            obtain ⟨p6, hF⟩ := gd_some hF
            refine a_iast hZ.1 (hZ.2 67 0 (by decide) (by decide) Nat.one_pos) rfl rfl (inb_vp p6) dX11_ship_66 ?_
            refine a_aload_n dX11_ship_67 0 rfl rfl ?_
            refine a_getR hZ.1 (hZ.2 60 0 (by decide) (by decide) Nat.one_pos) fl_X11_42 rfl 0 rfl dX11_ship_68 ?_
            refine a_aload_n dX11_ship_71 0 rfl rfl ?_
            refine a_getI hZ.1 (s36 60 0 11) (hZ.2 60 0 (by decide) (by decide) Nat.one_pos) fl_X11_169 rfl rfl dX11_ship_72 ?_
            refine a_iload_n dX11_ship_75 2 rfl rfl ?_
            obtain ⟨p7, hF⟩ := gd_some hF
            refine a_iast hZ.1 (hZ.2 68 0 (by decide) (by decide) Nat.one_pos) rfl rfl (inb_vp p7) dX11_ship_76 ?_
            refine a_aload_n dX11_ship_77 0 rfl rfl ?_
            refine a_getR hZ.1 (hZ.2 60 0 (by decide) (by decide) Nat.one_pos) fl_X11_45 rfl 0 rfl dX11_ship_78 ?_
            refine a_aload_n dX11_ship_81 0 rfl rfl ?_
            refine a_getI hZ.1 (s36 60 0 11) (hZ.2 60 0 (by decide) (by decide) Nat.one_pos) fl_X11_169 rfl rfl dX11_ship_82 ?_
            refine a_iload dX11_ship_85 4 rfl ?_
            refine a_iload_n dX11_ship_87 3 rfl rfl ?_
            refine a_imul dX11_ship_88 ?_
            obtain ⟨p8, hF⟩ := gd_some hF
            refine a_iast hZ.1 (hZ.2 69 0 (by decide) (by decide) Nat.one_pos) rfl rfl (inb_vp p8) dX11_ship_89 ?_
            refine a_aload_n dX11_ship_90 0 rfl rfl ?_
            refine a_dup dX11_ship_91 rfl ?_
            refine a_getI hZ.1 (s36 60 0 11) (hZ.2 60 0 (by decide) (by decide) Nat.one_pos) fl_X11_169 rfl rfl dX11_ship_92 ?_
            refine a_iconst (v := (1 : Int32)) dX11_ship_95 (by decide) ?_
            refine a_iadd dX11_ship_96 ?_
            refine a_put hZ.1 (hZ.2 60 0 (by decide) (by decide) Nat.one_pos) fl_X11_169 rfl rfl rfl dX11_ship_97 ?_
            refine a_aload_n dX11_ship_100 0 rfl rfl ?_
            refine a_getI hZ.1 ((s36 60 0 11) + (1 : Int32)) (hZ.2 60 0 (by decide) (by decide) Nat.one_pos) fl_X11_169 rfl (by simp [up]) dX11_ship_101 ?_
            replace hF := Option.some.inj hF
            subst hF
            exact a_iret rfl (Nat.zero_le _) (Nat.zero_le _) dX11_ship_104 ⟨rfl, rfl⟩
          · replace hF := (if_pos q5).symm.trans hF
            refine a_ldc (v := (-1000003)) kw_1176 dX11_ship_54 ?_
            replace hF := Option.some.inj hF
            subst hF
            exact a_iret rfl (Nat.zero_le _) (Nat.zero_le _) dX11_ship_56 ⟨rfl, rfl⟩
        · replace hF := (if_pos q4).symm.trans hF
          refine a_ldc (v := (-1000001)) kw_1136 dX11_ship_42 ?_
          replace hF := Option.some.inj hF
          subst hF
          exact a_iret rfl (Nat.zero_le _) (Nat.zero_le _) dX11_ship_44 ⟨rfl, rfl⟩
theorem m_X11_ship {Z : ZE} {l : Launch} (hZ : OkM Z) {a1 : Int32} {a2 : Int32} {a3 : Int32} {a4 : Int32}  {s : St} {R : Int32 × St} (hF : F_X11_ship (zg Z) a1 a2 a3 a4 s = some R) : Sp Z l yX11_ship iX11_ship [.ref (za Z 60 0), .int a1, .int a2, .int a3, .int a4] s (rI R) :=
  Sp.of (by decide) rfl (Nat.le_of_ble_eq_true rfl) (w_X11_ship hZ  s hF)
-- X11_status
set_option maxRecDepth 100000 in
set_option maxHeartbeats 4000000 in
theorem w_X11_status {Z : ZE} {l : Launch} (hZ : OkM Z)   {R : Int32 × St}    (s : St) (hF : F_X11_status (zg Z)   s = some R) : AW Z l iX11_status (Pq (rI R)) 0 0 0 [(0, .ref (za Z 60 0))] [] s := by
  unfold F_X11_status at hF
  refine a_aload_n dX11_status_0 0 rfl rfl ?_
  refine a_iconst (v := (0 : Int32)) dX11_status_1 (by decide) ?_
  refine a_put hZ.1 (hZ.2 60 0 (by decide) (by decide) Nat.one_pos) fl_X11_1 rfl rfl rfl dX11_status_2 ?_
  refine a_aload_n dX11_status_5 0 rfl rfl ?_
  refine a_getI hZ.1 (s 60 0 1) (hZ.2 60 0 (by decide) (by decide) Nat.one_pos) fl_X11_7 rfl (by simp [up]) dX11_status_6 ?_
  replace hF := Option.some.inj hF
  subst hF
  exact a_iret rfl (Nat.zero_le _) (Nat.zero_le _) dX11_status_9 ⟨rfl, rfl⟩
theorem m_X11_status {Z : ZE} {l : Launch} (hZ : OkM Z)   {s : St} {R : Int32 × St} (hF : F_X11_status (zg Z)  s = some R) : Sp Z l yX11_status iX11_status [.ref (za Z 60 0)] s (rI R) :=
  Sp.of (by decide) rfl (Nat.le_of_ble_eq_true rfl) (w_X11_status hZ  s hF)
-- X11_work
set_option maxRecDepth 100000 in
set_option maxHeartbeats 4000000 in
theorem w_X11_work_324 {Z : ZE} {l : Launch} (hZ : OkM Z) {a1 : Int32}  {R : Unit × St} (h243_ : Int32 → St → Option (Unit × St)) (w243_ : ∀ (v3 : Int32)  (s : St), h243_ v3 s = some R → AW Z l iX11_work (Pq (rU R)) 0 0 243 [(0, .ref (za Z 60 0)), (1, .int a1), (3, .int v3)] [] s) (v3 : Int32)  (s : St) (hF : F_X11_work_324 (zg Z) a1 h243_ v3 s = some R) : AW Z l iX11_work (Pq (rU R)) 0 0 324 [(0, .ref (za Z 60 0)), (1, .int a1), (3, .int v3)] [] s := by
  unfold F_X11_work_324 at hF
  refine a_iinc [(3, .int (v3 + 1)), (0, .ref (za Z 60 0)), (1, .int a1)] dX11_work_324 2 rfl rfl (by decide) rfl ?_
  refine a_goto 243 dX11_work_327 (by decide) ?_
  refine a_loc [(0, .ref (za Z 60 0)), (1, .int a1), (3, .int (v3 + 1))] [1, 2, 0] rfl ?_
  exact w243_ (v3 + 1)  _ hF
set_option maxRecDepth 100000 in
set_option maxHeartbeats 4000000 in
theorem w_X11_work_243 {Z : ZE} {l : Launch} (hZ : OkM Z) {a1 : Int32}  {R : Unit × St}  : ∀ (n_ : Nat) (v3 : Int32)  (s : St), F_X11_work_243 (zg Z) a1 n_ v3 s = some R → AW Z l iX11_work (Pq (rU R)) 0 0 243 [(0, .ref (za Z 60 0)), (1, .int a1), (3, .int v3)] [] s := by
  intro n_
  induction n_ with
  | zero =>
    intro v3 s hF
    exact absurd hF (by rw [F_X11_work_243]; exact fun q => by cases q)
  | succ n_ w243_ =>
    intro v3 s hF
    rw [F_X11_work_243] at hF
    refine a_iload_n dX11_work_243 2 rfl rfl ?_
    refine a_iconst (v := (4 : Int32)) dX11_work_244 (by decide) ?_
    refine a_icmp_ge 330 dX11_work_245 (by decide) (fun q1 => ?_) (fun q1 => ?_)
    · replace hF := (if_pos q1).symm.trans hF
      replace hF := Option.some.inj hF
      subst hF
      exact a_vret rfl (Nat.zero_le _) (Nat.zero_le _) dX11_work_330 ⟨rfl, rfl⟩
    · replace hF := (if_neg q1).symm.trans hF
      refine a_aload_n dX11_work_248 0 rfl rfl ?_
      refine a_getR hZ.1 (hZ.2 60 0 (by decide) (by decide) Nat.one_pos) fl_X11_57 rfl 0 rfl dX11_work_249 ?_
      refine a_iload_n dX11_work_252 1 rfl rfl ?_
      obtain ⟨p2, hF⟩ := gd_some hF
      refine a_iald hZ.1 (s 73 0 a1.toNatClampNeg) (hZ.2 73 0 (by decide) (by decide) Nat.one_pos) rfl rfl (inb_vp p2) rfl dX11_work_253 ?_
      refine a_if_le 324 dX11_work_254 (by decide) (fun q3 => ?_) (fun q3 => ?_)
      · replace hF := (if_pos q3).symm.trans hF
        exact w_X11_work_324 (l := l) hZ  (F_X11_work_243 (zg Z) a1 n_) w243_ v3  _ hF
      · replace hF := (if_neg q3).symm.trans hF
        refine a_aload_n dX11_work_257 0 rfl rfl ?_
        refine a_getR hZ.1 (hZ.2 60 0 (by decide) (by decide) Nat.one_pos) fl_X11_70 rfl 0 rfl dX11_work_258 ?_
        refine a_iload_n dX11_work_261 2 rfl rfl ?_
        obtain ⟨p4, hF⟩ := gd_some hF
        refine a_iald hZ.1 (s 77 0 v3.toNatClampNeg) (hZ.2 77 0 (by decide) (by decide) Nat.one_pos) rfl rfl (inb_vp p4) rfl dX11_work_262 ?_
        refine a_aload_n dX11_work_263 0 rfl rfl ?_
        refine a_getR hZ.1 (hZ.2 60 0 (by decide) (by decide) Nat.one_pos) fl_X11_57 rfl 0 rfl dX11_work_264 ?_
        refine a_iload_n dX11_work_267 1 rfl rfl ?_
        obtain ⟨p5, hF⟩ := gd_some hF
        refine a_iald hZ.1 (s 73 0 a1.toNatClampNeg) (hZ.2 73 0 (by decide) (by decide) Nat.one_pos) rfl rfl (inb_vp p5) rfl dX11_work_268 ?_
        refine a_icmp_lt 324 dX11_work_269 (by decide) (fun q6 => ?_) (fun q6 => ?_)
        · replace hF := (if_pos q6).symm.trans hF
          exact w_X11_work_324 (l := l) hZ  (F_X11_work_243 (zg Z) a1 n_) w243_ v3  _ hF
        · replace hF := (if_neg q6).symm.trans hF
          refine a_aload_n dX11_work_272 0 rfl rfl ?_
          refine a_iload_n dX11_work_273 1 rfl rfl ?_
          refine a_aload_n dX11_work_274 0 rfl rfl ?_
          refine a_getR hZ.1 (hZ.2 60 0 (by decide) (by decide) Nat.one_pos) fl_X11_60 rfl 0 rfl dX11_work_275 ?_
          refine a_iconst (v := (4 : Int32)) dX11_work_278 (by decide) ?_
          refine a_iload_n dX11_work_279 1 rfl rfl ?_
          refine a_imul dX11_work_280 ?_
          refine a_iload_n dX11_work_281 2 rfl rfl ?_
          refine a_iadd dX11_work_282 ?_
          obtain ⟨p7, hF⟩ := gd_some hF
          refine a_iald hZ.1 (s 74 0 (((4 : Int32) * a1) + v3).toNatClampNeg) (hZ.2 74 0 (by decide) (by decide) Nat.one_pos) rfl rfl (inb_vp p7) rfl dX11_work_283 ?_
          refine a_aload_n dX11_work_284 0 rfl rfl ?_
          refine a_getR hZ.1 (hZ.2 60 0 (by decide) (by decide) Nat.one_pos) fl_X11_70 rfl 0 rfl dX11_work_285 ?_
          refine a_iload_n dX11_work_288 2 rfl rfl ?_
          obtain ⟨p8, hF⟩ := gd_some hF
          refine a_iald hZ.1 (s 77 0 v3.toNatClampNeg) (hZ.2 77 0 (by decide) (by decide) Nat.one_pos) rfl rfl (inb_vp p8) rfl dX11_work_289 ?_
          refine a_imul dX11_work_290 ?_
          obtain ⟨r291, s291, e291, hF⟩ := bd_some hF
          refine a_invV hZ.1 (As := [.int a1, .int ((s 74 0 (((4 : Int32) * a1) + v3).toNatClampNeg) * (s 77 0 v3.toNatClampNeg))]) (rest := []) (hZ.2 60 0 (by decide) (by decide) Nat.one_pos) lk_X11_191 ⟨⟨by decide, by decide⟩, by decide, by decide⟩ rfl (Nat.le_of_ble_eq_true rfl) dX11_work_291 (m_X11_earnCoin hZ  e291) ?_
          show AW Z l iX11_work (Pq (rU R)) 0 0 294 [(0, .ref (za Z 60 0)), (1, .int a1), (3, .int v3)] [] s291
          refine a_aload_n dX11_work_294 0 rfl rfl ?_
          refine a_getR hZ.1 (hZ.2 60 0 (by decide) (by decide) Nat.one_pos) fl_X11_33 rfl 0 rfl dX11_work_295 ?_
          refine a_iload_n dX11_work_298 2 rfl rfl ?_
          refine a_dup2 dX11_work_299 rfl rfl ?_
          obtain ⟨p9, hF⟩ := gd_some hF
          refine a_iald hZ.1 (s291 66 0 v3.toNatClampNeg) (hZ.2 66 0 (by decide) (by decide) Nat.one_pos) rfl rfl (inb_vp p9) rfl dX11_work_300 ?_
          refine a_aload_n dX11_work_301 0 rfl rfl ?_
          refine a_getR hZ.1 (hZ.2 60 0 (by decide) (by decide) Nat.one_pos) fl_X11_60 rfl 0 rfl dX11_work_302 ?_
          refine a_iconst (v := (4 : Int32)) dX11_work_305 (by decide) ?_
          refine a_iload_n dX11_work_306 1 rfl rfl ?_
          refine a_imul dX11_work_307 ?_
          refine a_iload_n dX11_work_308 2 rfl rfl ?_
          refine a_iadd dX11_work_309 ?_
          obtain ⟨p10, hF⟩ := gd_some hF
          refine a_iald hZ.1 (s291 74 0 (((4 : Int32) * a1) + v3).toNatClampNeg) (hZ.2 74 0 (by decide) (by decide) Nat.one_pos) rfl rfl (inb_vp p10) rfl dX11_work_310 ?_
          refine a_iadd dX11_work_311 ?_
          obtain ⟨p11, hF⟩ := gd_some hF
          refine a_iast hZ.1 (hZ.2 66 0 (by decide) (by decide) Nat.one_pos) rfl rfl (inb_vp p11) dX11_work_312 ?_
          refine a_aload_n dX11_work_313 0 rfl rfl ?_
          refine a_getR hZ.1 (hZ.2 60 0 (by decide) (by decide) Nat.one_pos) fl_X11_60 rfl 0 rfl dX11_work_314 ?_
          refine a_iconst (v := (4 : Int32)) dX11_work_317 (by decide) ?_
          refine a_iload_n dX11_work_318 1 rfl rfl ?_
          refine a_imul dX11_work_319 ?_
          refine a_iload_n dX11_work_320 2 rfl rfl ?_
          refine a_iadd dX11_work_321 ?_
          refine a_iconst (v := (0 : Int32)) dX11_work_322 (by decide) ?_
          obtain ⟨p12, hF⟩ := gd_some hF
          refine a_iast hZ.1 (hZ.2 74 0 (by decide) (by decide) Nat.one_pos) rfl rfl (inb_vp p12) dX11_work_323 ?_
          exact w_X11_work_324 (l := l) hZ  (F_X11_work_243 (zg Z) a1 n_) w243_ v3  _ hF
set_option maxRecDepth 100000 in
set_option maxHeartbeats 4000000 in
theorem w_X11_work_241 {Z : ZE} {l : Launch} (hZ : OkM Z) {a1 : Int32}  {R : Unit × St}    (s : St) (hF : F_X11_work_241 (zg Z) a1  s = some R) : AW Z l iX11_work (Pq (rU R)) 0 0 241 [(0, .ref (za Z 60 0)), (1, .int a1)] [] s := by
  unfold F_X11_work_241 at hF
  refine a_iconst (v := (0 : Int32)) dX11_work_241 (by decide) ?_
  refine a_istore_n [(3, .int (0 : Int32)), (0, .ref (za Z 60 0)), (1, .int a1)] dX11_work_242 rfl (by decide) rfl ?_
  refine a_loc [(0, .ref (za Z 60 0)), (1, .int a1), (3, .int (0 : Int32))] [1, 2, 0] rfl ?_
  exact w_X11_work_243 (l := l) hZ   fu (0 : Int32)  _ hF
set_option maxRecDepth 100000 in
set_option maxHeartbeats 4000000 in
theorem w_X11_work_159 {Z : ZE} {l : Launch} (hZ : OkM Z) {a1 : Int32}  {R : Unit × St}  (v2 : Int32) (x0 : Int32)  (s : St) (hF : F_X11_work_159 (zg Z) a1 v2 x0 s = some R) : AW Z l iX11_work (Pq (rU R)) 0 0 159 [(0, .ref (za Z 60 0)), (1, .int a1), (2, .int v2)] [.int x0] s := by
  unfold F_X11_work_159 at hF
  refine a_istore_n [(3, .int x0), (0, .ref (za Z 60 0)), (1, .int a1), (2, .int v2)] dX11_work_159 rfl (by decide) rfl ?_
  refine a_aload_n dX11_work_160 1 rfl rfl ?_
  refine a_getR hZ.1 (hZ.2 60 0 (by decide) (by decide) Nat.one_pos) fl_X11_60 rfl 0 rfl dX11_work_161 ?_
  refine a_iconst (v := (4 : Int32)) dX11_work_164 (by decide) ?_
  refine a_iload_n dX11_work_165 2 rfl rfl ?_
  refine a_imul dX11_work_166 ?_
  refine a_iload_n dX11_work_167 3 rfl rfl ?_
  refine a_iadd dX11_work_168 ?_
  refine a_dup2 dX11_work_169 rfl rfl ?_
  obtain ⟨p1, hF⟩ := gd_some hF
  refine a_iald hZ.1 (s 74 0 (((4 : Int32) * a1) + v2).toNatClampNeg) (hZ.2 74 0 (by decide) (by decide) Nat.one_pos) rfl rfl (inb_vp p1) rfl dX11_work_170 ?_
  refine a_iload_n dX11_work_171 0 rfl rfl ?_
  refine a_isub dX11_work_172 ?_
  obtain ⟨p2, hF⟩ := gd_some hF
  refine a_iast hZ.1 (hZ.2 74 0 (by decide) (by decide) Nat.one_pos) rfl rfl (inb_vp p2) dX11_work_173 ?_
  refine a_aload_n dX11_work_174 1 rfl rfl ?_
  refine a_getR hZ.1 (hZ.2 60 0 (by decide) (by decide) Nat.one_pos) fl_X11_33 rfl 0 rfl dX11_work_175 ?_
  refine a_iload_n dX11_work_178 3 rfl rfl ?_
  refine a_dup2 dX11_work_179 rfl rfl ?_
  obtain ⟨p3, hF⟩ := gd_some hF
  refine a_iald hZ.1 (s 66 0 v2.toNatClampNeg) (hZ.2 66 0 (by decide) (by decide) Nat.one_pos) rfl rfl (inb_vp p3) rfl dX11_work_180 ?_
  refine a_aload_n dX11_work_181 1 rfl rfl ?_
  refine a_getR hZ.1 (hZ.2 60 0 (by decide) (by decide) Nat.one_pos) fl_X11_48 rfl 0 rfl dX11_work_182 ?_
  refine a_iload_n dX11_work_185 2 rfl rfl ?_
  obtain ⟨p4, hF⟩ := gd_some hF
  refine a_iald hZ.1 (s 70 0 a1.toNatClampNeg) (hZ.2 70 0 (by decide) (by decide) Nat.one_pos) rfl rfl (inb_vp p4) rfl dX11_work_186 ?_
  refine a_iload_n dX11_work_187 0 rfl rfl ?_
  refine a_isub dX11_work_188 ?_
  refine a_isub dX11_work_189 ?_
  obtain ⟨p5, hF⟩ := gd_some hF
  refine a_iast hZ.1 (hZ.2 66 0 (by decide) (by decide) Nat.one_pos) rfl rfl (inb_vp p5) dX11_work_190 ?_
  refine a_aload_n dX11_work_191 1 rfl rfl ?_
  refine a_getR hZ.1 (hZ.2 60 0 (by decide) (by decide) Nat.one_pos) fl_X11_66 rfl 0 rfl dX11_work_192 ?_
  refine a_bipush (v := (100 : Int32)) dX11_work_195 (by decide) ?_
  refine a_iload_n dX11_work_197 2 rfl rfl ?_
  refine a_imul dX11_work_198 ?_
  refine a_aload_n dX11_work_199 1 rfl rfl ?_
  refine a_getI hZ.1 (s 60 0 10) (hZ.2 60 0 (by decide) (by decide) Nat.one_pos) fl_X11_188 rfl rfl dX11_work_200 ?_
  refine a_iadd dX11_work_203 ?_
  refine a_iload_n dX11_work_204 3 rfl rfl ?_
  obtain ⟨p6, hF⟩ := gd_some hF
  refine a_iast hZ.1 (hZ.2 76 0 (by decide) (by decide) Nat.one_pos) rfl rfl (inb_vp p6) dX11_work_205 ?_
  refine a_aload_n dX11_work_206 1 rfl rfl ?_
  refine a_iload_n dX11_work_207 2 rfl rfl ?_
  refine a_aload_n dX11_work_208 1 rfl rfl ?_
  refine a_getR hZ.1 (hZ.2 60 0 (by decide) (by decide) Nat.one_pos) fl_X11_48 rfl 0 rfl dX11_work_209 ?_
  refine a_iload_n dX11_work_212 2 rfl rfl ?_
  obtain ⟨p7, hF⟩ := gd_some hF
  refine a_iald hZ.1 (s 70 0 a1.toNatClampNeg) (hZ.2 70 0 (by decide) (by decide) Nat.one_pos) rfl rfl (inb_vp p7) rfl dX11_work_213 ?_
  refine a_aload_n dX11_work_214 1 rfl rfl ?_
  refine a_getI hZ.1 (s 60 0 8) (hZ.2 60 0 (by decide) (by decide) Nat.one_pos) fl_X11_36 rfl rfl dX11_work_215 ?_
  refine a_imul dX11_work_218 ?_
  refine a_aload_n dX11_work_219 1 rfl rfl ?_
  refine a_getR hZ.1 (hZ.2 60 0 (by decide) (by decide) Nat.one_pos) fl_X11_48 rfl 0 rfl dX11_work_220 ?_
  refine a_iload_n dX11_work_223 2 rfl rfl ?_
  obtain ⟨p8, hF⟩ := gd_some hF
  refine a_iald hZ.1 (s 70 0 a1.toNatClampNeg) (hZ.2 70 0 (by decide) (by decide) Nat.one_pos) rfl rfl (inb_vp p8) rfl dX11_work_224 ?_
  refine a_iload_n dX11_work_225 0 rfl rfl ?_
  refine a_isub dX11_work_226 ?_
  refine a_aload_n dX11_work_227 1 rfl rfl ?_
  refine a_getR hZ.1 (hZ.2 60 0 (by decide) (by decide) Nat.one_pos) fl_X11_70 rfl 0 rfl dX11_work_228 ?_
  refine a_iload_n dX11_work_231 3 rfl rfl ?_
  obtain ⟨p9, hF⟩ := gd_some hF
  refine a_iald hZ.1 (s 77 0 v2.toNatClampNeg) (hZ.2 77 0 (by decide) (by decide) Nat.one_pos) rfl rfl (inb_vp p9) rfl dX11_work_232 ?_
  refine a_imul dX11_work_233 ?_
  refine a_isub dX11_work_234 ?_
  obtain ⟨r235, s235, e235, hF⟩ := bd_some hF
  refine a_invV hZ.1 (As := [.int a1, .int (((s 70 0 a1.toNatClampNeg) * (s 60 0 8)) - (((s 70 0 a1.toNatClampNeg) - x0) * (s 77 0 v2.toNatClampNeg)))]) (rest := []) (hZ.2 60 0 (by decide) (by decide) Nat.one_pos) lk_X11_191 ⟨⟨by decide, by decide⟩, by decide, by decide⟩ rfl (Nat.le_of_ble_eq_true rfl) dX11_work_235 (m_X11_earnCoin hZ  e235) ?_
  show AW Z l iX11_work (Pq (rU R)) 0 0 238 [(3, .int x0), (0, .ref (za Z 60 0)), (1, .int a1), (2, .int v2)] [] s235
  refine a_goto 330 dX11_work_238 (by decide) ?_
  replace hF := Option.some.inj hF
  subst hF
  exact a_vret rfl (Nat.zero_le _) (Nat.zero_le _) dX11_work_330 ⟨rfl, rfl⟩
set_option maxRecDepth 100000 in
set_option maxHeartbeats 4000000 in
theorem w_X11_work_95 {Z : ZE} {l : Launch} (hZ : OkM Z) {a1 : Int32}  {R : Unit × St}  (v2 : Int32)  (s : St) (hF : F_X11_work_95 (zg Z) a1 v2 s = some R) : AW Z l iX11_work (Pq (rU R)) 0 0 95 [(0, .ref (za Z 60 0)), (1, .int a1), (2, .int v2)] [] s := by
  unfold F_X11_work_95 at hF
  refine a_iload_n dX11_work_95 2 rfl rfl ?_
  refine a_ldc (v := (-1000000)) kw_951 dX11_work_96 ?_
  refine a_icmp_eq 241 dX11_work_98 (by decide) (fun q1 => ?_) (fun q1 => ?_)
  · replace hF := (if_pos q1).symm.trans hF
    refine a_loc [(0, .ref (za Z 60 0)), (1, .int a1)] [0, 1] rfl ?_
    exact w_X11_work_241 (l := l) hZ     _ hF
  · replace hF := (if_neg q1).symm.trans hF
    refine a_aload_n dX11_work_101 0 rfl rfl ?_
    refine a_getI hZ.1 (s 60 0 8) (hZ.2 60 0 (by decide) (by decide) Nat.one_pos) fl_X11_36 rfl rfl dX11_work_102 ?_
    refine a_aload_n dX11_work_105 0 rfl rfl ?_
    refine a_getR hZ.1 (hZ.2 60 0 (by decide) (by decide) Nat.one_pos) fl_X11_70 rfl 0 rfl dX11_work_106 ?_
    refine a_iload_n dX11_work_109 2 rfl rfl ?_
    obtain ⟨p2, hF⟩ := gd_some hF
    refine a_iald hZ.1 (s 77 0 v2.toNatClampNeg) (hZ.2 77 0 (by decide) (by decide) Nat.one_pos) rfl rfl (inb_vp p2) rfl dX11_work_110 ?_
    refine a_isub dX11_work_111 ?_
    refine a_aload_n dX11_work_112 0 rfl rfl ?_
    refine a_getR hZ.1 (hZ.2 60 0 (by decide) (by decide) Nat.one_pos) fl_X11_54 rfl 0 rfl dX11_work_113 ?_
    refine a_iload_n dX11_work_116 1 rfl rfl ?_
    obtain ⟨p3, hF⟩ := gd_some hF
    refine a_iald hZ.1 (s 72 0 a1.toNatClampNeg) (hZ.2 72 0 (by decide) (by decide) Nat.one_pos) rfl rfl (inb_vp p3) rfl dX11_work_117 ?_
    refine a_icmp_lt 241 dX11_work_118 (by decide) (fun q4 => ?_) (fun q4 => ?_)
    · replace hF := (if_pos q4).symm.trans hF
      refine a_loc [(0, .ref (za Z 60 0)), (1, .int a1)] [0, 1] rfl ?_
      exact w_X11_work_241 (l := l) hZ     _ hF
    · replace hF := (if_neg q4).symm.trans hF
      refine a_aload_n dX11_work_121 0 rfl rfl ?_
      refine a_getR hZ.1 (hZ.2 60 0 (by decide) (by decide) Nat.one_pos) fl_X11_60 rfl 0 rfl dX11_work_122 ?_
      refine a_iconst (v := (4 : Int32)) dX11_work_125 (by decide) ?_
      refine a_iload_n dX11_work_126 1 rfl rfl ?_
      refine a_imul dX11_work_127 ?_
      refine a_iload_n dX11_work_128 2 rfl rfl ?_
      refine a_iadd dX11_work_129 ?_
      obtain ⟨p5, hF⟩ := gd_some hF
      refine a_iald hZ.1 (s 74 0 (((4 : Int32) * a1) + v2).toNatClampNeg) (hZ.2 74 0 (by decide) (by decide) Nat.one_pos) rfl rfl (inb_vp p5) rfl dX11_work_130 ?_
      refine a_aload_n dX11_work_131 0 rfl rfl ?_
      refine a_getR hZ.1 (hZ.2 60 0 (by decide) (by decide) Nat.one_pos) fl_X11_48 rfl 0 rfl dX11_work_132 ?_
      refine a_iload_n dX11_work_135 1 rfl rfl ?_
      obtain ⟨p6, hF⟩ := gd_some hF
      refine a_iald hZ.1 (s 70 0 a1.toNatClampNeg) (hZ.2 70 0 (by decide) (by decide) Nat.one_pos) rfl rfl (inb_vp p6) rfl dX11_work_136 ?_
      refine a_icmp_ge 153 dX11_work_137 (by decide) (fun q7 => ?_) (fun q7 => ?_)
      · replace hF := (if_pos q7).symm.trans hF
        refine a_aload_n dX11_work_153 0 rfl rfl ?_
        refine a_getR hZ.1 (hZ.2 60 0 (by decide) (by decide) Nat.one_pos) fl_X11_48 rfl 0 rfl dX11_work_154 ?_
        refine a_iload_n dX11_work_157 1 rfl rfl ?_
        obtain ⟨p8, hF⟩ := gd_some hF
        refine a_iald hZ.1 (s 70 0 a1.toNatClampNeg) (hZ.2 70 0 (by decide) (by decide) Nat.one_pos) rfl rfl (inb_vp p8) rfl dX11_work_158 ?_
        exact w_X11_work_159 (l := l) hZ   v2 (s 70 0 a1.toNatClampNeg)  _ hF
      · replace hF := (if_neg q7).symm.trans hF
        refine a_aload_n dX11_work_140 0 rfl rfl ?_
        refine a_getR hZ.1 (hZ.2 60 0 (by decide) (by decide) Nat.one_pos) fl_X11_60 rfl 0 rfl dX11_work_141 ?_
        refine a_iconst (v := (4 : Int32)) dX11_work_144 (by decide) ?_
        refine a_iload_n dX11_work_145 1 rfl rfl ?_
        refine a_imul dX11_work_146 ?_
        refine a_iload_n dX11_work_147 2 rfl rfl ?_
        refine a_iadd dX11_work_148 ?_
        obtain ⟨p9, hF⟩ := gd_some hF
        refine a_iald hZ.1 (s 74 0 (((4 : Int32) * a1) + v2).toNatClampNeg) (hZ.2 74 0 (by decide) (by decide) Nat.one_pos) rfl rfl (inb_vp p9) rfl dX11_work_149 ?_
        refine a_goto 159 dX11_work_150 (by decide) ?_
        exact w_X11_work_159 (l := l) hZ   v2 (s 74 0 (((4 : Int32) * a1) + v2).toNatClampNeg)  _ hF
set_option maxRecDepth 100000 in
set_option maxHeartbeats 4000000 in
theorem w_X11_work_88 {Z : ZE} {l : Launch} (hZ : OkM Z) {a1 : Int32}  {R : Unit × St} (h5_ : Int32 → Int32 → St → Option (Unit × St)) (w5_ : ∀ (v2 : Int32) (v3 : Int32)  (s : St), h5_ v2 v3 s = some R → AW Z l iX11_work (Pq (rU R)) 0 0 5 [(0, .ref (za Z 60 0)), (1, .int a1), (2, .int v2), (3, .int v3)] [] s) (h95_ : Int32 → St → Option (Unit × St)) (w95_ : ∀ (v2 : Int32)  (s : St), h95_ v2 s = some R → AW Z l iX11_work (Pq (rU R)) 0 0 95 [(0, .ref (za Z 60 0)), (1, .int a1), (2, .int v2)] [] s) (v3 : Int32) (x0 : Int32)  (s : St) (hF : F_X11_work_88 (zg Z) a1 h5_ h95_ v3 x0 s = some R) : AW Z l iX11_work (Pq (rU R)) 0 0 88 [(0, .ref (za Z 60 0)), (1, .int a1), (3, .int v3)] [.int x0] s := by
  unfold F_X11_work_88 at hF
  refine a_istore_n [(2, .int x0), (0, .ref (za Z 60 0)), (1, .int a1), (3, .int v3)] dX11_work_88 rfl (by decide) rfl ?_
  refine a_iinc [(3, .int (v3 + 1)), (2, .int x0), (0, .ref (za Z 60 0)), (1, .int a1)] dX11_work_89 3 rfl rfl (by decide) rfl ?_
  refine a_goto 5 dX11_work_92 (by decide) ?_
  refine a_loc [(0, .ref (za Z 60 0)), (1, .int a1), (2, .int x0), (3, .int (v3 + 1))] [2, 3, 1, 0] rfl ?_
  exact w5_ x0 (v3 + 1)  _ hF
set_option maxRecDepth 100000 in
set_option maxHeartbeats 4000000 in
theorem w_X11_work_87 {Z : ZE} {l : Launch} (hZ : OkM Z) {a1 : Int32}  {R : Unit × St} (h5_ : Int32 → Int32 → St → Option (Unit × St)) (w5_ : ∀ (v2 : Int32) (v3 : Int32)  (s : St), h5_ v2 v3 s = some R → AW Z l iX11_work (Pq (rU R)) 0 0 5 [(0, .ref (za Z 60 0)), (1, .int a1), (2, .int v2), (3, .int v3)] [] s) (h95_ : Int32 → St → Option (Unit × St)) (w95_ : ∀ (v2 : Int32)  (s : St), h95_ v2 s = some R → AW Z l iX11_work (Pq (rU R)) 0 0 95 [(0, .ref (za Z 60 0)), (1, .int a1), (2, .int v2)] [] s) (v2 : Int32) (v3 : Int32)  (s : St) (hF : F_X11_work_87 (zg Z) a1 h5_ h95_ v2 v3 s = some R) : AW Z l iX11_work (Pq (rU R)) 0 0 87 [(0, .ref (za Z 60 0)), (1, .int a1), (2, .int v2), (3, .int v3)] [] s := by
  unfold F_X11_work_87 at hF
  refine a_iload_n dX11_work_87 2 rfl rfl ?_
  refine a_loc [(0, .ref (za Z 60 0)), (1, .int a1), (3, .int v3)] [0, 1, 3] rfl ?_
  exact w_X11_work_88 (l := l) hZ  h5_ w5_ h95_ w95_ v3 v2  _ hF
set_option maxRecDepth 100000 in
set_option maxHeartbeats 4000000 in
theorem w_X11_work_83 {Z : ZE} {l : Launch} (hZ : OkM Z) {a1 : Int32}  {R : Unit × St} (h5_ : Int32 → Int32 → St → Option (Unit × St)) (w5_ : ∀ (v2 : Int32) (v3 : Int32)  (s : St), h5_ v2 v3 s = some R → AW Z l iX11_work (Pq (rU R)) 0 0 5 [(0, .ref (za Z 60 0)), (1, .int a1), (2, .int v2), (3, .int v3)] [] s) (h95_ : Int32 → St → Option (Unit × St)) (w95_ : ∀ (v2 : Int32)  (s : St), h95_ v2 s = some R → AW Z l iX11_work (Pq (rU R)) 0 0 95 [(0, .ref (za Z 60 0)), (1, .int a1), (2, .int v2)] [] s) (v3 : Int32)  (s : St) (hF : F_X11_work_83 (zg Z) a1 h5_ h95_ v3 s = some R) : AW Z l iX11_work (Pq (rU R)) 0 0 83 [(0, .ref (za Z 60 0)), (1, .int a1), (3, .int v3)] [] s := by
  unfold F_X11_work_83 at hF
  refine a_iload_n dX11_work_83 2 rfl rfl ?_
  refine a_goto 88 dX11_work_84 (by decide) ?_
  exact w_X11_work_88 (l := l) hZ  h5_ w5_ h95_ w95_ v3 v3  _ hF
set_option maxRecDepth 100000 in
set_option maxHeartbeats 4000000 in
theorem w_X11_work_55 {Z : ZE} {l : Launch} (hZ : OkM Z) {a1 : Int32}  {R : Unit × St} (h5_ : Int32 → Int32 → St → Option (Unit × St)) (w5_ : ∀ (v2 : Int32) (v3 : Int32)  (s : St), h5_ v2 v3 s = some R → AW Z l iX11_work (Pq (rU R)) 0 0 5 [(0, .ref (za Z 60 0)), (1, .int a1), (2, .int v2), (3, .int v3)] [] s) (h95_ : Int32 → St → Option (Unit × St)) (w95_ : ∀ (v2 : Int32)  (s : St), h95_ v2 s = some R → AW Z l iX11_work (Pq (rU R)) 0 0 95 [(0, .ref (za Z 60 0)), (1, .int a1), (2, .int v2)] [] s) (v2 : Int32) (v3 : Int32) (x0 : Int32)  (s : St) (hF : F_X11_work_55 (zg Z) a1 h5_ h95_ v2 v3 x0 s = some R) : AW Z l iX11_work (Pq (rU R)) 0 0 55 [(0, .ref (za Z 60 0)), (1, .int a1), (2, .int v2), (3, .int v3)] [.int x0] s := by
  unfold F_X11_work_55 at hF
  refine a_istore [(4, .int x0), (0, .ref (za Z 60 0)), (1, .int a1), (2, .int v2), (3, .int v3)] dX11_work_55 (by decide) rfl ?_
  refine a_iload dX11_work_57 0 rfl ?_
  refine a_if_eq 87 dX11_work_59 (by decide) (fun q1 => ?_) (fun q1 => ?_)
  · replace hF := (if_pos q1).symm.trans hF
    refine a_loc [(0, .ref (za Z 60 0)), (1, .int a1), (2, .int v2), (3, .int v3)] [1, 2, 3, 4] rfl ?_
    exact w_X11_work_87 (l := l) hZ  h5_ w5_ h95_ w95_ v2 v3  _ hF
  · replace hF := (if_neg q1).symm.trans hF
    refine a_iload_n dX11_work_62 3 rfl rfl ?_
    refine a_ldc (v := (-1000000)) kw_951 dX11_work_63 ?_
    refine a_icmp_eq 83 dX11_work_65 (by decide) (fun q2 => ?_) (fun q2 => ?_)
    · replace hF := (if_pos q2).symm.trans hF
      refine a_loc [(0, .ref (za Z 60 0)), (1, .int a1), (3, .int v3)] [1, 2, 4] rfl ?_
      exact w_X11_work_83 (l := l) hZ  h5_ w5_ h95_ w95_ v3  _ hF
    · replace hF := (if_neg q2).symm.trans hF
      refine a_aload_n dX11_work_68 1 rfl rfl ?_
      refine a_getR hZ.1 (hZ.2 60 0 (by decide) (by decide) Nat.one_pos) fl_X11_70 rfl 0 rfl dX11_work_69 ?_
      refine a_iload_n dX11_work_72 4 rfl rfl ?_
      obtain ⟨p3, hF⟩ := gd_some hF
      refine a_iald hZ.1 (s 77 0 v3.toNatClampNeg) (hZ.2 77 0 (by decide) (by decide) Nat.one_pos) rfl rfl (inb_vp p3) rfl dX11_work_73 ?_
      refine a_aload_n dX11_work_74 1 rfl rfl ?_
      refine a_getR hZ.1 (hZ.2 60 0 (by decide) (by decide) Nat.one_pos) fl_X11_70 rfl 0 rfl dX11_work_75 ?_
      refine a_iload_n dX11_work_78 3 rfl rfl ?_
      obtain ⟨p4, hF⟩ := gd_some hF
      refine a_iald hZ.1 (s 77 0 v2.toNatClampNeg) (hZ.2 77 0 (by decide) (by decide) Nat.one_pos) rfl rfl (inb_vp p4) rfl dX11_work_79 ?_
      refine a_icmp_ge 87 dX11_work_80 (by decide) (fun q5 => ?_) (fun q5 => ?_)
      · replace hF := (if_pos q5).symm.trans hF
        refine a_loc [(0, .ref (za Z 60 0)), (1, .int a1), (2, .int v2), (3, .int v3)] [1, 2, 3, 4] rfl ?_
        exact w_X11_work_87 (l := l) hZ  h5_ w5_ h95_ w95_ v2 v3  _ hF
      · replace hF := (if_neg q5).symm.trans hF
        refine a_loc [(0, .ref (za Z 60 0)), (1, .int a1), (3, .int v3)] [1, 2, 4] rfl ?_
        exact w_X11_work_83 (l := l) hZ  h5_ w5_ h95_ w95_ v3  _ hF
set_option maxRecDepth 100000 in
set_option maxHeartbeats 4000000 in
theorem w_X11_work_54 {Z : ZE} {l : Launch} (hZ : OkM Z) {a1 : Int32}  {R : Unit × St} (h5_ : Int32 → Int32 → St → Option (Unit × St)) (w5_ : ∀ (v2 : Int32) (v3 : Int32)  (s : St), h5_ v2 v3 s = some R → AW Z l iX11_work (Pq (rU R)) 0 0 5 [(0, .ref (za Z 60 0)), (1, .int a1), (2, .int v2), (3, .int v3)] [] s) (h95_ : Int32 → St → Option (Unit × St)) (w95_ : ∀ (v2 : Int32)  (s : St), h95_ v2 s = some R → AW Z l iX11_work (Pq (rU R)) 0 0 95 [(0, .ref (za Z 60 0)), (1, .int a1), (2, .int v2)] [] s) (v2 : Int32) (v3 : Int32)  (s : St) (hF : F_X11_work_54 (zg Z) a1 h5_ h95_ v2 v3 s = some R) : AW Z l iX11_work (Pq (rU R)) 0 0 54 [(0, .ref (za Z 60 0)), (1, .int a1), (2, .int v2), (3, .int v3)] [] s := by
  unfold F_X11_work_54 at hF
  refine a_iconst (v := (0 : Int32)) dX11_work_54 (by decide) ?_
  exact w_X11_work_55 (l := l) hZ  h5_ w5_ h95_ w95_ v2 v3 (0 : Int32)  _ hF
set_option maxRecDepth 100000 in
set_option maxHeartbeats 4000000 in
theorem w_X11_work_5 {Z : ZE} {l : Launch} (hZ : OkM Z) {a1 : Int32}  {R : Unit × St} (h95_ : Int32 → St → Option (Unit × St)) (w95_ : ∀ (v2 : Int32)  (s : St), h95_ v2 s = some R → AW Z l iX11_work (Pq (rU R)) 0 0 95 [(0, .ref (za Z 60 0)), (1, .int a1), (2, .int v2)] [] s) : ∀ (n_ : Nat) (v2 : Int32) (v3 : Int32)  (s : St), F_X11_work_5 (zg Z) a1 h95_ n_ v2 v3 s = some R → AW Z l iX11_work (Pq (rU R)) 0 0 5 [(0, .ref (za Z 60 0)), (1, .int a1), (2, .int v2), (3, .int v3)] [] s := by
  intro n_
  induction n_ with
  | zero =>
    intro v2 v3 s hF
    exact absurd hF (by rw [F_X11_work_5]; exact fun q => by cases q)
  | succ n_ w5_ =>
    intro v2 v3 s hF
    rw [F_X11_work_5] at hF
    refine a_iload_n dX11_work_5 3 rfl rfl ?_
    refine a_iconst (v := (4 : Int32)) dX11_work_6 (by decide) ?_
    refine a_icmp_ge 95 dX11_work_7 (by decide) (fun q1 => ?_) (fun q1 => ?_)
    · replace hF := (if_pos q1).symm.trans hF
      refine a_loc [(0, .ref (za Z 60 0)), (1, .int a1), (2, .int v2)] [0, 1, 2] rfl ?_
      exact w95_ v2  _ hF
    · replace hF := (if_neg q1).symm.trans hF
      refine a_aload_n dX11_work_10 0 rfl rfl ?_
      refine a_getR hZ.1 (hZ.2 60 0 (by decide) (by decide) Nat.one_pos) fl_X11_51 rfl 0 rfl dX11_work_11 ?_
      refine a_iload_n dX11_work_14 1 rfl rfl ?_
      obtain ⟨p2, hF⟩ := gd_some hF
      refine a_iald hZ.1 (s 71 0 a1.toNatClampNeg) (hZ.2 71 0 (by decide) (by decide) Nat.one_pos) rfl rfl (inb_vp p2) rfl dX11_work_15 ?_
      refine a_iload_n dX11_work_16 3 rfl rfl ?_
      refine a_ishr dX11_work_17 ?_
      refine a_iconst (v := (1 : Int32)) dX11_work_18 (by decide) ?_
      refine a_iand dX11_work_19 ?_
      refine a_iconst (v := (1 : Int32)) dX11_work_20 (by decide) ?_
      refine a_icmp_ne 54 dX11_work_21 (by decide) (fun q3 => ?_) (fun q3 => ?_)
      · replace hF := (if_neg q3).symm.trans hF
        exact w_X11_work_54 (l := l) hZ  (F_X11_work_5 (zg Z) a1 h95_ n_) w5_ h95_ w95_ v2 v3  _ hF
      · replace hF := (if_pos q3).symm.trans hF
        refine a_aload_n dX11_work_24 0 rfl rfl ?_
        refine a_getR hZ.1 (hZ.2 60 0 (by decide) (by decide) Nat.one_pos) fl_X11_60 rfl 0 rfl dX11_work_25 ?_
        refine a_iconst (v := (4 : Int32)) dX11_work_28 (by decide) ?_
        refine a_iload_n dX11_work_29 1 rfl rfl ?_
        refine a_imul dX11_work_30 ?_
        refine a_iload_n dX11_work_31 3 rfl rfl ?_
        refine a_iadd dX11_work_32 ?_
        obtain ⟨p4, hF⟩ := gd_some hF
        refine a_iald hZ.1 (s 74 0 (((4 : Int32) * a1) + v3).toNatClampNeg) (hZ.2 74 0 (by decide) (by decide) Nat.one_pos) rfl rfl (inb_vp p4) rfl dX11_work_33 ?_
        refine a_aload_n dX11_work_34 0 rfl rfl ?_
        refine a_getR hZ.1 (hZ.2 60 0 (by decide) (by decide) Nat.one_pos) fl_X11_33 rfl 0 rfl dX11_work_35 ?_
        refine a_iload_n dX11_work_38 3 rfl rfl ?_
        obtain ⟨p5, hF⟩ := gd_some hF
        refine a_iald hZ.1 (s 66 0 v3.toNatClampNeg) (hZ.2 66 0 (by decide) (by decide) Nat.one_pos) rfl rfl (inb_vp p5) rfl dX11_work_39 ?_
        refine a_iadd dX11_work_40 ?_
        refine a_aload_n dX11_work_41 0 rfl rfl ?_
        refine a_getR hZ.1 (hZ.2 60 0 (by decide) (by decide) Nat.one_pos) fl_X11_48 rfl 0 rfl dX11_work_42 ?_
        refine a_iload_n dX11_work_45 1 rfl rfl ?_
        obtain ⟨p6, hF⟩ := gd_some hF
        refine a_iald hZ.1 (s 70 0 a1.toNatClampNeg) (hZ.2 70 0 (by decide) (by decide) Nat.one_pos) rfl rfl (inb_vp p6) rfl dX11_work_46 ?_
        refine a_icmp_lt 54 dX11_work_47 (by decide) (fun q7 => ?_) (fun q7 => ?_)
        · replace hF := (if_pos q7).symm.trans hF
          exact w_X11_work_54 (l := l) hZ  (F_X11_work_5 (zg Z) a1 h95_ n_) w5_ h95_ w95_ v2 v3  _ hF
        · replace hF := (if_neg q7).symm.trans hF
          refine a_iconst (v := (1 : Int32)) dX11_work_50 (by decide) ?_
          refine a_goto 55 dX11_work_51 (by decide) ?_
          exact w_X11_work_55 (l := l) hZ  (F_X11_work_5 (zg Z) a1 h95_ n_) w5_ h95_ w95_ v2 v3 (1 : Int32)  _ hF
set_option maxRecDepth 100000 in
set_option maxHeartbeats 4000000 in
theorem w_X11_work {Z : ZE} {l : Launch} (hZ : OkM Z) {a1 : Int32}  {R : Unit × St}    (s : St) (hF : F_X11_work (zg Z) a1  s = some R) : AW Z l iX11_work (Pq (rU R)) 0 0 0 [(0, .ref (za Z 60 0)), (1, .int a1)] [] s := by
  unfold F_X11_work at hF
  refine a_ldc (v := (-1000000)) kw_951 dX11_work_0 ?_
  refine a_istore_n [(2, .int (-1000000)), (0, .ref (za Z 60 0)), (1, .int a1)] dX11_work_2 rfl (by decide) rfl ?_
  refine a_iconst (v := (0 : Int32)) dX11_work_3 (by decide) ?_
  refine a_istore_n [(3, .int (0 : Int32)), (2, .int (-1000000)), (0, .ref (za Z 60 0)), (1, .int a1)] dX11_work_4 rfl (by decide) rfl ?_
  refine a_loc [(0, .ref (za Z 60 0)), (1, .int a1), (2, .int (-1000000)), (3, .int (0 : Int32))] [2, 3, 1, 0] rfl ?_
  exact w_X11_work_5 (l := l) hZ  (F_X11_work_95 (zg Z) a1 ) (w_X11_work_95 (l := l) hZ  ) fu (-1000000) (0 : Int32)  _ hF
theorem m_X11_work {Z : ZE} {l : Launch} (hZ : OkM Z) {a1 : Int32}  {s : St} {R : Unit × St} (hF : F_X11_work (zg Z) a1 s = some R) : Sp Z l yX11_work iX11_work [.ref (za Z 60 0), .int a1] s (rU R) :=
  Sp.of (by decide) rfl (Nat.le_of_ble_eq_true rfl) (w_X11_work hZ  s hF)
