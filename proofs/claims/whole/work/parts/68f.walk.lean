-- X11_sizeBy
set_option maxRecDepth 100000 in
set_option maxHeartbeats 4000000 in
theorem w_X11_sizeBy_112 {Z : ZE} {l : Launch} (hZ : OkM Z) {a1 : Int32}  {R : Int32 × St}  (v2 : Int32) (x0 : Int32) (x1 : Int32)  (s : St) (hF : F_X11_sizeBy_112 (zg Z) a1 v2 x0 x1 s = some R) : AW Z l iX11_sizeBy (Pq (rI R)) 0 0 112 [(2, .int v2)] [.int x1, .int x0] s := by
  unfold F_X11_sizeBy_112 at hF
  refine a_iadd dX11_sizeBy_112 ?_
  refine a_istore_n [(3, .int (x0 + x1)), (2, .int v2)] dX11_sizeBy_113 rfl (by decide) rfl ?_
  refine a_iload_n dX11_sizeBy_114 1 rfl rfl ?_
  refine a_iconst (v := (3 : Int32)) dX11_sizeBy_115 (by decide) ?_
  refine a_icmp_ne 125 dX11_sizeBy_116 (by decide) (fun q1 => ?_) (fun q1 => ?_)
  · replace hF := (if_neg q1).symm.trans hF
    refine a_iload_n dX11_sizeBy_125 0 rfl rfl ?_
    replace hF := Option.some.inj hF
    subst hF
    exact a_iret rfl (Nat.zero_le _) (Nat.zero_le _) dX11_sizeBy_126 ⟨rfl, rfl⟩
  · replace hF := (if_pos q1).symm.trans hF
    refine a_iconst (v := (2 : Int32)) dX11_sizeBy_119 (by decide) ?_
    refine a_iload_n dX11_sizeBy_120 0 rfl rfl ?_
    refine a_imul dX11_sizeBy_121 ?_
    refine a_goto 126 dX11_sizeBy_122 (by decide) ?_
    replace hF := Option.some.inj hF
    subst hF
    exact a_iret rfl (Nat.zero_le _) (Nat.zero_le _) dX11_sizeBy_126 ⟨rfl, rfl⟩
set_option maxRecDepth 100000 in
set_option maxHeartbeats 4000000 in
theorem w_X11_sizeBy_86 {Z : ZE} {l : Launch} (hZ : OkM Z) {a1 : Int32}  {R : Int32 × St}  (v2 : Int32) (x0 : Int32) (x1 : Int32)  (s : St) (hF : F_X11_sizeBy_86 (zg Z) a1 v2 x0 x1 s = some R) : AW Z l iX11_sizeBy (Pq (rI R)) 0 0 86 [(0, .ref (za Z 60 0)), (1, .int a1), (2, .int v2)] [.int x1, .int x0] s := by
  unfold F_X11_sizeBy_86 at hF
  refine a_iadd dX11_sizeBy_86 ?_
  refine a_istore_n [(3, .int (x0 + x1)), (0, .ref (za Z 60 0)), (1, .int a1), (2, .int v2)] dX11_sizeBy_87 rfl (by decide) rfl ?_
  refine a_iload_n dX11_sizeBy_88 0 rfl rfl ?_
  refine a_iload_n dX11_sizeBy_89 3 rfl rfl ?_
  refine a_iconst (v := (2 : Int32)) dX11_sizeBy_90 (by decide) ?_
  obtain ⟨r91, s91, e91, hF⟩ := bd_some hF
  refine a_invS hZ.1 (As := [.int v2, .int (2 : Int32)]) (rest := [.int (x0 + x1)]) lk_X11_337 ⟨⟨by decide, by decide⟩, by decide, by decide⟩ rfl (Nat.le_of_ble_eq_true rfl) dX11_sizeBy_91 (m_X11_isOf hZ  e91) ?_
  show AW Z l iX11_sizeBy (Pq (rI R)) 0 0 94 [(3, .int (x0 + x1)), (0, .ref (za Z 60 0)), (1, .int a1), (2, .int v2)] [.int r91, .int (x0 + x1)] s91
  refine a_if_eq 111 dX11_sizeBy_94 (by decide) (fun q1 => ?_) (fun q1 => ?_)
  · replace hF := (if_pos q1).symm.trans hF
    refine a_iconst (v := (0 : Int32)) dX11_sizeBy_111 (by decide) ?_
    refine a_loc [(2, .int v2)] [3] rfl ?_
    exact w_X11_sizeBy_112 (l := l) hZ   v2 (x0 + x1) (0 : Int32)  _ hF
  · replace hF := (if_neg q1).symm.trans hF
    refine a_aload_n dX11_sizeBy_97 1 rfl rfl ?_
    refine a_getR hZ.1 (hZ.2 60 0 (by decide) (by decide) Nat.one_pos) fl_X11_106 rfl 0 rfl dX11_sizeBy_98 ?_
    refine a_aload_n dX11_sizeBy_101 1 rfl rfl ?_
    refine a_getR hZ.1 (hZ.2 60 0 (by decide) (by decide) Nat.one_pos) fl_X11_109 rfl 0 rfl dX11_sizeBy_102 ?_
    refine a_iload_n dX11_sizeBy_105 2 rfl rfl ?_
    obtain ⟨p2, hF⟩ := gd_some hF
    refine a_iald hZ.1 (s91 90 0 a1.toNatClampNeg) (hZ.2 90 0 (by decide) (by decide) Nat.one_pos) rfl rfl (inb_vp p2) rfl dX11_sizeBy_106 ?_
    obtain ⟨p3, hF⟩ := gd_some hF
    refine a_iald hZ.1 (s91 89 0 (s91 90 0 a1.toNatClampNeg).toNatClampNeg) (hZ.2 89 0 (by decide) (by decide) Nat.one_pos) rfl rfl (inb_vp p3) rfl dX11_sizeBy_107 ?_
    refine a_goto 112 dX11_sizeBy_108 (by decide) ?_
    refine a_loc [(2, .int v2)] [3] rfl ?_
    exact w_X11_sizeBy_112 (l := l) hZ   v2 (x0 + x1) (s91 89 0 (s91 90 0 a1.toNatClampNeg).toNatClampNeg)  _ hF
set_option maxRecDepth 100000 in
set_option maxHeartbeats 4000000 in
theorem w_X11_sizeBy_57 {Z : ZE} {l : Launch} (hZ : OkM Z) {a1 : Int32}  {R : Int32 × St}  (v2 : Int32)  (s : St) (hF : F_X11_sizeBy_57 (zg Z) a1 v2 s = some R) : AW Z l iX11_sizeBy (Pq (rI R)) 0 0 57 [(0, .ref (za Z 60 0)), (1, .int a1), (2, .int v2)] [] s := by
  unfold F_X11_sizeBy_57 at hF
  refine a_aload_n dX11_sizeBy_57 0 rfl rfl ?_
  refine a_bipush (v := (10 : Int32)) dX11_sizeBy_58 (by decide) ?_
  obtain ⟨r60, s60, e60, hF⟩ := bd_some hF
  refine a_invV hZ.1 (As := [.int (10 : Int32)]) (rest := []) (hZ.2 60 0 (by decide) (by decide) Nat.one_pos) lk_X11_344 ⟨⟨by decide, by decide⟩, by decide, by decide⟩ rfl (Nat.le_of_ble_eq_true rfl) dX11_sizeBy_60 (m_X11_began hZ  e60) ?_
  show AW Z l iX11_sizeBy (Pq (rI R)) 0 0 63 [(0, .ref (za Z 60 0)), (1, .int a1), (2, .int v2)] [] s60
  refine a_aload_n dX11_sizeBy_63 0 rfl rfl ?_
  refine a_getR hZ.1 (hZ.2 60 0 (by decide) (by decide) Nat.one_pos) fl_X11_106 rfl 0 rfl dX11_sizeBy_64 ?_
  refine a_iload_n dX11_sizeBy_67 1 rfl rfl ?_
  obtain ⟨p1, hF⟩ := gd_some hF
  refine a_iald hZ.1 (s60 89 0 a1.toNatClampNeg) (hZ.2 89 0 (by decide) (by decide) Nat.one_pos) rfl rfl (inb_vp p1) rfl dX11_sizeBy_68 ?_
  refine a_iload_n dX11_sizeBy_69 2 rfl rfl ?_
  refine a_iconst (v := (1 : Int32)) dX11_sizeBy_70 (by decide) ?_
  obtain ⟨r71, s71, e71, hF⟩ := bd_some hF
  refine a_invS hZ.1 (As := [.int v2, .int (1 : Int32)]) (rest := [.int (s60 89 0 a1.toNatClampNeg)]) lk_X11_337 ⟨⟨by decide, by decide⟩, by decide, by decide⟩ rfl (Nat.le_of_ble_eq_true rfl) dX11_sizeBy_71 (m_X11_isOf hZ  e71) ?_
  show AW Z l iX11_sizeBy (Pq (rI R)) 0 0 74 [(0, .ref (za Z 60 0)), (1, .int a1), (2, .int v2)] [.int r71, .int (s60 89 0 a1.toNatClampNeg)] s71
  refine a_if_eq 85 dX11_sizeBy_74 (by decide) (fun q2 => ?_) (fun q2 => ?_)
  · replace hF := (if_pos q2).symm.trans hF
    refine a_iconst (v := (0 : Int32)) dX11_sizeBy_85 (by decide) ?_
    exact w_X11_sizeBy_86 (l := l) hZ   v2 (s60 89 0 a1.toNatClampNeg) (0 : Int32)  _ hF
  · replace hF := (if_neg q2).symm.trans hF
    refine a_aload_n dX11_sizeBy_77 0 rfl rfl ?_
    refine a_iload_n dX11_sizeBy_78 1 rfl rfl ?_
    obtain ⟨r79, s79, e79, hF⟩ := bd_some hF
    refine a_invV hZ.1 (As := [.int a1]) (rest := [.int (s60 89 0 a1.toNatClampNeg)]) (hZ.2 60 0 (by decide) (by decide) Nat.one_pos) lk_X11_350 ⟨⟨by decide, by decide⟩, by decide, by decide⟩ rfl (Nat.le_of_ble_eq_true rfl) dX11_sizeBy_79 (m_X11_markOf hZ  e79) ?_
    show AW Z l iX11_sizeBy (Pq (rI R)) 0 0 82 [(0, .ref (za Z 60 0)), (1, .int a1), (2, .int v2)] [.int r79, .int (s60 89 0 a1.toNatClampNeg)] s79
    refine a_goto 86 dX11_sizeBy_82 (by decide) ?_
    exact w_X11_sizeBy_86 (l := l) hZ   v2 (s60 89 0 a1.toNatClampNeg) r79  _ hF
set_option maxRecDepth 100000 in
set_option maxHeartbeats 4000000 in
theorem w_X11_sizeBy_43 {Z : ZE} {l : Launch} (hZ : OkM Z) {a1 : Int32}  {R : Int32 × St}  (v2 : Int32)  (s : St) (hF : F_X11_sizeBy_43 (zg Z) a1 v2 s = some R) : AW Z l iX11_sizeBy (Pq (rI R)) 0 0 43 [(0, .ref (za Z 60 0)), (1, .int a1), (2, .int v2)] [] s := by
  unfold F_X11_sizeBy_43 at hF
  refine a_iload_n dX11_sizeBy_43 2 rfl rfl ?_
  refine a_iconst (v := (1 : Int32)) dX11_sizeBy_44 (by decide) ?_
  obtain ⟨r45, s45, e45, hF⟩ := bd_some hF
  refine a_invS hZ.1 (As := [.int v2, .int (1 : Int32)]) (rest := []) lk_X11_337 ⟨⟨by decide, by decide⟩, by decide, by decide⟩ rfl (Nat.le_of_ble_eq_true rfl) dX11_sizeBy_45 (m_X11_isOf hZ  e45) ?_
  show AW Z l iX11_sizeBy (Pq (rI R)) 0 0 48 [(0, .ref (za Z 60 0)), (1, .int a1), (2, .int v2)] [.int r45] s45
  refine a_if_eq 57 dX11_sizeBy_48 (by decide) (fun q1 => ?_) (fun q1 => ?_)
  · replace hF := (if_pos q1).symm.trans hF
    exact w_X11_sizeBy_57 (l := l) hZ   v2  _ hF
  · replace hF := (if_neg q1).symm.trans hF
    refine a_aload_n dX11_sizeBy_51 0 rfl rfl ?_
    refine a_bipush (v := (11 : Int32)) dX11_sizeBy_52 (by decide) ?_
    obtain ⟨r54, s54, e54, hF⟩ := bd_some hF
    refine a_invV hZ.1 (As := [.int (11 : Int32)]) (rest := []) (hZ.2 60 0 (by decide) (by decide) Nat.one_pos) lk_X11_344 ⟨⟨by decide, by decide⟩, by decide, by decide⟩ rfl (Nat.le_of_ble_eq_true rfl) dX11_sizeBy_54 (m_X11_began hZ  e54) ?_
    show AW Z l iX11_sizeBy (Pq (rI R)) 0 0 57 [(0, .ref (za Z 60 0)), (1, .int a1), (2, .int v2)] [] s54
    exact w_X11_sizeBy_57 (l := l) hZ   v2  _ hF
set_option maxRecDepth 100000 in
set_option maxHeartbeats 4000000 in
theorem w_X11_sizeBy_29 {Z : ZE} {l : Launch} (hZ : OkM Z) {a1 : Int32}  {R : Int32 × St}  (v2 : Int32)  (s : St) (hF : F_X11_sizeBy_29 (zg Z) a1 v2 s = some R) : AW Z l iX11_sizeBy (Pq (rI R)) 0 0 29 [(0, .ref (za Z 60 0)), (1, .int a1), (2, .int v2)] [] s := by
  unfold F_X11_sizeBy_29 at hF
  refine a_iload_n dX11_sizeBy_29 2 rfl rfl ?_
  refine a_iconst (v := (2 : Int32)) dX11_sizeBy_30 (by decide) ?_
  obtain ⟨r31, s31, e31, hF⟩ := bd_some hF
  refine a_invS hZ.1 (As := [.int v2, .int (2 : Int32)]) (rest := []) lk_X11_337 ⟨⟨by decide, by decide⟩, by decide, by decide⟩ rfl (Nat.le_of_ble_eq_true rfl) dX11_sizeBy_31 (m_X11_isOf hZ  e31) ?_
  show AW Z l iX11_sizeBy (Pq (rI R)) 0 0 34 [(0, .ref (za Z 60 0)), (1, .int a1), (2, .int v2)] [.int r31] s31
  refine a_if_eq 43 dX11_sizeBy_34 (by decide) (fun q1 => ?_) (fun q1 => ?_)
  · replace hF := (if_pos q1).symm.trans hF
    exact w_X11_sizeBy_43 (l := l) hZ   v2  _ hF
  · replace hF := (if_neg q1).symm.trans hF
    refine a_aload_n dX11_sizeBy_37 0 rfl rfl ?_
    refine a_bipush (v := (12 : Int32)) dX11_sizeBy_38 (by decide) ?_
    obtain ⟨r40, s40, e40, hF⟩ := bd_some hF
    refine a_invV hZ.1 (As := [.int (12 : Int32)]) (rest := []) (hZ.2 60 0 (by decide) (by decide) Nat.one_pos) lk_X11_344 ⟨⟨by decide, by decide⟩, by decide, by decide⟩ rfl (Nat.le_of_ble_eq_true rfl) dX11_sizeBy_40 (m_X11_began hZ  e40) ?_
    show AW Z l iX11_sizeBy (Pq (rI R)) 0 0 43 [(0, .ref (za Z 60 0)), (1, .int a1), (2, .int v2)] [] s40
    exact w_X11_sizeBy_43 (l := l) hZ   v2  _ hF
set_option maxRecDepth 100000 in
set_option maxHeartbeats 4000000 in
theorem w_X11_sizeBy {Z : ZE} {l : Launch} (hZ : OkM Z) {a1 : Int32}  {R : Int32 × St}    (s : St) (hF : F_X11_sizeBy (zg Z) a1  s = some R) : AW Z l iX11_sizeBy (Pq (rI R)) 0 0 0 [(0, .ref (za Z 60 0)), (1, .int a1)] [] s := by
  unfold F_X11_sizeBy at hF
  refine a_aload_n dX11_sizeBy_0 0 rfl rfl ?_
  refine a_getR hZ.1 (hZ.2 60 0 (by decide) (by decide) Nat.one_pos) fl_X11_103 rfl 0 rfl dX11_sizeBy_1 ?_
  refine a_iload_n dX11_sizeBy_4 1 rfl rfl ?_
  obtain ⟨p1, hF⟩ := gd_some hF
  refine a_iald hZ.1 (s 88 0 a1.toNatClampNeg) (hZ.2 88 0 (by decide) (by decide) Nat.one_pos) rfl rfl (inb_vp p1) rfl dX11_sizeBy_5 ?_
  refine a_istore_n [(2, .int (s 88 0 a1.toNatClampNeg)), (0, .ref (za Z 60 0)), (1, .int a1)] dX11_sizeBy_6 rfl (by decide) rfl ?_
  refine a_iload_n dX11_sizeBy_7 0 rfl rfl ?_
  refine a_iconst (v := (5 : Int32)) dX11_sizeBy_8 (by decide) ?_
  refine a_icmp_ne 18 dX11_sizeBy_9 (by decide) (fun q2 => ?_) (fun q2 => ?_)
  · replace hF := (if_neg q2).symm.trans hF
    refine a_iload_n dX11_sizeBy_18 0 rfl rfl ?_
    refine a_iconst (v := (3 : Int32)) dX11_sizeBy_19 (by decide) ?_
    refine a_icmp_ne 29 dX11_sizeBy_20 (by decide) (fun q3 => ?_) (fun q3 => ?_)
    · replace hF := (if_neg q3).symm.trans hF
      refine a_loc [(0, .ref (za Z 60 0)), (1, .int a1), (2, .int (s 88 0 a1.toNatClampNeg))] [1, 2, 0] rfl ?_
      exact w_X11_sizeBy_29 (l := l) hZ   (s 88 0 a1.toNatClampNeg)  _ hF
    · replace hF := (if_pos q3).symm.trans hF
      refine a_aload_n dX11_sizeBy_23 1 rfl rfl ?_
      refine a_bipush (v := (13 : Int32)) dX11_sizeBy_24 (by decide) ?_
      obtain ⟨r26, s26, e26, hF⟩ := bd_some hF
      refine a_invV hZ.1 (As := [.int (13 : Int32)]) (rest := []) (hZ.2 60 0 (by decide) (by decide) Nat.one_pos) lk_X11_344 ⟨⟨by decide, by decide⟩, by decide, by decide⟩ rfl (Nat.le_of_ble_eq_true rfl) dX11_sizeBy_26 (m_X11_began hZ  e26) ?_
      show AW Z l iX11_sizeBy (Pq (rI R)) 0 0 29 [(2, .int (s 88 0 a1.toNatClampNeg)), (0, .ref (za Z 60 0)), (1, .int a1)] [] s26
      refine a_loc [(0, .ref (za Z 60 0)), (1, .int a1), (2, .int (s 88 0 a1.toNatClampNeg))] [1, 2, 0] rfl ?_
      exact w_X11_sizeBy_29 (l := l) hZ   (s 88 0 a1.toNatClampNeg)  _ hF
  · replace hF := (if_pos q2).symm.trans hF
    refine a_aload_n dX11_sizeBy_12 1 rfl rfl ?_
    refine a_iload_n dX11_sizeBy_13 2 rfl rfl ?_
    obtain ⟨r14, s14, e14, hF⟩ := bd_some hF
    refine a_invV hZ.1 (As := [.int a1]) (rest := []) (hZ.2 60 0 (by decide) (by decide) Nat.one_pos) lk_X11_347 ⟨⟨by decide, by decide⟩, by decide, by decide⟩ rfl (Nat.le_of_ble_eq_true rfl) dX11_sizeBy_14 (m_X11_loanSize hZ  e14) ?_
    show AW Z l iX11_sizeBy (Pq (rI R)) 0 0 17 [(2, .int (s 88 0 a1.toNatClampNeg)), (0, .ref (za Z 60 0)), (1, .int a1)] [.int r14] s14
    replace hF := Option.some.inj hF
    subst hF
    exact a_iret rfl (Nat.zero_le _) (Nat.zero_le _) dX11_sizeBy_17 ⟨rfl, rfl⟩
theorem m_X11_sizeBy {Z : ZE} {l : Launch} (hZ : OkM Z) {a1 : Int32}  {s : St} {R : Int32 × St} (hF : F_X11_sizeBy (zg Z) a1 s = some R) : Sp Z l yX11_sizeBy iX11_sizeBy [.ref (za Z 60 0), .int a1] s (rI R) :=
  Sp.of (by decide) rfl (Nat.le_of_ble_eq_true rfl) (w_X11_sizeBy hZ  s hF)
-- X11_ask
set_option maxRecDepth 100000 in
set_option maxHeartbeats 4000000 in
theorem w_X11_ask {Z : ZE} {l : Launch} (hZ : OkM Z) {a1 : Int32} {a2 : Int32}  {R : Int32 × St}    (s : St) (hF : F_X11_ask (zg Z) a1 a2  s = some R) : AW Z l iX11_ask (Pq (rI R)) 0 0 0 [(0, .ref (za Z 60 0)), (1, .int a1), (2, .int a2)] [] s := by
  unfold F_X11_ask at hF
  refine a_aload_n dX11_ask_0 0 rfl rfl ?_
  refine a_iconst (v := (0 : Int32)) dX11_ask_1 (by decide) ?_
  refine a_put hZ.1 (hZ.2 60 0 (by decide) (by decide) Nat.one_pos) fl_X11_1 rfl rfl rfl dX11_ask_2 ?_
  refine a_aload_n dX11_ask_5 0 rfl rfl ?_
  refine a_iload_n dX11_ask_6 1 rfl rfl ?_
  obtain ⟨r7, s7, e7, hF⟩ := bd_some hF
  refine a_invV hZ.1 (As := [.int a1]) (rest := []) (hZ.2 60 0 (by decide) (by decide) Nat.one_pos) lk_X11_329 ⟨⟨by decide, by decide⟩, by decide, by decide⟩ rfl (Nat.le_of_ble_eq_true rfl) dX11_ask_7 (m_X11_isThing hZ  e7) ?_
  show AW Z l iX11_ask (Pq (rI R)) 0 0 10 [(0, .ref (za Z 60 0)), (1, .int a1), (2, .int a2)] [.int r7] s7
  refine a_if_eq 23 dX11_ask_10 (by decide) (fun q1 => ?_) (fun q1 => ?_)
  · replace hF := (if_pos q1).symm.trans hF
    refine a_ldc (v := (-1000001)) kw_1136 dX11_ask_23 ?_
    replace hF := Option.some.inj hF
    subst hF
    exact a_iret rfl (Nat.zero_le _) (Nat.zero_le _) dX11_ask_25 ⟨rfl, rfl⟩
  · replace hF := (if_neg q1).symm.trans hF
    refine a_iload_n dX11_ask_13 2 rfl rfl ?_
    refine a_i2l dX11_ask_14 ?_
    refine a_lconst (v := (0 : Int64)) dX11_ask_15 (by decide) ?_
    refine a_lconst (v := (1 : Int64)) dX11_ask_16 (by decide) ?_
    obtain ⟨r17, s17, e17, hF⟩ := bd_some hF
    refine a_invS hZ.1 (As := [.long a2.toInt64, .long (0 : Int64), .long (1 : Int64)]) (rest := []) lk_X11_126 ⟨⟨by decide, by decide⟩, by decide, by decide⟩ rfl (Nat.le_of_ble_eq_true rfl) dX11_ask_17 (m_X11_in hZ  e17) ?_
    show AW Z l iX11_ask (Pq (rI R)) 0 0 20 [(0, .ref (za Z 60 0)), (1, .int a1), (2, .int a2)] [.int r17] s17
    refine a_if_ne 26 dX11_ask_20 (by decide) (fun q2 => ?_) (fun q2 => ?_)
    · replace hF := (if_neg q2).symm.trans hF
      refine a_aload_n dX11_ask_26 0 rfl rfl ?_
      refine a_iconst (v := (0 : Int32)) dX11_ask_27 (by decide) ?_
      refine a_put hZ.1 (hZ.2 60 0 (by decide) (by decide) Nat.one_pos) fl_X11_341 rfl rfl rfl dX11_ask_28 ?_
      refine a_iload_n dX11_ask_31 2 rfl rfl ?_
      refine a_if_ne 43 dX11_ask_32 (by decide) (fun q3 => ?_) (fun q3 => ?_)
      · replace hF := (if_neg q3).symm.trans hF
        refine a_aload_n dX11_ask_43 0 rfl rfl ?_
        refine a_iload_n dX11_ask_44 1 rfl rfl ?_
        obtain ⟨r45, s45, e45, hF⟩ := bd_some hF
        refine a_invV hZ.1 (As := [.int a1]) (rest := []) (hZ.2 60 0 (by decide) (by decide) Nat.one_pos) lk_X11_350 ⟨⟨by decide, by decide⟩, by decide, by decide⟩ rfl (Nat.le_of_ble_eq_true rfl) dX11_ask_45 (m_X11_markOf hZ  e45) ?_
        show AW Z l iX11_ask (Pq (rI R)) 0 0 48 [(0, .ref (za Z 60 0)), (1, .int a1), (2, .int a2)] [.int r45] s45
        replace hF := Option.some.inj hF
        subst hF
        exact a_iret rfl (Nat.zero_le _) (Nat.zero_le _) dX11_ask_48 ⟨rfl, rfl⟩
      · replace hF := (if_pos q3).symm.trans hF
        refine a_aload_n dX11_ask_35 0 rfl rfl ?_
        refine a_iload_n dX11_ask_36 1 rfl rfl ?_
        obtain ⟨r37, s37, e37, hF⟩ := bd_some hF
        refine a_invV hZ.1 (As := [.int a1]) (rest := []) (hZ.2 60 0 (by decide) (by decide) Nat.one_pos) lk_X11_353 ⟨⟨by decide, by decide⟩, by decide, by decide⟩ rfl (Nat.le_of_ble_eq_true rfl) dX11_ask_37 (m_X11_sizeBy hZ  e37) ?_
        show AW Z l iX11_ask (Pq (rI R)) 0 0 40 [(0, .ref (za Z 60 0)), (1, .int a1), (2, .int a2)] [.int r37] s37
        refine a_goto 48 dX11_ask_40 (by decide) ?_
        replace hF := Option.some.inj hF
        subst hF
        exact a_iret rfl (Nat.zero_le _) (Nat.zero_le _) dX11_ask_48 ⟨rfl, rfl⟩
    · replace hF := (if_pos q2).symm.trans hF
      refine a_ldc (v := (-1000001)) kw_1136 dX11_ask_23 ?_
      replace hF := Option.some.inj hF
      subst hF
      exact a_iret rfl (Nat.zero_le _) (Nat.zero_le _) dX11_ask_25 ⟨rfl, rfl⟩
theorem m_X11_ask {Z : ZE} {l : Launch} (hZ : OkM Z) {a1 : Int32} {a2 : Int32}  {s : St} {R : Int32 × St} (hF : F_X11_ask (zg Z) a1 a2 s = some R) : Sp Z l yX11_ask iX11_ask [.ref (za Z 60 0), .int a1, .int a2] s (rI R) :=
  Sp.of (by decide) rfl (Nat.le_of_ble_eq_true rfl) (w_X11_ask hZ  s hF)
-- X11_bad
set_option maxRecDepth 100000 in
set_option maxHeartbeats 4000000 in
theorem w_X11_bad {Z : ZE} {l : Launch} (hZ : OkM Z) {a1 : Int32}  {R : Unit × St}    (s : St) (hF : F_X11_bad (zg Z) a1  s = some R) : AW Z l iX11_bad (Pq (rU R)) 0 0 0 [(0, .ref (za Z 60 0)), (1, .int a1)] [] s := by
  unfold F_X11_bad at hF
  refine a_aload_n dX11_bad_0 0 rfl rfl ?_
  refine a_getI hZ.1 (s 60 0 38) (hZ.2 60 0 (by decide) (by decide) Nat.one_pos) fl_X11_246 rfl rfl dX11_bad_1 ?_
  refine a_if_ne 20 dX11_bad_4 (by decide) (fun q1 => ?_) (fun q1 => ?_)
  · replace hF := (if_neg q1).symm.trans hF
    replace hF := Option.some.inj hF
    subst hF
    exact a_vret rfl (Nat.zero_le _) (Nat.zero_le _) dX11_bad_20 ⟨rfl, rfl⟩
  · replace hF := (if_pos q1).symm.trans hF
    refine a_aload_n dX11_bad_7 0 rfl rfl ?_
    refine a_iload_n dX11_bad_8 1 rfl rfl ?_
    refine a_put hZ.1 (hZ.2 60 0 (by decide) (by decide) Nat.one_pos) fl_X11_246 rfl rfl rfl dX11_bad_9 ?_
    refine a_aload_n dX11_bad_12 0 rfl rfl ?_
    refine a_aload_n dX11_bad_13 0 rfl rfl ?_
    refine a_getI hZ.1 (s 60 0 36) (hZ.2 60 0 (by decide) (by decide) Nat.one_pos) fl_X11_231 rfl (by simp [up]) dX11_bad_14 ?_
    refine a_put hZ.1 (hZ.2 60 0 (by decide) (by decide) Nat.one_pos) fl_X11_249 rfl rfl rfl dX11_bad_17 ?_
    replace hF := Option.some.inj hF
    subst hF
    exact a_vret rfl (Nat.zero_le _) (Nat.zero_le _) dX11_bad_20 ⟨rfl, rfl⟩
theorem m_X11_bad {Z : ZE} {l : Launch} (hZ : OkM Z) {a1 : Int32}  {s : St} {R : Unit × St} (hF : F_X11_bad (zg Z) a1 s = some R) : Sp Z l yX11_bad iX11_bad [.ref (za Z 60 0), .int a1] s (rU R) :=
  Sp.of (by decide) rfl (Nat.le_of_ble_eq_true rfl) (w_X11_bad hZ  s hF)
-- X11_balesOf
set_option maxRecDepth 100000 in
set_option maxHeartbeats 4000000 in
theorem w_X11_balesOf_9 {Z : ZE} {l : Launch} (hZ : OkM Z) {a1 : Int32}  {R : Int32 × St}  : ∀ (n_ : Nat) (v2 : Int32) (v3 : Int32)  (s : St), F_X11_balesOf_9 (zg Z) a1 n_ v2 v3 s = some R → AW Z l iX11_balesOf (Pq (rI R)) 0 0 9 [(0, .ref (za Z 60 0)), (1, .int a1), (2, .int v2), (3, .int v3)] [] s := by
  intro n_
  induction n_ with
  | zero =>
    intro v2 v3 s hF
    exact absurd hF (by rw [F_X11_balesOf_9]; exact fun q => by cases q)
  | succ n_ w9_ =>
    intro v2 v3 s hF
    rw [F_X11_balesOf_9] at hF
    refine a_iload_n dX11_balesOf_9 3 rfl rfl ?_
    refine a_aload_n dX11_balesOf_10 0 rfl rfl ?_
    refine a_getI hZ.1 (s 60 0 15) (hZ.2 60 0 (by decide) (by decide) Nat.one_pos) fl_X11_145 rfl rfl dX11_balesOf_11 ?_
    refine a_icmp_ge 36 dX11_balesOf_14 (by decide) (fun q1 => ?_) (fun q1 => ?_)
    · replace hF := (if_pos q1).symm.trans hF
      refine a_iload_n dX11_balesOf_36 2 rfl rfl ?_
      replace hF := Option.some.inj hF
      subst hF
      exact a_iret rfl (Nat.zero_le _) (Nat.zero_le _) dX11_balesOf_37 ⟨rfl, rfl⟩
    · replace hF := (if_neg q1).symm.trans hF
      refine a_iload_n dX11_balesOf_17 2 rfl rfl ?_
      refine a_aload_n dX11_balesOf_18 0 rfl rfl ?_
      refine a_getR hZ.1 (hZ.2 60 0 (by decide) (by decide) Nat.one_pos) fl_X11_60 rfl 0 rfl dX11_balesOf_19 ?_
      refine a_iconst (v := (4 : Int32)) dX11_balesOf_22 (by decide) ?_
      refine a_iload_n dX11_balesOf_23 3 rfl rfl ?_
      refine a_imul dX11_balesOf_24 ?_
      refine a_iload_n dX11_balesOf_25 1 rfl rfl ?_
      refine a_iadd dX11_balesOf_26 ?_
      obtain ⟨p2, hF⟩ := gd_some hF
      refine a_iald hZ.1 (s 74 0 (((4 : Int32) * v3) + a1).toNatClampNeg) (hZ.2 74 0 (by decide) (by decide) Nat.one_pos) rfl rfl (inb_vp p2) rfl dX11_balesOf_27 ?_
      refine a_iadd dX11_balesOf_28 ?_
      refine a_istore_n [(2, .int (v2 + (s 74 0 (((4 : Int32) * v3) + a1).toNatClampNeg))), (0, .ref (za Z 60 0)), (1, .int a1), (3, .int v3)] dX11_balesOf_29 rfl (by decide) rfl ?_
      refine a_iinc [(3, .int (v3 + 1)), (2, .int (v2 + (s 74 0 (((4 : Int32) * v3) + a1).toNatClampNeg))), (0, .ref (za Z 60 0)), (1, .int a1)] dX11_balesOf_30 3 rfl rfl (by decide) rfl ?_
      refine a_goto 9 dX11_balesOf_33 (by decide) ?_
      refine a_loc [(0, .ref (za Z 60 0)), (1, .int a1), (2, .int (v2 + (s 74 0 (((4 : Int32) * v3) + a1).toNatClampNeg))), (3, .int (v3 + 1))] [2, 3, 1, 0] rfl ?_
      exact w9_ (v2 + (s 74 0 (((4 : Int32) * v3) + a1).toNatClampNeg)) (v3 + 1)  _ hF
set_option maxRecDepth 100000 in
set_option maxHeartbeats 4000000 in
theorem w_X11_balesOf {Z : ZE} {l : Launch} (hZ : OkM Z) {a1 : Int32}  {R : Int32 × St}    (s : St) (hF : F_X11_balesOf (zg Z) a1  s = some R) : AW Z l iX11_balesOf (Pq (rI R)) 0 0 0 [(0, .ref (za Z 60 0)), (1, .int a1)] [] s := by
  unfold F_X11_balesOf at hF
  refine a_aload_n dX11_balesOf_0 0 rfl rfl ?_
  refine a_getR hZ.1 (hZ.2 60 0 (by decide) (by decide) Nat.one_pos) fl_X11_33 rfl 0 rfl dX11_balesOf_1 ?_
  refine a_iload_n dX11_balesOf_4 1 rfl rfl ?_
  obtain ⟨p1, hF⟩ := gd_some hF
  refine a_iald hZ.1 (s 66 0 a1.toNatClampNeg) (hZ.2 66 0 (by decide) (by decide) Nat.one_pos) rfl rfl (inb_vp p1) rfl dX11_balesOf_5 ?_
  refine a_istore_n [(2, .int (s 66 0 a1.toNatClampNeg)), (0, .ref (za Z 60 0)), (1, .int a1)] dX11_balesOf_6 rfl (by decide) rfl ?_
  refine a_iconst (v := (0 : Int32)) dX11_balesOf_7 (by decide) ?_
  refine a_istore_n [(3, .int (0 : Int32)), (2, .int (s 66 0 a1.toNatClampNeg)), (0, .ref (za Z 60 0)), (1, .int a1)] dX11_balesOf_8 rfl (by decide) rfl ?_
  refine a_loc [(0, .ref (za Z 60 0)), (1, .int a1), (2, .int (s 66 0 a1.toNatClampNeg)), (3, .int (0 : Int32))] [2, 3, 1, 0] rfl ?_
  exact w_X11_balesOf_9 (l := l) hZ   fu (s 66 0 a1.toNatClampNeg) (0 : Int32)  _ hF
theorem m_X11_balesOf {Z : ZE} {l : Launch} (hZ : OkM Z) {a1 : Int32}  {s : St} {R : Int32 × St} (hF : F_X11_balesOf (zg Z) a1 s = some R) : Sp Z l yX11_balesOf iX11_balesOf [.ref (za Z 60 0), .int a1] s (rI R) :=
  Sp.of (by decide) rfl (Nat.le_of_ble_eq_true rfl) (w_X11_balesOf hZ  s hF)
-- X11_byteAt
set_option maxRecDepth 100000 in
set_option maxHeartbeats 4000000 in
theorem w_X11_byteAt {Z : ZE} {l : Launch} (hZ : OkM Z) {a1 : Int32}  {R : Int32 × St}    (s : St) (hF : F_X11_byteAt (zg Z) a1  s = some R) : AW Z l iX11_byteAt (Pq (rI R)) 0 0 0 [(0, .ref (za Z 60 0)), (1, .int a1)] [] s := by
  unfold F_X11_byteAt at hF
  refine a_iload_n dX11_byteAt_0 1 rfl rfl ?_
  refine a_aload_n dX11_byteAt_1 0 rfl rfl ?_
  refine a_getI hZ.1 (s 60 0 33) (hZ.2 60 0 (by decide) (by decide) Nat.one_pos) fl_X11_222 rfl rfl dX11_byteAt_2 ?_
  refine a_icmp_ge 17 dX11_byteAt_5 (by decide) (fun q1 => ?_) (fun q1 => ?_)
  · replace hF := (if_pos q1).symm.trans hF
    refine a_ldc (v := (-1000000)) kw_951 dX11_byteAt_17 ?_
    replace hF := Option.some.inj hF
    subst hF
    exact a_iret rfl (Nat.zero_le _) (Nat.zero_le _) dX11_byteAt_19 ⟨rfl, rfl⟩
  · replace hF := (if_neg q1).symm.trans hF
    refine a_aload_n dX11_byteAt_8 0 rfl rfl ?_
    refine a_getR hZ.1 (hZ.2 60 0 (by decide) (by decide) Nat.one_pos) fl_X11_85 rfl 0 rfl dX11_byteAt_9 ?_
    refine a_iload_n dX11_byteAt_12 1 rfl rfl ?_
    obtain ⟨p2, hF⟩ := gd_some hF
    refine a_iald hZ.1 (s 82 0 a1.toNatClampNeg) (hZ.2 82 0 (by decide) (by decide) Nat.one_pos) rfl rfl (inb_vp p2) rfl dX11_byteAt_13 ?_
    refine a_goto 19 dX11_byteAt_14 (by decide) ?_
    replace hF := Option.some.inj hF
    subst hF
    exact a_iret rfl (Nat.zero_le _) (Nat.zero_le _) dX11_byteAt_19 ⟨rfl, rfl⟩
theorem m_X11_byteAt {Z : ZE} {l : Launch} (hZ : OkM Z) {a1 : Int32}  {s : St} {R : Int32 × St} (hF : F_X11_byteAt (zg Z) a1 s = some R) : Sp Z l yX11_byteAt iX11_byteAt [.ref (za Z 60 0), .int a1] s (rI R) :=
  Sp.of (by decide) rfl (Nat.le_of_ble_eq_true rfl) (w_X11_byteAt hZ  s hF)
-- X11_isSheet
set_option maxRecDepth 100000 in
set_option maxHeartbeats 4000000 in
theorem w_X11_isSheet {Z : ZE} {l : Launch} (hZ : OkM Z) {a0 : Int32}  {R : Int32 × St}    (s : St) (hF : F_X11_isSheet (zg Z) a0  s = some R) : AW Z l iX11_isSheet (Pq (rI R)) 0 0 0 [(0, .int a0)] [] s := by
  unfold F_X11_isSheet at hF
  refine a_iload_n dX11_isSheet_0 0 rfl rfl ?_
  refine a_i2l dX11_isSheet_1 ?_
  refine a_lconst (v := (0 : Int64)) dX11_isSheet_2 (by decide) ?_
  refine a_ldc2 (v := (7 : Int64)) kw_1131 dX11_isSheet_3 ?_
  obtain ⟨r6, s6, e6, hF⟩ := bd_some hF
  refine a_invS hZ.1 (As := [.long a0.toInt64, .long (0 : Int64), .long (7 : Int64)]) (rest := []) lk_X11_126 ⟨⟨by decide, by decide⟩, by decide, by decide⟩ rfl (Nat.le_of_ble_eq_true rfl) dX11_isSheet_6 (m_X11_in hZ  e6) ?_
  show AW Z l iX11_isSheet (Pq (rI R)) 0 0 9 [(0, .int a0)] [.int r6] s6
  obtain ⟨p1, hF⟩ := gd_some hF
  replace hF := Option.some.inj hF
  subst hF
  exact a_zret rfl (isb_n p1) (Nat.zero_le _) (Nat.zero_le _) dX11_isSheet_9 ⟨rfl, rfl⟩
theorem m_X11_isSheet {Z : ZE} {l : Launch} (hZ : OkM Z) {a0 : Int32}  {s : St} {R : Int32 × St} (hF : F_X11_isSheet (zg Z) a0 s = some R) : Sp Z l yX11_isSheet iX11_isSheet [.int a0] s (rI R) :=
  Sp.of (by decide) rfl (Nat.le_of_ble_eq_true rfl) (w_X11_isSheet hZ  s hF)
-- X11_copy
set_option maxRecDepth 100000 in
set_option maxHeartbeats 4000000 in
theorem w_X11_copy_167 {Z : ZE} {l : Launch} (hZ : OkM Z) {a1 : Int32} {a2 : Int32} {a3 : Int32} {a4 : Int32} {a5 : Int32}  {R : Int32 × St} (h143_ : Int32 → Int32 → St → Option (Int32 × St)) (w143_ : ∀ (v6 : Int32) (v7 : Int32)  (s : St), h143_ v6 v7 s = some R → AW Z l iX11_copy (Pq (rI R)) 0 0 143 [(0, .ref (za Z 60 0)), (1, .int a1), (2, .int a2), (3, .int a3), (4, .int a4), (5, .int a5), (6, .int v6), (7, .int v7)] [] s) (v6 : Int32) (v7 : Int32) (x0 : Int32)  (s : St) (hF : F_X11_copy_167 (zg Z) a1 a2 a3 a4 a5 h143_ v6 v7 x0 s = some R) : AW Z l iX11_copy (Pq (rI R)) 0 0 167 [(0, .ref (za Z 60 0)), (1, .int a1), (2, .int a2), (3, .int a3), (4, .int a4), (5, .int a5), (6, .int v6), (7, .int v7)] [.int x0] s := by
  unfold F_X11_copy_167 at hF
  refine a_istore [(8, .int x0), (0, .ref (za Z 60 0)), (1, .int a1), (2, .int a2), (3, .int a3), (4, .int a4), (5, .int a5), (6, .int v6), (7, .int v7)] dX11_copy_167 (by decide) rfl ?_
  refine a_aload_n dX11_copy_169 1 rfl rfl ?_
  refine a_getR hZ.1 (hZ.2 60 0 (by decide) (by decide) Nat.one_pos) fl_X11_24 rfl 0 rfl dX11_copy_170 ?_
  refine a_bipush (v := (80 : Int32)) dX11_copy_173 (by decide) ?_
  refine a_iload_n dX11_copy_175 4 rfl rfl ?_
  refine a_imul dX11_copy_176 ?_
  refine a_iload dX11_copy_177 5 rfl ?_
  refine a_iadd dX11_copy_179 ?_
  refine a_iload dX11_copy_180 0 rfl ?_
  refine a_iadd dX11_copy_182 ?_
  refine a_aload_n dX11_copy_183 1 rfl rfl ?_
  refine a_getR hZ.1 (hZ.2 60 0 (by decide) (by decide) Nat.one_pos) fl_X11_24 rfl 0 rfl dX11_copy_184 ?_
  refine a_bipush (v := (80 : Int32)) dX11_copy_187 (by decide) ?_
  refine a_iload_n dX11_copy_189 2 rfl rfl ?_
  refine a_imul dX11_copy_190 ?_
  refine a_iload_n dX11_copy_191 3 rfl rfl ?_
  refine a_iadd dX11_copy_192 ?_
  refine a_iload dX11_copy_193 0 rfl ?_
  refine a_iadd dX11_copy_195 ?_
  obtain ⟨p1, hF⟩ := gd_some hF
  refine a_iald hZ.1 (s 63 0 ((((80 : Int32) * a1) + a2) + x0).toNatClampNeg) (hZ.2 63 0 (by decide) (by decide) Nat.one_pos) rfl rfl (inb_vp p1) rfl dX11_copy_196 ?_
  obtain ⟨p2, hF⟩ := gd_some hF
  refine a_iast hZ.1 (hZ.2 63 0 (by decide) (by decide) Nat.one_pos) rfl rfl (inb_vp p2) dX11_copy_197 ?_
  refine a_iinc [(7, .int (v7 + 1)), (8, .int x0), (0, .ref (za Z 60 0)), (1, .int a1), (2, .int a2), (3, .int a3), (4, .int a4), (5, .int a5), (6, .int v6)] dX11_copy_198 8 rfl rfl (by decide) rfl ?_
  refine a_goto 143 dX11_copy_201 (by decide) ?_
  refine a_loc [(0, .ref (za Z 60 0)), (1, .int a1), (2, .int a2), (3, .int a3), (4, .int a4), (5, .int a5), (6, .int v6), (7, .int (v7 + 1))] [2, 3, 4, 5, 6, 7, 8, 0] rfl ?_
  exact w143_ v6 (v7 + 1)  _ hF
set_option maxRecDepth 100000 in
set_option maxHeartbeats 4000000 in
theorem w_X11_copy_143 {Z : ZE} {l : Launch} (hZ : OkM Z) {a1 : Int32} {a2 : Int32} {a3 : Int32} {a4 : Int32} {a5 : Int32}  {R : Int32 × St}  : ∀ (n_ : Nat) (v6 : Int32) (v7 : Int32)  (s : St), F_X11_copy_143 (zg Z) a1 a2 a3 a4 a5 n_ v6 v7 s = some R → AW Z l iX11_copy (Pq (rI R)) 0 0 143 [(0, .ref (za Z 60 0)), (1, .int a1), (2, .int a2), (3, .int a3), (4, .int a4), (5, .int a5), (6, .int v6), (7, .int v7)] [] s := by
  intro n_
  induction n_ with
  | zero =>
    intro v6 v7 s hF
    exact absurd hF (by rw [F_X11_copy_143]; exact fun q => by cases q)
  | succ n_ w143_ =>
    intro v6 v7 s hF
    rw [F_X11_copy_143] at hF
    refine a_iload dX11_copy_143 7 rfl ?_
    refine a_iload dX11_copy_145 5 rfl ?_
    refine a_icmp_ge 204 dX11_copy_147 (by decide) (fun q1 => ?_) (fun q1 => ?_)
    · replace hF := (if_pos q1).symm.trans hF
      refine a_iload dX11_copy_204 5 rfl ?_
      replace hF := Option.some.inj hF
      subst hF
      exact a_iret rfl (Nat.zero_le _) (Nat.zero_le _) dX11_copy_206 ⟨rfl, rfl⟩
    · replace hF := (if_neg q1).symm.trans hF
      refine a_iload dX11_copy_150 6 rfl ?_
      refine a_if_eq 160 dX11_copy_152 (by decide) (fun q2 => ?_) (fun q2 => ?_)
      · replace hF := (if_pos q2).symm.trans hF
        refine a_iload dX11_copy_160 5 rfl ?_
        refine a_iconst (v := (1 : Int32)) dX11_copy_162 (by decide) ?_
        refine a_isub dX11_copy_163 ?_
        refine a_iload dX11_copy_164 7 rfl ?_
        refine a_isub dX11_copy_166 ?_
        exact w_X11_copy_167 (l := l) hZ  (F_X11_copy_143 (zg Z) a1 a2 a3 a4 a5 n_) w143_ v6 v7 ((a5 - (1 : Int32)) - v7)  _ hF
      · replace hF := (if_neg q2).symm.trans hF
        refine a_iload dX11_copy_155 7 rfl ?_
        refine a_goto 167 dX11_copy_157 (by decide) ?_
        exact w_X11_copy_167 (l := l) hZ  (F_X11_copy_143 (zg Z) a1 a2 a3 a4 a5 n_) w143_ v6 v7 v7  _ hF
set_option maxRecDepth 100000 in
set_option maxHeartbeats 4000000 in
theorem w_X11_copy_138 {Z : ZE} {l : Launch} (hZ : OkM Z) {a1 : Int32} {a2 : Int32} {a3 : Int32} {a4 : Int32} {a5 : Int32}  {R : Int32 × St}  (x0 : Int32)  (s : St) (hF : F_X11_copy_138 (zg Z) a1 a2 a3 a4 a5 x0 s = some R) : AW Z l iX11_copy (Pq (rI R)) 0 0 138 [(0, .ref (za Z 60 0)), (1, .int a1), (2, .int a2), (3, .int a3), (4, .int a4), (5, .int a5)] [.int x0] s := by
  unfold F_X11_copy_138 at hF
  refine a_istore [(6, .int x0), (0, .ref (za Z 60 0)), (1, .int a1), (2, .int a2), (3, .int a3), (4, .int a4), (5, .int a5)] dX11_copy_138 (by decide) rfl ?_
  refine a_iconst (v := (0 : Int32)) dX11_copy_140 (by decide) ?_
  refine a_istore [(7, .int (0 : Int32)), (6, .int x0), (0, .ref (za Z 60 0)), (1, .int a1), (2, .int a2), (3, .int a3), (4, .int a4), (5, .int a5)] dX11_copy_141 (by decide) rfl ?_
  refine a_loc [(0, .ref (za Z 60 0)), (1, .int a1), (2, .int a2), (3, .int a3), (4, .int a4), (5, .int a5), (6, .int x0), (7, .int (0 : Int32))] [2, 3, 4, 5, 6, 7, 1, 0] rfl ?_
  exact w_X11_copy_143 (l := l) hZ   fu x0 (0 : Int32)  _ hF
set_option maxRecDepth 100000 in
set_option maxHeartbeats 4000000 in
theorem w_X11_copy_121 {Z : ZE} {l : Launch} (hZ : OkM Z) {a1 : Int32} {a2 : Int32} {a3 : Int32} {a4 : Int32} {a5 : Int32}  {R : Int32 × St}    (s : St) (hF : F_X11_copy_121 (zg Z) a1 a2 a3 a4 a5  s = some R) : AW Z l iX11_copy (Pq (rI R)) 0 0 121 [(0, .ref (za Z 60 0))] [] s := by
  unfold F_X11_copy_121 at hF
  refine a_aload_n dX11_copy_121 0 rfl rfl ?_
  refine a_iconst (v := (2 : Int32)) dX11_copy_122 (by decide) ?_
  obtain ⟨r123, s123, e123, hF⟩ := bd_some hF
  refine a_invV hZ.1 (As := [.int (2 : Int32)]) (rest := []) (hZ.2 60 0 (by decide) (by decide) Nat.one_pos) lk_X11_137 ⟨⟨by decide, by decide⟩, by decide, by decide⟩ rfl (Nat.le_of_ble_eq_true rfl) dX11_copy_123 (m_X11_finding hZ  e123) ?_
  show AW Z l iX11_copy (Pq (rI R)) 0 0 126 [(0, .ref (za Z 60 0))] [.int r123] s123
  replace hF := Option.some.inj hF
  subst hF
  exact a_iret rfl (Nat.zero_le _) (Nat.zero_le _) dX11_copy_126 ⟨rfl, rfl⟩
set_option maxRecDepth 100000 in
set_option maxHeartbeats 4000000 in
theorem w_X11_copy_45 {Z : ZE} {l : Launch} (hZ : OkM Z) {a1 : Int32} {a2 : Int32} {a3 : Int32} {a4 : Int32} {a5 : Int32}  {R : Int32 × St}    (s : St) (hF : F_X11_copy_45 (zg Z) a1 a2 a3 a4 a5  s = some R) : AW Z l iX11_copy (Pq (rI R)) 0 0 45 [(0, .ref (za Z 60 0))] [] s := by
  unfold F_X11_copy_45 at hF
  refine a_aload_n dX11_copy_45 0 rfl rfl ?_
  refine a_iconst (v := (1 : Int32)) dX11_copy_46 (by decide) ?_
  obtain ⟨r47, s47, e47, hF⟩ := bd_some hF
  refine a_invV hZ.1 (As := [.int (1 : Int32)]) (rest := []) (hZ.2 60 0 (by decide) (by decide) Nat.one_pos) lk_X11_137 ⟨⟨by decide, by decide⟩, by decide, by decide⟩ rfl (Nat.le_of_ble_eq_true rfl) dX11_copy_47 (m_X11_finding hZ  e47) ?_
  show AW Z l iX11_copy (Pq (rI R)) 0 0 50 [(0, .ref (za Z 60 0))] [.int r47] s47
  replace hF := Option.some.inj hF
  subst hF
  exact a_iret rfl (Nat.zero_le _) (Nat.zero_le _) dX11_copy_50 ⟨rfl, rfl⟩
set_option maxRecDepth 100000 in
set_option maxHeartbeats 4000000 in
theorem w_X11_copy {Z : ZE} {l : Launch} (hZ : OkM Z) {a1 : Int32} {a2 : Int32} {a3 : Int32} {a4 : Int32} {a5 : Int32}  {R : Int32 × St}    (s : St) (hF : F_X11_copy (zg Z) a1 a2 a3 a4 a5  s = some R) : AW Z l iX11_copy (Pq (rI R)) 0 0 0 [(0, .ref (za Z 60 0)), (1, .int a1), (2, .int a2), (3, .int a3), (4, .int a4), (5, .int a5)] [] s := by
  unfold F_X11_copy at hF
  refine a_aload_n dX11_copy_0 0 rfl rfl ?_
  refine a_iconst (v := (0 : Int32)) dX11_copy_1 (by decide) ?_
  refine a_put hZ.1 (hZ.2 60 0 (by decide) (by decide) Nat.one_pos) fl_X11_1 rfl rfl rfl dX11_copy_2 ?_
  refine a_iload_n dX11_copy_5 1 rfl rfl ?_
  obtain ⟨r6, s6, e6, hF⟩ := bd_some hF
  refine a_invS hZ.1 (As := [.int a1]) (rest := []) lk_X11_130 ⟨⟨by decide, by decide⟩, by decide, by decide⟩ rfl (Nat.le_of_ble_eq_true rfl) dX11_copy_6 (m_X11_isSheet hZ  e6) ?_
  show AW Z l iX11_copy (Pq (rI R)) 0 0 9 [(0, .ref (za Z 60 0)), (1, .int a1), (2, .int a2), (3, .int a3), (4, .int a4), (5, .int a5)] [.int r6] s6
  refine a_if_eq 19 dX11_copy_9 (by decide) (fun q1 => ?_) (fun q1 => ?_)
  · replace hF := (if_pos q1).symm.trans hF
    refine a_ldc (v := (-1000001)) kw_1136 dX11_copy_19 ?_
    replace hF := Option.some.inj hF
    subst hF
    exact a_iret rfl (Nat.zero_le _) (Nat.zero_le _) dX11_copy_21 ⟨rfl, rfl⟩
  · replace hF := (if_neg q1).symm.trans hF
    refine a_iload_n dX11_copy_12 3 rfl rfl ?_
    obtain ⟨r13, s13, e13, hF⟩ := bd_some hF
    refine a_invS hZ.1 (As := [.int a3]) (rest := []) lk_X11_130 ⟨⟨by decide, by decide⟩, by decide, by decide⟩ rfl (Nat.le_of_ble_eq_true rfl) dX11_copy_13 (m_X11_isSheet hZ  e13) ?_
    show AW Z l iX11_copy (Pq (rI R)) 0 0 16 [(0, .ref (za Z 60 0)), (1, .int a1), (2, .int a2), (3, .int a3), (4, .int a4), (5, .int a5)] [.int r13] s13
    refine a_if_ne 22 dX11_copy_16 (by decide) (fun q2 => ?_) (fun q2 => ?_)
    · replace hF := (if_neg q2).symm.trans hF
      refine a_aload_n dX11_copy_22 0 rfl rfl ?_
      refine a_iconst (v := (0 : Int32)) dX11_copy_23 (by decide) ?_
      refine a_put hZ.1 (hZ.2 60 0 (by decide) (by decide) Nat.one_pos) fl_X11_7 rfl rfl rfl dX11_copy_24 ?_
      refine a_aload_n dX11_copy_27 0 rfl rfl ?_
      refine a_getR hZ.1 (hZ.2 60 0 (by decide) (by decide) Nat.one_pos) fl_X11_17 rfl 0 rfl dX11_copy_28 ?_
      refine a_iload_n dX11_copy_31 1 rfl rfl ?_
      obtain ⟨p3, hF⟩ := gd_some hF
      refine a_iald hZ.1 (s13 61 0 a1.toNatClampNeg) (hZ.2 61 0 (by decide) (by decide) Nat.one_pos) rfl rfl (inb_vp p3) rfl dX11_copy_32 ?_
      refine a_if_lt 45 dX11_copy_33 (by decide) (fun q4 => ?_) (fun q4 => ?_)
      · replace hF := (if_pos q4).symm.trans hF
        refine a_loc [(0, .ref (za Z 60 0))] [0] rfl ?_
        exact w_X11_copy_45 (l := l) hZ     _ hF
      · replace hF := (if_neg q4).symm.trans hF
        refine a_aload_n dX11_copy_36 0 rfl rfl ?_
        refine a_getR hZ.1 (hZ.2 60 0 (by decide) (by decide) Nat.one_pos) fl_X11_17 rfl 0 rfl dX11_copy_37 ?_
        refine a_iload_n dX11_copy_40 3 rfl rfl ?_
        obtain ⟨p5, hF⟩ := gd_some hF
        refine a_iald hZ.1 (s13 61 0 a3.toNatClampNeg) (hZ.2 61 0 (by decide) (by decide) Nat.one_pos) rfl rfl (inb_vp p5) rfl dX11_copy_41 ?_
        refine a_if_ge 51 dX11_copy_42 (by decide) (fun q6 => ?_) (fun q6 => ?_)
        · replace hF := (if_pos q6).symm.trans hF
          refine a_aload_n dX11_copy_51 0 rfl rfl ?_
          refine a_getR hZ.1 (hZ.2 60 0 (by decide) (by decide) Nat.one_pos) fl_X11_17 rfl 0 rfl dX11_copy_52 ?_
          refine a_iload_n dX11_copy_55 1 rfl rfl ?_
          obtain ⟨p7, hF⟩ := gd_some hF
          refine a_iald hZ.1 (s13 61 0 a1.toNatClampNeg) (hZ.2 61 0 (by decide) (by decide) Nat.one_pos) rfl rfl (inb_vp p7) rfl dX11_copy_56 ?_
          refine a_aload_n dX11_copy_57 0 rfl rfl ?_
          refine a_getR hZ.1 (hZ.2 60 0 (by decide) (by decide) Nat.one_pos) fl_X11_17 rfl 0 rfl dX11_copy_58 ?_
          refine a_iload_n dX11_copy_61 3 rfl rfl ?_
          obtain ⟨p8, hF⟩ := gd_some hF
          refine a_iald hZ.1 (s13 61 0 a3.toNatClampNeg) (hZ.2 61 0 (by decide) (by decide) Nat.one_pos) rfl rfl (inb_vp p8) rfl dX11_copy_62 ?_
          refine a_icmp_eq 72 dX11_copy_63 (by decide) (fun q9 => ?_) (fun q9 => ?_)
          · replace hF := (if_pos q9).symm.trans hF
            refine a_iload_n dX11_copy_72 2 rfl rfl ?_
            refine a_if_lt 121 dX11_copy_73 (by decide) (fun q10 => ?_) (fun q10 => ?_)
            · replace hF := (if_pos q10).symm.trans hF
              refine a_loc [(0, .ref (za Z 60 0))] [0] rfl ?_
              exact w_X11_copy_121 (l := l) hZ     _ hF
            · replace hF := (if_neg q10).symm.trans hF
              refine a_iload dX11_copy_76 4 rfl ?_
              refine a_if_lt 121 dX11_copy_78 (by decide) (fun q11 => ?_) (fun q11 => ?_)
              · replace hF := (if_pos q11).symm.trans hF
                refine a_loc [(0, .ref (za Z 60 0))] [0] rfl ?_
                exact w_X11_copy_121 (l := l) hZ     _ hF
              · replace hF := (if_neg q11).symm.trans hF
                refine a_iload dX11_copy_81 5 rfl ?_
                refine a_if_lt 121 dX11_copy_83 (by decide) (fun q12 => ?_) (fun q12 => ?_)
                · replace hF := (if_pos q12).symm.trans hF
                  refine a_loc [(0, .ref (za Z 60 0))] [0] rfl ?_
                  exact w_X11_copy_121 (l := l) hZ     _ hF
                · replace hF := (if_neg q12).symm.trans hF
                  refine a_iload_n dX11_copy_86 2 rfl rfl ?_
                  refine a_i2l dX11_copy_87 ?_
                  refine a_iload dX11_copy_88 5 rfl ?_
                  refine a_i2l dX11_copy_90 ?_
                  refine a_ladd dX11_copy_91 ?_
                  refine a_aload_n dX11_copy_92 0 rfl rfl ?_
                  refine a_getR hZ.1 (hZ.2 60 0 (by decide) (by decide) Nat.one_pos) fl_X11_21 rfl 0 rfl dX11_copy_93 ?_
                  refine a_iload_n dX11_copy_96 1 rfl rfl ?_
                  obtain ⟨p13, hF⟩ := gd_some hF
                  refine a_iald hZ.1 (s13 62 0 a1.toNatClampNeg) (hZ.2 62 0 (by decide) (by decide) Nat.one_pos) rfl rfl (inb_vp p13) rfl dX11_copy_97 ?_
                  refine a_i2l dX11_copy_98 ?_
                  refine a_lcmp dX11_copy_99 ?_
                  refine a_if_gt 121 dX11_copy_100 (by decide) (fun q14 => ?_) (fun q14 => ?_)
                  · replace hF := (if_pos q14).symm.trans hF
                    refine a_loc [(0, .ref (za Z 60 0))] [0] rfl ?_
                    exact w_X11_copy_121 (l := l) hZ     _ hF
                  · replace hF := (if_neg q14).symm.trans hF
                    refine a_iload dX11_copy_103 4 rfl ?_
                    refine a_i2l dX11_copy_105 ?_
                    refine a_iload dX11_copy_106 5 rfl ?_
                    refine a_i2l dX11_copy_108 ?_
                    refine a_ladd dX11_copy_109 ?_
                    refine a_aload_n dX11_copy_110 0 rfl rfl ?_
                    refine a_getR hZ.1 (hZ.2 60 0 (by decide) (by decide) Nat.one_pos) fl_X11_21 rfl 0 rfl dX11_copy_111 ?_
                    refine a_iload_n dX11_copy_114 3 rfl rfl ?_
                    obtain ⟨p15, hF⟩ := gd_some hF
                    refine a_iald hZ.1 (s13 62 0 a3.toNatClampNeg) (hZ.2 62 0 (by decide) (by decide) Nat.one_pos) rfl rfl (inb_vp p15) rfl dX11_copy_115 ?_
                    refine a_i2l dX11_copy_116 ?_
                    refine a_lcmp dX11_copy_117 ?_
                    refine a_if_le 127 dX11_copy_118 (by decide) (fun q16 => ?_) (fun q16 => ?_)
                    · replace hF := (if_pos q16).symm.trans hF
                      refine a_iload_n dX11_copy_127 2 rfl rfl ?_
                      refine a_iload dX11_copy_128 4 rfl ?_
                      refine a_icmp_lt 137 dX11_copy_130 (by decide) (fun q17 => ?_) (fun q17 => ?_)
                      · replace hF := (if_pos q17).symm.trans hF
                        refine a_iconst (v := (0 : Int32)) dX11_copy_137 (by decide) ?_
                        exact w_X11_copy_138 (l := l) hZ   (0 : Int32)  _ hF
                      · replace hF := (if_neg q17).symm.trans hF
                        refine a_iconst (v := (1 : Int32)) dX11_copy_133 (by decide) ?_
                        refine a_goto 138 dX11_copy_134 (by decide) ?_
                        exact w_X11_copy_138 (l := l) hZ   (1 : Int32)  _ hF
                    · replace hF := (if_neg q16).symm.trans hF
                      refine a_loc [(0, .ref (za Z 60 0))] [0] rfl ?_
                      exact w_X11_copy_121 (l := l) hZ     _ hF
          · replace hF := (if_neg q9).symm.trans hF
            refine a_aload_n dX11_copy_66 0 rfl rfl ?_
            refine a_iconst (v := (5 : Int32)) dX11_copy_67 (by decide) ?_
            obtain ⟨r68, s68, e68, hF⟩ := bd_some hF
            refine a_invV hZ.1 (As := [.int (5 : Int32)]) (rest := []) (hZ.2 60 0 (by decide) (by decide) Nat.one_pos) lk_X11_137 ⟨⟨by decide, by decide⟩, by decide, by decide⟩ rfl (Nat.le_of_ble_eq_true rfl) dX11_copy_68 (m_X11_finding hZ  e68) ?_
            show AW Z l iX11_copy (Pq (rI R)) 0 0 71 [(0, .ref (za Z 60 0)), (1, .int a1), (2, .int a2), (3, .int a3), (4, .int a4), (5, .int a5)] [.int r68] s68
            replace hF := Option.some.inj hF
            subst hF
            exact a_iret rfl (Nat.zero_le _) (Nat.zero_le _) dX11_copy_71 ⟨rfl, rfl⟩
        · replace hF := (if_neg q6).symm.trans hF
          refine a_loc [(0, .ref (za Z 60 0))] [0] rfl ?_
          exact w_X11_copy_45 (l := l) hZ     _ hF
    · replace hF := (if_pos q2).symm.trans hF
      refine a_ldc (v := (-1000001)) kw_1136 dX11_copy_19 ?_
      replace hF := Option.some.inj hF
      subst hF
      exact a_iret rfl (Nat.zero_le _) (Nat.zero_le _) dX11_copy_21 ⟨rfl, rfl⟩
theorem m_X11_copy {Z : ZE} {l : Launch} (hZ : OkM Z) {a1 : Int32} {a2 : Int32} {a3 : Int32} {a4 : Int32} {a5 : Int32}  {s : St} {R : Int32 × St} (hF : F_X11_copy (zg Z) a1 a2 a3 a4 a5 s = some R) : Sp Z l yX11_copy iX11_copy [.ref (za Z 60 0), .int a1, .int a2, .int a3, .int a4, .int a5] s (rI R) :=
  Sp.of (by decide) rfl (Nat.le_of_ble_eq_true rfl) (w_X11_copy hZ  s hF)
-- X11_count
set_option maxRecDepth 100000 in
set_option maxHeartbeats 4000000 in
theorem w_X11_count_173 {Z : ZE} {l : Launch} (hZ : OkM Z) {a1 : Int32}  {R : Int32 × St}  : ∀ (n_ : Nat) (v2 : Int32) (v3 : Int32)  (s : St), F_X11_count_173 (zg Z) a1 n_ v2 v3 s = some R → AW Z l iX11_count (Pq (rI R)) 0 0 173 [(0, .ref (za Z 60 0)), (2, .int v2), (3, .int v3)] [] s := by
  intro n_
  induction n_ with
  | zero =>
    intro v2 v3 s hF
    exact absurd hF (by rw [F_X11_count_173]; exact fun q => by cases q)
  | succ n_ w173_ =>
    intro v2 v3 s hF
    rw [F_X11_count_173] at hF
    refine a_iload_n dX11_count_173 2 rfl rfl ?_
    refine a_iconst (v := (4 : Int32)) dX11_count_174 (by decide) ?_
    refine a_icmp_ge 192 dX11_count_175 (by decide) (fun q1 => ?_) (fun q1 => ?_)
    · replace hF := (if_pos q1).symm.trans hF
      refine a_iload_n dX11_count_192 1 rfl rfl ?_
      replace hF := Option.some.inj hF
      subst hF
      exact a_iret rfl (Nat.zero_le _) (Nat.zero_le _) dX11_count_193 ⟨rfl, rfl⟩
    · replace hF := (if_neg q1).symm.trans hF
      refine a_iload_n dX11_count_178 1 rfl rfl ?_
      refine a_aload_n dX11_count_179 0 rfl rfl ?_
      refine a_iload_n dX11_count_180 2 rfl rfl ?_
      obtain ⟨r181, s181, e181, hF⟩ := bd_some hF
      refine a_invV hZ.1 (As := [.int v3]) (rest := [.int v2]) (hZ.2 60 0 (by decide) (by decide) Nat.one_pos) lk_X11_182 ⟨⟨by decide, by decide⟩, by decide, by decide⟩ rfl (Nat.le_of_ble_eq_true rfl) dX11_count_181 (m_X11_balesOf hZ  e181) ?_
      show AW Z l iX11_count (Pq (rI R)) 0 0 184 [(0, .ref (za Z 60 0)), (2, .int v2), (3, .int v3)] [.int r181, .int v2] s181
      refine a_iadd dX11_count_184 ?_
      refine a_istore_n [(2, .int (v2 + r181)), (0, .ref (za Z 60 0)), (3, .int v3)] dX11_count_185 rfl (by decide) rfl ?_
      refine a_iinc [(3, .int (v3 + 1)), (2, .int (v2 + r181)), (0, .ref (za Z 60 0))] dX11_count_186 2 rfl rfl (by decide) rfl ?_
      refine a_goto 173 dX11_count_189 (by decide) ?_
      refine a_loc [(0, .ref (za Z 60 0)), (2, .int (v2 + r181)), (3, .int (v3 + 1))] [2, 1, 0] rfl ?_
      exact w173_ (v2 + r181) (v3 + 1)  _ hF
set_option maxRecDepth 100000 in
set_option maxHeartbeats 4000000 in
theorem w_X11_count_151 {Z : ZE} {l : Launch} (hZ : OkM Z) {a1 : Int32}  {R : Int32 × St} (h124_ : Int32 → Int32 → St → Option (Int32 × St)) (w124_ : ∀ (v2 : Int32) (v3 : Int32)  (s : St), h124_ v2 v3 s = some R → AW Z l iX11_count (Pq (rI R)) 0 0 124 [(0, .ref (za Z 60 0)), (2, .int v2), (3, .int v3)] [] s) (v3 : Int32) (x0 : Int32) (x1 : Int32)  (s : St) (hF : F_X11_count_151 (zg Z) a1 h124_ v3 x0 x1 s = some R) : AW Z l iX11_count (Pq (rI R)) 0 0 151 [(0, .ref (za Z 60 0)), (3, .int v3)] [.int x1, .int x0] s := by
  unfold F_X11_count_151 at hF
  refine a_iadd dX11_count_151 ?_
  refine a_istore_n [(2, .int (x0 + x1)), (0, .ref (za Z 60 0)), (3, .int v3)] dX11_count_152 rfl (by decide) rfl ?_
  refine a_iinc [(3, .int (v3 + 1)), (2, .int (x0 + x1)), (0, .ref (za Z 60 0))] dX11_count_153 2 rfl rfl (by decide) rfl ?_
  refine a_goto 124 dX11_count_156 (by decide) ?_
  refine a_loc [(0, .ref (za Z 60 0)), (2, .int (x0 + x1)), (3, .int (v3 + 1))] [2, 1, 0] rfl ?_
  exact w124_ (x0 + x1) (v3 + 1)  _ hF
set_option maxRecDepth 100000 in
set_option maxHeartbeats 4000000 in
theorem w_X11_count_124 {Z : ZE} {l : Launch} (hZ : OkM Z) {a1 : Int32}  {R : Int32 × St}  : ∀ (n_ : Nat) (v2 : Int32) (v3 : Int32)  (s : St), F_X11_count_124 (zg Z) a1 n_ v2 v3 s = some R → AW Z l iX11_count (Pq (rI R)) 0 0 124 [(0, .ref (za Z 60 0)), (2, .int v2), (3, .int v3)] [] s := by
  intro n_
  induction n_ with
  | zero =>
    intro v2 v3 s hF
    exact absurd hF (by rw [F_X11_count_124]; exact fun q => by cases q)
  | succ n_ w124_ =>
    intro v2 v3 s hF
    rw [F_X11_count_124] at hF
    refine a_iload_n dX11_count_124 2 rfl rfl ?_
    refine a_aload_n dX11_count_125 0 rfl rfl ?_
    refine a_getI hZ.1 (s 60 0 47) (hZ.2 60 0 (by decide) (by decide) Nat.one_pos) fl_X11_326 rfl rfl dX11_count_126 ?_
    refine a_icmp_ge 159 dX11_count_129 (by decide) (fun q1 => ?_) (fun q1 => ?_)
    · replace hF := (if_pos q1).symm.trans hF
      refine a_iload_n dX11_count_159 1 rfl rfl ?_
      replace hF := Option.some.inj hF
      subst hF
      exact a_iret rfl (Nat.zero_le _) (Nat.zero_le _) dX11_count_160 ⟨rfl, rfl⟩
    · replace hF := (if_neg q1).symm.trans hF
      refine a_iload_n dX11_count_132 1 rfl rfl ?_
      refine a_aload_n dX11_count_133 0 rfl rfl ?_
      refine a_getR hZ.1 (hZ.2 60 0 (by decide) (by decide) Nat.one_pos) fl_X11_103 rfl 0 rfl dX11_count_134 ?_
      refine a_iload_n dX11_count_137 2 rfl rfl ?_
      obtain ⟨p2, hF⟩ := gd_some hF
      refine a_iald hZ.1 (s 88 0 v3.toNatClampNeg) (hZ.2 88 0 (by decide) (by decide) Nat.one_pos) rfl rfl (inb_vp p2) rfl dX11_count_138 ?_
      refine a_iconst (v := (2 : Int32)) dX11_count_139 (by decide) ?_
      obtain ⟨r140, s140, e140, hF⟩ := bd_some hF
      refine a_invS hZ.1 (As := [.int (s 88 0 v3.toNatClampNeg), .int (2 : Int32)]) (rest := [.int v2]) lk_X11_337 ⟨⟨by decide, by decide⟩, by decide, by decide⟩ rfl (Nat.le_of_ble_eq_true rfl) dX11_count_140 (m_X11_isOf hZ  e140) ?_
      show AW Z l iX11_count (Pq (rI R)) 0 0 143 [(0, .ref (za Z 60 0)), (2, .int v2), (3, .int v3)] [.int r140, .int v2] s140
      refine a_if_eq 150 dX11_count_143 (by decide) (fun q3 => ?_) (fun q3 => ?_)
      · replace hF := (if_pos q3).symm.trans hF
        refine a_iconst (v := (0 : Int32)) dX11_count_150 (by decide) ?_
        refine a_loc [(0, .ref (za Z 60 0)), (3, .int v3)] [0, 2] rfl ?_
        exact w_X11_count_151 (l := l) hZ  (F_X11_count_124 (zg Z) a1 n_) w124_ v3 v2 (0 : Int32)  _ hF
      · replace hF := (if_neg q3).symm.trans hF
        refine a_iconst (v := (1 : Int32)) dX11_count_146 (by decide) ?_
        refine a_goto 151 dX11_count_147 (by decide) ?_
        refine a_loc [(0, .ref (za Z 60 0)), (3, .int v3)] [0, 2] rfl ?_
        exact w_X11_count_151 (l := l) hZ  (F_X11_count_124 (zg Z) a1 n_) w124_ v3 v2 (1 : Int32)  _ hF
set_option maxRecDepth 100000 in
set_option maxHeartbeats 4000000 in
theorem w_X11_count_87 {Z : ZE} {l : Launch} (hZ : OkM Z) {a1 : Int32}  {R : Int32 × St} (h66_ : Int32 → Int32 → St → Option (Int32 × St)) (w66_ : ∀ (v2 : Int32) (v3 : Int32)  (s : St), h66_ v2 v3 s = some R → AW Z l iX11_count (Pq (rI R)) 0 0 66 [(0, .ref (za Z 60 0)), (2, .int v2), (3, .int v3)] [] s) (v3 : Int32) (x0 : Int32) (x1 : Int32)  (s : St) (hF : F_X11_count_87 (zg Z) a1 h66_ v3 x0 x1 s = some R) : AW Z l iX11_count (Pq (rI R)) 0 0 87 [(0, .ref (za Z 60 0)), (3, .int v3)] [.int x1, .int x0] s := by
  unfold F_X11_count_87 at hF
  refine a_iadd dX11_count_87 ?_
  refine a_istore_n [(2, .int (x0 + x1)), (0, .ref (za Z 60 0)), (3, .int v3)] dX11_count_88 rfl (by decide) rfl ?_
  refine a_iinc [(3, .int (v3 + 1)), (2, .int (x0 + x1)), (0, .ref (za Z 60 0))] dX11_count_89 2 rfl rfl (by decide) rfl ?_
  refine a_goto 66 dX11_count_92 (by decide) ?_
  refine a_loc [(0, .ref (za Z 60 0)), (2, .int (x0 + x1)), (3, .int (v3 + 1))] [2, 1, 0] rfl ?_
  exact w66_ (x0 + x1) (v3 + 1)  _ hF
set_option maxRecDepth 100000 in
set_option maxHeartbeats 4000000 in
theorem w_X11_count_66 {Z : ZE} {l : Launch} (hZ : OkM Z) {a1 : Int32}  {R : Int32 × St}  : ∀ (n_ : Nat) (v2 : Int32) (v3 : Int32)  (s : St), F_X11_count_66 (zg Z) a1 n_ v2 v3 s = some R → AW Z l iX11_count (Pq (rI R)) 0 0 66 [(0, .ref (za Z 60 0)), (2, .int v2), (3, .int v3)] [] s := by
  intro n_
  induction n_ with
  | zero =>
    intro v2 v3 s hF
    exact absurd hF (by rw [F_X11_count_66]; exact fun q => by cases q)
  | succ n_ w66_ =>
    intro v2 v3 s hF
    rw [F_X11_count_66] at hF
    refine a_iload_n dX11_count_66 2 rfl rfl ?_
    refine a_bipush (v := (8 : Int32)) dX11_count_67 (by decide) ?_
    refine a_icmp_ge 95 dX11_count_69 (by decide) (fun q1 => ?_) (fun q1 => ?_)
    · replace hF := (if_pos q1).symm.trans hF
      refine a_iload_n dX11_count_95 1 rfl rfl ?_
      replace hF := Option.some.inj hF
      subst hF
      exact a_iret rfl (Nat.zero_le _) (Nat.zero_le _) dX11_count_96 ⟨rfl, rfl⟩
    · replace hF := (if_neg q1).symm.trans hF
      refine a_iload_n dX11_count_72 1 rfl rfl ?_
      refine a_aload_n dX11_count_73 0 rfl rfl ?_
      refine a_getR hZ.1 (hZ.2 60 0 (by decide) (by decide) Nat.one_pos) fl_X11_17 rfl 0 rfl dX11_count_74 ?_
      refine a_iload_n dX11_count_77 2 rfl rfl ?_
      obtain ⟨p2, hF⟩ := gd_some hF
      refine a_iald hZ.1 (s 61 0 v3.toNatClampNeg) (hZ.2 61 0 (by decide) (by decide) Nat.one_pos) rfl rfl (inb_vp p2) rfl dX11_count_78 ?_
      refine a_if_lt 86 dX11_count_79 (by decide) (fun q3 => ?_) (fun q3 => ?_)
      · replace hF := (if_pos q3).symm.trans hF
        refine a_iconst (v := (0 : Int32)) dX11_count_86 (by decide) ?_
        refine a_loc [(0, .ref (za Z 60 0)), (3, .int v3)] [0, 2] rfl ?_
        exact w_X11_count_87 (l := l) hZ  (F_X11_count_66 (zg Z) a1 n_) w66_ v3 v2 (0 : Int32)  _ hF
      · replace hF := (if_neg q3).symm.trans hF
        refine a_iconst (v := (1 : Int32)) dX11_count_82 (by decide) ?_
        refine a_goto 87 dX11_count_83 (by decide) ?_
        refine a_loc [(0, .ref (za Z 60 0)), (3, .int v3)] [0, 2] rfl ?_
        exact w_X11_count_87 (l := l) hZ  (F_X11_count_66 (zg Z) a1 n_) w66_ v3 v2 (1 : Int32)  _ hF
set_option maxRecDepth 100000 in
set_option maxHeartbeats 4000000 in
theorem w_X11_count {Z : ZE} {l : Launch} (hZ : OkM Z) {a1 : Int32}  {R : Int32 × St}    (s : St) (hF : F_X11_count (zg Z) a1  s = some R) : AW Z l iX11_count (Pq (rI R)) 0 0 0 [(0, .ref (za Z 60 0)), (1, .int a1)] [] s := by
  unfold F_X11_count at hF
  refine a_aload_n dX11_count_0 0 rfl rfl ?_
  refine a_iconst (v := (0 : Int32)) dX11_count_1 (by decide) ?_
  refine a_put hZ.1 (hZ.2 60 0 (by decide) (by decide) Nat.one_pos) fl_X11_1 rfl rfl rfl dX11_count_2 ?_
  refine a_iconst (v := (0 : Int32)) dX11_count_5 (by decide) ?_
  refine a_istore_n [(2, .int (0 : Int32)), (0, .ref (za Z 60 0)), (1, .int a1)] dX11_count_6 rfl (by decide) rfl ?_
  refine a_iload_n dX11_count_7 2 rfl rfl ?_
  by_cases q1 : a1 = 0
  · replace hF := (if_pos q1).symm.trans hF
    refine a_tableIn 64 dX11_count_8 (by rw [q1]; decide) (by rw [q1]; decide) (by rw [q1]; rfl) (by decide) ?_
    refine a_iconst (v := (0 : Int32)) dX11_count_64 (by decide) ?_
    refine a_istore_n [(3, .int (0 : Int32)), (2, .int (0 : Int32)), (0, .ref (za Z 60 0)), (1, .int a1)] dX11_count_65 rfl (by decide) rfl ?_
    refine a_loc [(0, .ref (za Z 60 0)), (2, .int (0 : Int32)), (3, .int (0 : Int32))] [2, 1, 0] rfl ?_
    exact w_X11_count_66 (l := l) hZ   fu (0 : Int32) (0 : Int32)  _ hF
  replace hF := (if_neg q1).symm.trans hF
  by_cases q2 : a1 = 1
  · replace hF := (if_pos q2).symm.trans hF
    refine a_tableIn 97 dX11_count_8 (by rw [q2]; decide) (by rw [q2]; decide) (by rw [q2]; rfl) (by decide) ?_
    refine a_aload_n dX11_count_97 1 rfl rfl ?_
    refine a_getI hZ.1 (s 60 0 15) (hZ.2 60 0 (by decide) (by decide) Nat.one_pos) fl_X11_145 rfl (by simp [up]) dX11_count_98 ?_
    replace hF := Option.some.inj hF
    subst hF
    exact a_iret rfl (Nat.zero_le _) (Nat.zero_le _) dX11_count_101 ⟨rfl, rfl⟩
  replace hF := (if_neg q2).symm.trans hF
  by_cases q3 : a1 = 2
  · replace hF := (if_pos q3).symm.trans hF
    refine a_tableIn 102 dX11_count_8 (by rw [q3]; decide) (by rw [q3]; decide) (by rw [q3]; rfl) (by decide) ?_
    refine a_aload_n dX11_count_102 1 rfl rfl ?_
    refine a_getI hZ.1 (s 60 0 42) (hZ.2 60 0 (by decide) (by decide) Nat.one_pos) fl_X11_202 rfl (by simp [up]) dX11_count_103 ?_
    replace hF := Option.some.inj hF
    subst hF
    exact a_iret rfl (Nat.zero_le _) (Nat.zero_le _) dX11_count_106 ⟨rfl, rfl⟩
  replace hF := (if_neg q3).symm.trans hF
  by_cases q4 : a1 = 3
  · replace hF := (if_pos q4).symm.trans hF
    refine a_tableIn 107 dX11_count_8 (by rw [q4]; decide) (by rw [q4]; decide) (by rw [q4]; rfl) (by decide) ?_
    refine a_aload_n dX11_count_107 1 rfl rfl ?_
    refine a_getI hZ.1 (s 60 0 11) (hZ.2 60 0 (by decide) (by decide) Nat.one_pos) fl_X11_169 rfl (by simp [up]) dX11_count_108 ?_
    replace hF := Option.some.inj hF
    subst hF
    exact a_iret rfl (Nat.zero_le _) (Nat.zero_le _) dX11_count_111 ⟨rfl, rfl⟩
  replace hF := (if_neg q4).symm.trans hF
  by_cases q5 : a1 = 4
  · replace hF := (if_pos q5).symm.trans hF
    refine a_tableIn 112 dX11_count_8 (by rw [q5]; decide) (by rw [q5]; decide) (by rw [q5]; rfl) (by decide) ?_
    refine a_aload_n dX11_count_112 1 rfl rfl ?_
    refine a_getI hZ.1 (s 60 0 24) (hZ.2 60 0 (by decide) (by decide) Nat.one_pos) fl_X11_286 rfl (by simp [up]) dX11_count_113 ?_
    replace hF := Option.some.inj hF
    subst hF
    exact a_iret rfl (Nat.zero_le _) (Nat.zero_le _) dX11_count_116 ⟨rfl, rfl⟩
  replace hF := (if_neg q5).symm.trans hF
  by_cases q6 : a1 = 5
  · replace hF := (if_pos q6).symm.trans hF
    refine a_tableIn 117 dX11_count_8 (by rw [q6]; decide) (by rw [q6]; decide) (by rw [q6]; rfl) (by decide) ?_
    refine a_aload_n dX11_count_117 1 rfl rfl ?_
    refine a_getI hZ.1 (s 60 0 47) (hZ.2 60 0 (by decide) (by decide) Nat.one_pos) fl_X11_326 rfl (by simp [up]) dX11_count_118 ?_
    replace hF := Option.some.inj hF
    subst hF
    exact a_iret rfl (Nat.zero_le _) (Nat.zero_le _) dX11_count_121 ⟨rfl, rfl⟩
  replace hF := (if_neg q6).symm.trans hF
  by_cases q7 : a1 = 6
  · replace hF := (if_pos q7).symm.trans hF
    refine a_tableIn 122 dX11_count_8 (by rw [q7]; decide) (by rw [q7]; decide) (by rw [q7]; rfl) (by decide) ?_
    refine a_iconst (v := (0 : Int32)) dX11_count_122 (by decide) ?_
    refine a_istore_n [(3, .int (0 : Int32)), (2, .int (0 : Int32)), (0, .ref (za Z 60 0)), (1, .int a1)] dX11_count_123 rfl (by decide) rfl ?_
    refine a_loc [(0, .ref (za Z 60 0)), (2, .int (0 : Int32)), (3, .int (0 : Int32))] [2, 1, 0] rfl ?_
    exact w_X11_count_124 (l := l) hZ   fu (0 : Int32) (0 : Int32)  _ hF
  replace hF := (if_neg q7).symm.trans hF
  by_cases q8 : a1 = 7
  · replace hF := (if_pos q8).symm.trans hF
    refine a_tableIn 161 dX11_count_8 (by rw [q8]; decide) (by rw [q8]; decide) (by rw [q8]; rfl) (by decide) ?_
    refine a_aload_n dX11_count_161 1 rfl rfl ?_
    refine a_getI hZ.1 (s 60 0 10) (hZ.2 60 0 (by decide) (by decide) Nat.one_pos) fl_X11_188 rfl (by simp [up]) dX11_count_162 ?_
    replace hF := Option.some.inj hF
    subst hF
    exact a_iret rfl (Nat.zero_le _) (Nat.zero_le _) dX11_count_165 ⟨rfl, rfl⟩
  replace hF := (if_neg q8).symm.trans hF
  by_cases q9 : a1 = 8
  · replace hF := (if_pos q9).symm.trans hF
    refine a_tableIn 166 dX11_count_8 (by rw [q9]; decide) (by rw [q9]; decide) (by rw [q9]; rfl) (by decide) ?_
    refine a_aload_n dX11_count_166 1 rfl rfl ?_
    refine a_getI hZ.1 (s 60 0 31) (hZ.2 60 0 (by decide) (by decide) Nat.one_pos) fl_X11_217 rfl (by simp [up]) dX11_count_167 ?_
    replace hF := Option.some.inj hF
    subst hF
    exact a_iret rfl (Nat.zero_le _) (Nat.zero_le _) dX11_count_170 ⟨rfl, rfl⟩
  replace hF := (if_neg q9).symm.trans hF
  by_cases q10 : a1 = 9
  · replace hF := (if_pos q10).symm.trans hF
    refine a_tableIn 171 dX11_count_8 (by rw [q10]; decide) (by rw [q10]; decide) (by rw [q10]; rfl) (by decide) ?_
    refine a_iconst (v := (0 : Int32)) dX11_count_171 (by decide) ?_
    refine a_istore_n [(3, .int (0 : Int32)), (2, .int (0 : Int32)), (0, .ref (za Z 60 0)), (1, .int a1)] dX11_count_172 rfl (by decide) rfl ?_
    refine a_loc [(0, .ref (za Z 60 0)), (2, .int (0 : Int32)), (3, .int (0 : Int32))] [2, 1, 0] rfl ?_
    exact w_X11_count_173 (l := l) hZ   fu (0 : Int32) (0 : Int32)  _ hF
  replace hF := (if_neg q10).symm.trans hF
  refine a_tableOut 194 dX11_count_8 (by have n0 : (a1).toInt ≠ 0 := ne_ti q1; have n1 : (a1).toInt ≠ 1 := ne_ti q2; have n2 : (a1).toInt ≠ 2 := ne_ti q3; have n3 : (a1).toInt ≠ 3 := ne_ti q4; have n4 : (a1).toInt ≠ 4 := ne_ti q5; have n5 : (a1).toInt ≠ 5 := ne_ti q6; have n6 : (a1).toInt ≠ 6 := ne_ti q7; have n7 : (a1).toInt ≠ 7 := ne_ti q8; have n8 : (a1).toInt ≠ 8 := ne_ti q9; have n9 : (a1).toInt ≠ 9 := ne_ti q10; omega) (by decide) ?_
  refine a_ldc (v := (-1000001)) kw_1136 dX11_count_194 ?_
  replace hF := Option.some.inj hF
  subst hF
  exact a_iret rfl (Nat.zero_le _) (Nat.zero_le _) dX11_count_196 ⟨rfl, rfl⟩
theorem m_X11_count {Z : ZE} {l : Launch} (hZ : OkM Z) {a1 : Int32}  {s : St} {R : Int32 × St} (hF : F_X11_count (zg Z) a1 s = some R) : Sp Z l yX11_count iX11_count [.ref (za Z 60 0), .int a1] s (rI R) :=
  Sp.of (by decide) rfl (Nat.le_of_ble_eq_true rfl) (w_X11_count hZ  s hF)
-- X11_drop
set_option maxRecDepth 100000 in
set_option maxHeartbeats 4000000 in
theorem w_X11_drop {Z : ZE} {l : Launch} (hZ : OkM Z) {a1 : Int32}  {R : Int32 × St}    (s : St) (hF : F_X11_drop (zg Z) a1  s = some R) : AW Z l iX11_drop (Pq (rI R)) 0 0 0 [(0, .ref (za Z 60 0)), (1, .int a1)] [] s := by
  unfold F_X11_drop at hF
  refine a_aload_n dX11_drop_0 0 rfl rfl ?_
  refine a_iconst (v := (0 : Int32)) dX11_drop_1 (by decide) ?_
  refine a_put hZ.1 (hZ.2 60 0 (by decide) (by decide) Nat.one_pos) fl_X11_1 rfl rfl rfl dX11_drop_2 ?_
  refine a_iload_n dX11_drop_5 1 rfl rfl ?_
  obtain ⟨r6, s6, e6, hF⟩ := bd_some hF
  refine a_invS hZ.1 (As := [.int a1]) (rest := []) lk_X11_130 ⟨⟨by decide, by decide⟩, by decide, by decide⟩ rfl (Nat.le_of_ble_eq_true rfl) dX11_drop_6 (m_X11_isSheet hZ  e6) ?_
  show AW Z l iX11_drop (Pq (rI R)) 0 0 9 [(0, .ref (za Z 60 0)), (1, .int a1)] [.int r6] s6
  refine a_if_ne 15 dX11_drop_9 (by decide) (fun q1 => ?_) (fun q1 => ?_)
  · replace hF := (if_neg q1).symm.trans hF
    refine a_aload_n dX11_drop_15 0 rfl rfl ?_
    refine a_iconst (v := (0 : Int32)) dX11_drop_16 (by decide) ?_
    refine a_put hZ.1 (hZ.2 60 0 (by decide) (by decide) Nat.one_pos) fl_X11_7 rfl rfl rfl dX11_drop_17 ?_
    refine a_aload_n dX11_drop_20 0 rfl rfl ?_
    refine a_getR hZ.1 (hZ.2 60 0 (by decide) (by decide) Nat.one_pos) fl_X11_17 rfl 0 rfl dX11_drop_21 ?_
    refine a_iload_n dX11_drop_24 1 rfl rfl ?_
    obtain ⟨p2, hF⟩ := gd_some hF
    refine a_iald hZ.1 (s6 61 0 a1.toNatClampNeg) (hZ.2 61 0 (by decide) (by decide) Nat.one_pos) rfl rfl (inb_vp p2) rfl dX11_drop_25 ?_
    refine a_if_ge 35 dX11_drop_26 (by decide) (fun q3 => ?_) (fun q3 => ?_)
    · replace hF := (if_pos q3).symm.trans hF
      refine a_aload_n dX11_drop_35 0 rfl rfl ?_
      refine a_getR hZ.1 (hZ.2 60 0 (by decide) (by decide) Nat.one_pos) fl_X11_17 rfl 0 rfl dX11_drop_36 ?_
      refine a_iload_n dX11_drop_39 1 rfl rfl ?_
      refine a_iconst (v := (-1)) dX11_drop_40 (by decide) ?_
      obtain ⟨p4, hF⟩ := gd_some hF
      refine a_iast hZ.1 (hZ.2 61 0 (by decide) (by decide) Nat.one_pos) rfl rfl (inb_vp p4) dX11_drop_41 ?_
      refine a_aload_n dX11_drop_42 0 rfl rfl ?_
      refine a_getR hZ.1 (hZ.2 60 0 (by decide) (by decide) Nat.one_pos) fl_X11_21 rfl 0 rfl dX11_drop_43 ?_
      refine a_iload_n dX11_drop_46 1 rfl rfl ?_
      obtain ⟨p5, hF⟩ := gd_some hF
      refine a_iald hZ.1 (s6 62 0 a1.toNatClampNeg) (hZ.2 62 0 (by decide) (by decide) Nat.one_pos) rfl rfl (inb_vp p5) rfl dX11_drop_47 ?_
      replace hF := Option.some.inj hF
      subst hF
      exact a_iret rfl (Nat.zero_le _) (Nat.zero_le _) dX11_drop_48 ⟨rfl, rfl⟩
    · replace hF := (if_neg q3).symm.trans hF
      refine a_aload_n dX11_drop_29 0 rfl rfl ?_
      refine a_iconst (v := (1 : Int32)) dX11_drop_30 (by decide) ?_
      obtain ⟨r31, s31, e31, hF⟩ := bd_some hF
      refine a_invV hZ.1 (As := [.int (1 : Int32)]) (rest := []) (hZ.2 60 0 (by decide) (by decide) Nat.one_pos) lk_X11_137 ⟨⟨by decide, by decide⟩, by decide, by decide⟩ rfl (Nat.le_of_ble_eq_true rfl) dX11_drop_31 (m_X11_finding hZ  e31) ?_
      show AW Z l iX11_drop (Pq (rI R)) 0 0 34 [(0, .ref (za Z 60 0)), (1, .int a1)] [.int r31] s31
      replace hF := Option.some.inj hF
      subst hF
      exact a_iret rfl (Nat.zero_le _) (Nat.zero_le _) dX11_drop_34 ⟨rfl, rfl⟩
  · replace hF := (if_pos q1).symm.trans hF
    refine a_ldc (v := (-1000001)) kw_1136 dX11_drop_12 ?_
    replace hF := Option.some.inj hF
    subst hF
    exact a_iret rfl (Nat.zero_le _) (Nat.zero_le _) dX11_drop_14 ⟨rfl, rfl⟩
theorem m_X11_drop {Z : ZE} {l : Launch} (hZ : OkM Z) {a1 : Int32}  {s : St} {R : Int32 × St} (hF : F_X11_drop (zg Z) a1 s = some R) : Sp Z l yX11_drop iX11_drop [.ref (za Z 60 0), .int a1] s (rI R) :=
  Sp.of (by decide) rfl (Nat.le_of_ble_eq_true rfl) (w_X11_drop hZ  s hF)
-- X11_earnCoin
set_option maxRecDepth 100000 in
set_option maxHeartbeats 4000000 in
theorem w_X11_earnCoin_31 {Z : ZE} {l : Launch} (hZ : OkM Z) {a1 : Int32} {a2 : Int32}  {R : Unit × St}  (x1 : Int32) (x2 : Int32)  (s : St) (hF : F_X11_earnCoin_31 (zg Z) a1 a2 x1 x2 s = some R) : AW Z l iX11_earnCoin (Pq (rU R)) 0 0 31 [] [.int x2, .int x1, .ref (za Z 75 0)] s := by
  unfold F_X11_earnCoin_31 at hF
  obtain ⟨p1, hF⟩ := gd_some hF
  refine a_iast hZ.1 (hZ.2 75 0 (by decide) (by decide) Nat.one_pos) rfl rfl (inb_vp p1) dX11_earnCoin_31 ?_
  replace hF := Option.some.inj hF
  subst hF
  exact a_vret rfl (Nat.zero_le _) (Nat.zero_le _) dX11_earnCoin_32 ⟨rfl, rfl⟩
set_option maxRecDepth 100000 in
set_option maxHeartbeats 4000000 in
theorem w_X11_earnCoin {Z : ZE} {l : Launch} (hZ : OkM Z) {a1 : Int32} {a2 : Int32}  {R : Unit × St}    (s : St) (hF : F_X11_earnCoin (zg Z) a1 a2  s = some R) : AW Z l iX11_earnCoin (Pq (rU R)) 0 0 0 [(0, .ref (za Z 60 0)), (1, .int a1), (2, .int a2)] [] s := by
  unfold F_X11_earnCoin at hF
  refine a_aload_n dX11_earnCoin_0 0 rfl rfl ?_
  refine a_getR hZ.1 (hZ.2 60 0 (by decide) (by decide) Nat.one_pos) fl_X11_63 rfl 0 rfl dX11_earnCoin_1 ?_
  refine a_iload_n dX11_earnCoin_4 1 rfl rfl ?_
  obtain ⟨p1, hF⟩ := gd_some hF
  refine a_iald hZ.1 (s 75 0 a1.toNatClampNeg) (hZ.2 75 0 (by decide) (by decide) Nat.one_pos) rfl rfl (inb_vp p1) rfl dX11_earnCoin_5 ?_
  refine a_i2l dX11_earnCoin_6 ?_
  refine a_iload_n dX11_earnCoin_7 2 rfl rfl ?_
  refine a_i2l dX11_earnCoin_8 ?_
  refine a_ladd dX11_earnCoin_9 ?_
  refine a_lstore_n [(3, .long ((s 75 0 a1.toNatClampNeg).toInt64 + a2.toInt64)), (0, .ref (za Z 60 0)), (1, .int a1), (2, .int a2)] dX11_earnCoin_10 rfl (by decide) rfl ?_
  refine a_aload_n dX11_earnCoin_11 1 rfl rfl ?_
  refine a_getR hZ.1 (hZ.2 60 0 (by decide) (by decide) Nat.one_pos) fl_X11_63 rfl 0 rfl dX11_earnCoin_12 ?_
  refine a_iload_n dX11_earnCoin_15 2 rfl rfl ?_
  refine a_lload_n dX11_earnCoin_16 0 rfl rfl ?_
  refine a_ldc2 (v := (2000000000 : Int64)) kw_1221 dX11_earnCoin_17 ?_
  refine a_lcmp dX11_earnCoin_20 ?_
  refine a_if_le 29 dX11_earnCoin_21 (by decide) (fun q2 => ?_) (fun q2 => ?_)
  · replace hF := (if_pos q2).symm.trans hF
    refine a_lload_n dX11_earnCoin_29 0 rfl rfl ?_
    refine a_l2i dX11_earnCoin_30 ?_
    refine a_loc [] [] rfl ?_
    exact w_X11_earnCoin_31 (l := l) hZ   a1 (((s 75 0 a1.toNatClampNeg).toInt64 + a2.toInt64).toInt32)  _ hF
  · replace hF := (if_neg q2).symm.trans hF
    refine a_ldc (v := (2000000000 : Int32)) kw_1222 dX11_earnCoin_24 ?_
    refine a_goto 31 dX11_earnCoin_26 (by decide) ?_
    refine a_loc [] [] rfl ?_
    exact w_X11_earnCoin_31 (l := l) hZ   a1 (2000000000 : Int32)  _ hF
theorem m_X11_earnCoin {Z : ZE} {l : Launch} (hZ : OkM Z) {a1 : Int32} {a2 : Int32}  {s : St} {R : Unit × St} (hF : F_X11_earnCoin (zg Z) a1 a2 s = some R) : Sp Z l yX11_earnCoin iX11_earnCoin [.ref (za Z 60 0), .int a1, .int a2] s (rU R) :=
  Sp.of (by decide) rfl (Nat.le_of_ble_eq_true rfl) (w_X11_earnCoin hZ  s hF)
-- X11_earnOn
set_option maxRecDepth 100000 in
set_option maxHeartbeats 4000000 in
theorem w_X11_earnOn {Z : ZE} {l : Launch} (hZ : OkM Z) {a1 : Int32} {a2 : Int32}  {R : Int32 × St}    (s : St) (hF : F_X11_earnOn (zg Z) a1 a2  s = some R) : AW Z l iX11_earnOn (Pq (rI R)) 0 0 0 [(0, .ref (za Z 60 0)), (1, .int a1), (2, .int a2)] [] s := by
  unfold F_X11_earnOn at hF
  refine a_sipush (v := (3000 : Int32)) dX11_earnOn_0 (by decide) ?_
  refine a_bipush (v := (50 : Int32)) dX11_earnOn_3 (by decide) ?_
  refine a_aload_n dX11_earnOn_5 0 rfl rfl ?_
  refine a_getR hZ.1 (hZ.2 60 0 (by decide) (by decide) Nat.one_pos) fl_X11_30 rfl 0 rfl dX11_earnOn_6 ?_
  refine a_iload_n dX11_earnOn_9 1 rfl rfl ?_
  obtain ⟨p1, hF⟩ := gd_some hF
  refine a_iald hZ.1 (s 65 0 a1.toNatClampNeg) (hZ.2 65 0 (by decide) (by decide) Nat.one_pos) rfl rfl (inb_vp p1) rfl dX11_earnOn_10 ?_
  refine a_iadd dX11_earnOn_11 ?_
  obtain ⟨p2, hF⟩ := gd_some hF
  refine a_idiv dX11_earnOn_12 (ne0_n p2) ?_
  refine a_aload_n dX11_earnOn_13 0 rfl rfl ?_
  refine a_iload_n dX11_earnOn_14 2 rfl rfl ?_
  refine a_iconst (v := (0 : Int32)) dX11_earnOn_15 (by decide) ?_
  refine a_iload_n dX11_earnOn_16 1 rfl rfl ?_
  obtain ⟨r17, s17, e17, hF⟩ := bd_some hF
  refine a_invV hZ.1 (As := [.int a2, .int (0 : Int32), .int a1]) (rest := [.int ((3000 : Int32) / ((50 : Int32) + (s 65 0 a1.toNatClampNeg)))]) (hZ.2 60 0 (by decide) (by decide) Nat.one_pos) lk_X11_298 ⟨⟨by decide, by decide⟩, by decide, by decide⟩ rfl (Nat.le_of_ble_eq_true rfl) dX11_earnOn_17 (m_X11_numberFor hZ  e17) ?_
  show AW Z l iX11_earnOn (Pq (rI R)) 0 0 20 [(0, .ref (za Z 60 0)), (1, .int a1), (2, .int a2)] [.int r17, .int ((3000 : Int32) / ((50 : Int32) + (s 65 0 a1.toNatClampNeg)))] s17
  refine a_imul dX11_earnOn_20 ?_
  replace hF := Option.some.inj hF
  subst hF
  exact a_iret rfl (Nat.zero_le _) (Nat.zero_le _) dX11_earnOn_21 ⟨rfl, rfl⟩
theorem m_X11_earnOn {Z : ZE} {l : Launch} (hZ : OkM Z) {a1 : Int32} {a2 : Int32}  {s : St} {R : Int32 × St} (hF : F_X11_earnOn (zg Z) a1 a2 s = some R) : Sp Z l yX11_earnOn iX11_earnOn [.ref (za Z 60 0), .int a1, .int a2] s (rI R) :=
  Sp.of (by decide) rfl (Nat.le_of_ble_eq_true rfl) (w_X11_earnOn hZ  s hF)
-- X11_fault
set_option maxRecDepth 100000 in
set_option maxHeartbeats 4000000 in
theorem w_X11_fault {Z : ZE} {l : Launch} (hZ : OkM Z)   {R : Int32 × St}    (s : St) (hF : F_X11_fault (zg Z)   s = some R) : AW Z l iX11_fault (Pq (rI R)) 0 0 0 [(0, .ref (za Z 60 0))] [] s := by
  unfold F_X11_fault at hF
  refine a_aload_n dX11_fault_0 0 rfl rfl ?_
  refine a_iconst (v := (0 : Int32)) dX11_fault_1 (by decide) ?_
  refine a_put hZ.1 (hZ.2 60 0 (by decide) (by decide) Nat.one_pos) fl_X11_1 rfl rfl rfl dX11_fault_2 ?_
  refine a_aload_n dX11_fault_5 0 rfl rfl ?_
  refine a_getI hZ.1 (s 60 0 32) (hZ.2 60 0 (by decide) (by decide) Nat.one_pos) fl_X11_294 rfl (by simp [up]) dX11_fault_6 ?_
  replace hF := Option.some.inj hF
  subst hF
  exact a_iret rfl (Nat.zero_le _) (Nat.zero_le _) dX11_fault_9 ⟨rfl, rfl⟩
theorem m_X11_fault {Z : ZE} {l : Launch} (hZ : OkM Z)   {s : St} {R : Int32 × St} (hF : F_X11_fault (zg Z)  s = some R) : Sp Z l yX11_fault iX11_fault [.ref (za Z 60 0)] s (rI R) :=
  Sp.of (by decide) rfl (Nat.le_of_ble_eq_true rfl) (w_X11_fault hZ  s hF)
-- X11_feed
set_option maxRecDepth 100000 in
set_option maxHeartbeats 4000000 in
theorem w_X11_feed_40 {Z : ZE} {l : Launch} (hZ : OkM Z) {a1 : Int64} {a3 : Int32}  {R : Int32 × St}  : ∀ (n_ : Nat) (v4 : Int32)  (s : St), F_X11_feed_40 (zg Z) a1 a3 n_ v4 s = some R → AW Z l iX11_feed (Pq (rI R)) 0 0 40 [(0, .ref (za Z 60 0)), (1, .long a1), (4, .int v4)] [] s := by
  intro n_
  induction n_ with
  | zero =>
    intro v4 s hF
    exact absurd hF (by rw [F_X11_feed_40]; exact fun q => by cases q)
  | succ n_ w40_ =>
    intro v4 s hF
    rw [F_X11_feed_40] at hF
    refine a_iload dX11_feed_40 2 rfl ?_
    refine a_if_lt 82 dX11_feed_42 (by decide) (fun q1 => ?_) (fun q1 => ?_)
    · replace hF := (if_pos q1).symm.trans hF
      refine a_aload_n dX11_feed_82 0 rfl rfl ?_
      refine a_getI hZ.1 (s 60 0 31) (hZ.2 60 0 (by decide) (by decide) Nat.one_pos) fl_X11_217 rfl rfl dX11_feed_83 ?_
      replace hF := Option.some.inj hF
      subst hF
      exact a_iret rfl (Nat.zero_le _) (Nat.zero_le _) dX11_feed_86 ⟨rfl, rfl⟩
    · replace hF := (if_neg q1).symm.trans hF
      refine a_aload_n dX11_feed_45 0 rfl rfl ?_
      refine a_getR hZ.1 (hZ.2 60 0 (by decide) (by decide) Nat.one_pos) fl_X11_85 rfl 0 rfl dX11_feed_46 ?_
      refine a_aload_n dX11_feed_49 0 rfl rfl ?_
      refine a_getI hZ.1 (s 60 0 31) (hZ.2 60 0 (by decide) (by decide) Nat.one_pos) fl_X11_217 rfl rfl dX11_feed_50 ?_
      refine a_lload_n dX11_feed_53 1 rfl rfl ?_
      refine a_bipush (v := (8 : Int32)) dX11_feed_54 (by decide) ?_
      refine a_iload dX11_feed_56 2 rfl ?_
      refine a_imul dX11_feed_58 ?_
      refine a_lshr dX11_feed_59 ?_
      refine a_ldc2 (v := (255 : Int64)) kw_1257 dX11_feed_60 ?_
      refine a_land dX11_feed_63 ?_
      refine a_l2i dX11_feed_64 ?_
      obtain ⟨p2, hF⟩ := gd_some hF
      refine a_iast hZ.1 (hZ.2 82 0 (by decide) (by decide) Nat.one_pos) rfl rfl (inb_vp p2) dX11_feed_65 ?_
      refine a_aload_n dX11_feed_66 0 rfl rfl ?_
      refine a_dup dX11_feed_67 rfl ?_
      refine a_getI hZ.1 (s 60 0 31) (hZ.2 60 0 (by decide) (by decide) Nat.one_pos) fl_X11_217 rfl rfl dX11_feed_68 ?_
      refine a_iconst (v := (1 : Int32)) dX11_feed_71 (by decide) ?_
      refine a_iadd dX11_feed_72 ?_
      refine a_put hZ.1 (hZ.2 60 0 (by decide) (by decide) Nat.one_pos) fl_X11_217 rfl rfl rfl dX11_feed_73 ?_
      refine a_iinc [(4, .int (v4 + (-1))), (0, .ref (za Z 60 0)), (1, .long a1)] dX11_feed_76 2 rfl rfl (by decide) rfl ?_
      refine a_goto 40 dX11_feed_79 (by decide) ?_
      refine a_loc [(0, .ref (za Z 60 0)), (1, .long a1), (4, .int (v4 + (-1)))] [1, 2, 0] rfl ?_
      exact w40_ (v4 + (-1))  _ hF
set_option maxRecDepth 100000 in
set_option maxHeartbeats 4000000 in
theorem w_X11_feed {Z : ZE} {l : Launch} (hZ : OkM Z) {a1 : Int64} {a3 : Int32}  {R : Int32 × St}    (s : St) (hF : F_X11_feed (zg Z) a1 a3  s = some R) : AW Z l iX11_feed (Pq (rI R)) 0 0 0 [(0, .ref (za Z 60 0)), (1, .long a1), (3, .int a3)] [] s := by
  unfold F_X11_feed at hF
  refine a_aload_n dX11_feed_0 0 rfl rfl ?_
  refine a_iconst (v := (0 : Int32)) dX11_feed_1 (by decide) ?_
  refine a_put hZ.1 (hZ.2 60 0 (by decide) (by decide) Nat.one_pos) fl_X11_1 rfl rfl rfl dX11_feed_2 ?_
  refine a_iload_n dX11_feed_5 2 rfl rfl ?_
  refine a_i2l dX11_feed_6 ?_
  refine a_lconst (v := (1 : Int64)) dX11_feed_7 (by decide) ?_
  refine a_ldc2 (v := (8 : Int64)) kw_1256 dX11_feed_8 ?_
  obtain ⟨r11, s11, e11, hF⟩ := bd_some hF
  refine a_invS hZ.1 (As := [.long a3.toInt64, .long (1 : Int64), .long (8 : Int64)]) (rest := []) lk_X11_126 ⟨⟨by decide, by decide⟩, by decide, by decide⟩ rfl (Nat.le_of_ble_eq_true rfl) dX11_feed_11 (m_X11_in hZ  e11) ?_
  show AW Z l iX11_feed (Pq (rI R)) 0 0 14 [(0, .ref (za Z 60 0)), (1, .long a1), (3, .int a3)] [.int r11] s11
  refine a_if_ne 20 dX11_feed_14 (by decide) (fun q1 => ?_) (fun q1 => ?_)
  · replace hF := (if_neg q1).symm.trans hF
    refine a_aload_n dX11_feed_20 0 rfl rfl ?_
    refine a_getI hZ.1 (s11 60 0 31) (hZ.2 60 0 (by decide) (by decide) Nat.one_pos) fl_X11_217 rfl rfl dX11_feed_21 ?_
    refine a_iload_n dX11_feed_24 2 rfl rfl ?_
    refine a_iadd dX11_feed_25 ?_
    refine a_sipush (v := (400 : Int32)) dX11_feed_26 (by decide) ?_
    refine a_icmp_le 35 dX11_feed_29 (by decide) (fun q2 => ?_) (fun q2 => ?_)
    · replace hF := (if_pos q2).symm.trans hF
      refine a_iload_n dX11_feed_35 2 rfl rfl ?_
      refine a_iconst (v := (1 : Int32)) dX11_feed_36 (by decide) ?_
      refine a_isub dX11_feed_37 ?_
      refine a_istore [(4, .int (a3 - (1 : Int32))), (0, .ref (za Z 60 0)), (1, .long a1), (3, .int a3)] dX11_feed_38 (by decide) rfl ?_
      refine a_loc [(0, .ref (za Z 60 0)), (1, .long a1), (4, .int (a3 - (1 : Int32)))] [1, 2, 0] rfl ?_
      exact w_X11_feed_40 (l := l) hZ   fu (a3 - (1 : Int32))  _ hF
    · replace hF := (if_neg q2).symm.trans hF
      refine a_ldc (v := (-1000003)) kw_1176 dX11_feed_32 ?_
      replace hF := Option.some.inj hF
      subst hF
      exact a_iret rfl (Nat.zero_le _) (Nat.zero_le _) dX11_feed_34 ⟨rfl, rfl⟩
  · replace hF := (if_pos q1).symm.trans hF
    refine a_ldc (v := (-1000001)) kw_1136 dX11_feed_17 ?_
    replace hF := Option.some.inj hF
    subst hF
    exact a_iret rfl (Nat.zero_le _) (Nat.zero_le _) dX11_feed_19 ⟨rfl, rfl⟩
theorem m_X11_feed {Z : ZE} {l : Launch} (hZ : OkM Z) {a1 : Int64} {a3 : Int32}  {s : St} {R : Int32 × St} (hF : F_X11_feed (zg Z) a1 a3 s = some R) : Sp Z l yX11_feed iX11_feed [.ref (za Z 60 0), .long a1, .int a3] s (rI R) :=
  Sp.of (by decide) rfl (Nat.le_of_ble_eq_true rfl) (w_X11_feed hZ  s hF)
-- X11_findFirst
set_option maxRecDepth 100000 in
set_option maxHeartbeats 4000000 in
theorem w_X11_findFirst_106 {Z : ZE} {l : Launch} (hZ : OkM Z) {a1 : Int32}  {R : Int32 × St} (h9_ : Int32 → Int32 → St → Option (Int32 × St)) (w9_ : ∀ (v2 : Int32) (v3 : Int32)  (s : St), h9_ v2 v3 s = some R → AW Z l iX11_findFirst (Pq (rI R)) 0 0 9 [(0, .ref (za Z 60 0)), (1, .int a1), (2, .int v2), (3, .int v3)] [] s) (v2 : Int32) (v3 : Int32)  (s : St) (hF : F_X11_findFirst_106 (zg Z) a1 h9_ v2 v3 s = some R) : AW Z l iX11_findFirst (Pq (rI R)) 0 0 106 [(0, .ref (za Z 60 0)), (1, .int a1), (2, .int v2), (3, .int v3)] [] s := by
  unfold F_X11_findFirst_106 at hF
  refine a_iinc [(3, .int (v3 + 1)), (0, .ref (za Z 60 0)), (1, .int a1), (2, .int v2)] dX11_findFirst_106 3 rfl rfl (by decide) rfl ?_
  refine a_goto 9 dX11_findFirst_109 (by decide) ?_
  refine a_loc [(0, .ref (za Z 60 0)), (1, .int a1), (2, .int v2), (3, .int (v3 + 1))] [1, 2, 3, 0] rfl ?_
  exact w9_ v2 (v3 + 1)  _ hF
set_option maxRecDepth 100000 in
set_option maxHeartbeats 4000000 in
theorem w_X11_findFirst_100 {Z : ZE} {l : Launch} (hZ : OkM Z) {a1 : Int32}  {R : Int32 × St} (h17_ : Int32 → Int32 → Int32 → St → Option (Int32 × St)) (w17_ : ∀ (v2 : Int32) (v3 : Int32) (v4 : Int32)  (s : St), h17_ v2 v3 v4 s = some R → AW Z l iX11_findFirst (Pq (rI R)) 0 0 17 [(0, .ref (za Z 60 0)), (1, .int a1), (2, .int v2), (3, .int v3), (4, .int v4)] [] s) (h106_ : Int32 → Int32 → St → Option (Int32 × St)) (w106_ : ∀ (v2 : Int32) (v3 : Int32)  (s : St), h106_ v2 v3 s = some R → AW Z l iX11_findFirst (Pq (rI R)) 0 0 106 [(0, .ref (za Z 60 0)), (1, .int a1), (2, .int v2), (3, .int v3)] [] s) (v2 : Int32) (v3 : Int32) (v4 : Int32)  (s : St) (hF : F_X11_findFirst_100 (zg Z) a1 h17_ h106_ v2 v3 v4 s = some R) : AW Z l iX11_findFirst (Pq (rI R)) 0 0 100 [(0, .ref (za Z 60 0)), (1, .int a1), (2, .int v2), (3, .int v3), (4, .int v4)] [] s := by
  unfold F_X11_findFirst_100 at hF
  refine a_iinc [(4, .int (v4 + 1)), (0, .ref (za Z 60 0)), (1, .int a1), (2, .int v2), (3, .int v3)] dX11_findFirst_100 4 rfl rfl (by decide) rfl ?_
  refine a_goto 17 dX11_findFirst_103 (by decide) ?_
  refine a_loc [(0, .ref (za Z 60 0)), (1, .int a1), (2, .int v2), (3, .int v3), (4, .int (v4 + 1))] [1, 2, 3, 4, 0] rfl ?_
  exact w17_ v2 v3 (v4 + 1)  _ hF
set_option maxRecDepth 100000 in
set_option maxHeartbeats 4000000 in
theorem w_X11_findFirst_17 {Z : ZE} {l : Launch} (hZ : OkM Z) {a1 : Int32}  {R : Int32 × St} (h106_ : Int32 → Int32 → St → Option (Int32 × St)) (w106_ : ∀ (v2 : Int32) (v3 : Int32)  (s : St), h106_ v2 v3 s = some R → AW Z l iX11_findFirst (Pq (rI R)) 0 0 106 [(0, .ref (za Z 60 0)), (1, .int a1), (2, .int v2), (3, .int v3)] [] s) : ∀ (n_ : Nat) (v2 : Int32) (v3 : Int32) (v4 : Int32)  (s : St), F_X11_findFirst_17 (zg Z) a1 h106_ n_ v2 v3 v4 s = some R → AW Z l iX11_findFirst (Pq (rI R)) 0 0 17 [(0, .ref (za Z 60 0)), (1, .int a1), (2, .int v2), (3, .int v3), (4, .int v4)] [] s := by
  intro n_
  induction n_ with
  | zero =>
    intro v2 v3 v4 s hF
    exact absurd hF (by rw [F_X11_findFirst_17]; exact fun q => by cases q)
  | succ n_ w17_ =>
    intro v2 v3 v4 s hF
    rw [F_X11_findFirst_17] at hF
    refine a_iload dX11_findFirst_17 4 rfl ?_
    refine a_aload_n dX11_findFirst_19 0 rfl rfl ?_
    refine a_getI hZ.1 (s 60 0 24) (hZ.2 60 0 (by decide) (by decide) Nat.one_pos) fl_X11_286 rfl rfl dX11_findFirst_20 ?_
    refine a_icmp_ge 106 dX11_findFirst_23 (by decide) (fun q1 => ?_) (fun q1 => ?_)
    · replace hF := (if_pos q1).symm.trans hF
      refine a_loc [(0, .ref (za Z 60 0)), (1, .int a1), (2, .int v2), (3, .int v3)] [0, 1, 2, 3] rfl ?_
      exact w106_ v2 v3  _ hF
    · replace hF := (if_neg q1).symm.trans hF
      refine a_aload_n dX11_findFirst_26 0 rfl rfl ?_
      refine a_getR hZ.1 (hZ.2 60 0 (by decide) (by decide) Nat.one_pos) fl_X11_76 rfl 0 rfl dX11_findFirst_27 ?_
      refine a_iload dX11_findFirst_30 4 rfl ?_
      obtain ⟨p2, hF⟩ := gd_some hF
      refine a_iald hZ.1 (s 79 0 v4.toNatClampNeg) (hZ.2 79 0 (by decide) (by decide) Nat.one_pos) rfl rfl (inb_vp p2) rfl dX11_findFirst_32 ?_
      refine a_iconst (v := (4 : Int32)) dX11_findFirst_33 (by decide) ?_
      refine a_icmp_ne 100 dX11_findFirst_34 (by decide) (fun q3 => ?_) (fun q3 => ?_)
      · replace hF := (if_neg q3).symm.trans hF
        exact w_X11_findFirst_100 (l := l) hZ  (F_X11_findFirst_17 (zg Z) a1 h106_ n_) w17_ h106_ w106_ v2 v3 v4  _ hF
      · replace hF := (if_pos q3).symm.trans hF
        refine a_aload_n dX11_findFirst_37 0 rfl rfl ?_
        refine a_getR hZ.1 (hZ.2 60 0 (by decide) (by decide) Nat.one_pos) fl_X11_73 rfl 0 rfl dX11_findFirst_38 ?_
        refine a_iload dX11_findFirst_41 4 rfl ?_
        obtain ⟨p4, hF⟩ := gd_some hF
        refine a_iald hZ.1 (s 78 0 v4.toNatClampNeg) (hZ.2 78 0 (by decide) (by decide) Nat.one_pos) rfl rfl (inb_vp p4) rfl dX11_findFirst_43 ?_
        refine a_iload_n dX11_findFirst_44 3 rfl rfl ?_
        refine a_icmp_ne 100 dX11_findFirst_45 (by decide) (fun q5 => ?_) (fun q5 => ?_)
        · replace hF := (if_neg q5).symm.trans hF
          exact w_X11_findFirst_100 (l := l) hZ  (F_X11_findFirst_17 (zg Z) a1 h106_ n_) w17_ h106_ w106_ v2 v3 v4  _ hF
        · replace hF := (if_pos q5).symm.trans hF
          refine a_iload_n dX11_findFirst_48 2 rfl rfl ?_
          refine a_aload_n dX11_findFirst_49 0 rfl rfl ?_
          refine a_getR hZ.1 (hZ.2 60 0 (by decide) (by decide) Nat.one_pos) fl_X11_79 rfl 0 rfl dX11_findFirst_50 ?_
          refine a_iload dX11_findFirst_53 4 rfl ?_
          obtain ⟨p6, hF⟩ := gd_some hF
          refine a_iald hZ.1 (s 80 0 v4.toNatClampNeg) (hZ.2 80 0 (by decide) (by decide) Nat.one_pos) rfl rfl (inb_vp p6) rfl dX11_findFirst_55 ?_
          refine a_ishr dX11_findFirst_56 ?_
          refine a_iconst (v := (1 : Int32)) dX11_findFirst_57 (by decide) ?_
          refine a_iand dX11_findFirst_58 ?_
          refine a_if_ne 100 dX11_findFirst_59 (by decide) (fun q7 => ?_) (fun q7 => ?_)
          · replace hF := (if_neg q7).symm.trans hF
            exact w_X11_findFirst_100 (l := l) hZ  (F_X11_findFirst_17 (zg Z) a1 h106_ n_) w17_ h106_ w106_ v2 v3 v4  _ hF
          · replace hF := (if_pos q7).symm.trans hF
            refine a_iload_n dX11_findFirst_62 2 rfl rfl ?_
            refine a_iconst (v := (1 : Int32)) dX11_findFirst_63 (by decide) ?_
            refine a_aload_n dX11_findFirst_64 0 rfl rfl ?_
            refine a_getR hZ.1 (hZ.2 60 0 (by decide) (by decide) Nat.one_pos) fl_X11_79 rfl 0 rfl dX11_findFirst_65 ?_
            refine a_iload dX11_findFirst_68 4 rfl ?_
            obtain ⟨p8, hF⟩ := gd_some hF
            refine a_iald hZ.1 (s 80 0 v4.toNatClampNeg) (hZ.2 80 0 (by decide) (by decide) Nat.one_pos) rfl rfl (inb_vp p8) rfl dX11_findFirst_70 ?_
            refine a_ishl dX11_findFirst_71 ?_
            refine a_ior dX11_findFirst_72 ?_
            refine a_istore_n [(2, .int (v2 ||| ((1 : Int32) <<< ((s 80 0 v4.toNatClampNeg) &&& 31)))), (0, .ref (za Z 60 0)), (1, .int a1), (3, .int v3), (4, .int v4)] dX11_findFirst_73 rfl (by decide) rfl ?_
            refine a_aload_n dX11_findFirst_74 1 rfl rfl ?_
            refine a_getR hZ.1 (hZ.2 60 0 (by decide) (by decide) Nat.one_pos) fl_X11_88 rfl 0 rfl dX11_findFirst_75 ?_
            refine a_aload_n dX11_findFirst_78 1 rfl rfl ?_
            refine a_getI hZ.1 (s 60 0 40) (hZ.2 60 0 (by decide) (by decide) Nat.one_pos) fl_X11_302 rfl rfl dX11_findFirst_79 ?_
            refine a_aload_n dX11_findFirst_82 1 rfl rfl ?_
            refine a_getR hZ.1 (hZ.2 60 0 (by decide) (by decide) Nat.one_pos) fl_X11_79 rfl 0 rfl dX11_findFirst_83 ?_
            refine a_iload dX11_findFirst_86 4 rfl ?_
            obtain ⟨p9, hF⟩ := gd_some hF
            refine a_iald hZ.1 (s 80 0 v4.toNatClampNeg) (hZ.2 80 0 (by decide) (by decide) Nat.one_pos) rfl rfl (inb_vp p9) rfl dX11_findFirst_88 ?_
            obtain ⟨p10, hF⟩ := gd_some hF
            refine a_iast hZ.1 (hZ.2 83 0 (by decide) (by decide) Nat.one_pos) rfl rfl (inb_vp p10) dX11_findFirst_89 ?_
            refine a_aload_n dX11_findFirst_90 1 rfl rfl ?_
            refine a_dup dX11_findFirst_91 rfl ?_
            refine a_getI hZ.1 (s 60 0 40) (hZ.2 60 0 (by decide) (by decide) Nat.one_pos) fl_X11_302 rfl rfl dX11_findFirst_92 ?_
            refine a_iconst (v := (1 : Int32)) dX11_findFirst_95 (by decide) ?_
            refine a_iadd dX11_findFirst_96 ?_
            refine a_put hZ.1 (hZ.2 60 0 (by decide) (by decide) Nat.one_pos) fl_X11_302 rfl rfl rfl dX11_findFirst_97 ?_
            refine a_loc [(0, .ref (za Z 60 0)), (1, .int a1), (2, .int (v2 ||| ((1 : Int32) <<< ((s 80 0 v4.toNatClampNeg) &&& 31)))), (3, .int v3), (4, .int v4)] [1, 2, 0, 3, 4] rfl ?_
            exact w_X11_findFirst_100 (l := l) hZ  (F_X11_findFirst_17 (zg Z) a1 h106_ n_) w17_ h106_ w106_ (v2 ||| ((1 : Int32) <<< ((s 80 0 v4.toNatClampNeg) &&& 31))) v3 v4  _ hF
set_option maxRecDepth 100000 in
set_option maxHeartbeats 4000000 in
theorem w_X11_findFirst_9 {Z : ZE} {l : Launch} (hZ : OkM Z) {a1 : Int32}  {R : Int32 × St}  : ∀ (n_ : Nat) (v2 : Int32) (v3 : Int32)  (s : St), F_X11_findFirst_9 (zg Z) a1 n_ v2 v3 s = some R → AW Z l iX11_findFirst (Pq (rI R)) 0 0 9 [(0, .ref (za Z 60 0)), (1, .int a1), (2, .int v2), (3, .int v3)] [] s := by
  intro n_
  induction n_ with
  | zero =>
    intro v2 v3 s hF
    exact absurd hF (by rw [F_X11_findFirst_9]; exact fun q => by cases q)
  | succ n_ w9_ =>
    intro v2 v3 s hF
    rw [F_X11_findFirst_9] at hF
    refine a_iload_n dX11_findFirst_9 3 rfl rfl ?_
    refine a_iload_n dX11_findFirst_10 1 rfl rfl ?_
    refine a_icmp_gt 112 dX11_findFirst_11 (by decide) (fun q1 => ?_) (fun q1 => ?_)
    · replace hF := (if_pos q1).symm.trans hF
      refine a_iload_n dX11_findFirst_112 2 rfl rfl ?_
      replace hF := Option.some.inj hF
      subst hF
      exact a_iret rfl (Nat.zero_le _) (Nat.zero_le _) dX11_findFirst_113 ⟨rfl, rfl⟩
    · replace hF := (if_neg q1).symm.trans hF
      refine a_iconst (v := (0 : Int32)) dX11_findFirst_14 (by decide) ?_
      refine a_istore [(4, .int (0 : Int32)), (0, .ref (za Z 60 0)), (1, .int a1), (2, .int v2), (3, .int v3)] dX11_findFirst_15 (by decide) rfl ?_
      refine a_loc [(0, .ref (za Z 60 0)), (1, .int a1), (2, .int v2), (3, .int v3), (4, .int (0 : Int32))] [1, 2, 3, 4, 0] rfl ?_
      exact w_X11_findFirst_17 (l := l) hZ  (F_X11_findFirst_106 (zg Z) a1 (F_X11_findFirst_9 (zg Z) a1 n_)) (w_X11_findFirst_106 (l := l) hZ  (F_X11_findFirst_9 (zg Z) a1 n_) w9_) fu v2 v3 (0 : Int32)  _ hF
set_option maxRecDepth 100000 in
set_option maxHeartbeats 4000000 in
theorem w_X11_findFirst {Z : ZE} {l : Launch} (hZ : OkM Z) {a1 : Int32}  {R : Int32 × St}    (s : St) (hF : F_X11_findFirst (zg Z) a1  s = some R) : AW Z l iX11_findFirst (Pq (rI R)) 0 0 0 [(0, .ref (za Z 60 0)), (1, .int a1)] [] s := by
  unfold F_X11_findFirst at hF
  refine a_iconst (v := (0 : Int32)) dX11_findFirst_0 (by decide) ?_
  refine a_istore_n [(2, .int (0 : Int32)), (0, .ref (za Z 60 0)), (1, .int a1)] dX11_findFirst_1 rfl (by decide) rfl ?_
  refine a_aload_n dX11_findFirst_2 1 rfl rfl ?_
  refine a_iconst (v := (0 : Int32)) dX11_findFirst_3 (by decide) ?_
  refine a_put hZ.1 (hZ.2 60 0 (by decide) (by decide) Nat.one_pos) fl_X11_302 rfl rfl rfl dX11_findFirst_4 ?_
  refine a_iconst (v := (0 : Int32)) dX11_findFirst_7 (by decide) ?_
  refine a_istore_n [(3, .int (0 : Int32)), (2, .int (0 : Int32)), (0, .ref (za Z 60 0)), (1, .int a1)] dX11_findFirst_8 rfl (by decide) rfl ?_
  refine a_loc [(0, .ref (za Z 60 0)), (1, .int a1), (2, .int (0 : Int32)), (3, .int (0 : Int32))] [2, 3, 1, 0] rfl ?_
  exact w_X11_findFirst_9 (l := l) hZ   fu (0 : Int32) (0 : Int32)  _ hF
theorem m_X11_findFirst {Z : ZE} {l : Launch} (hZ : OkM Z) {a1 : Int32}  {s : St} {R : Int32 × St} (hF : F_X11_findFirst (zg Z) a1 s = some R) : Sp Z l yX11_findFirst iX11_findFirst [.ref (za Z 60 0), .int a1] s (rI R) :=
  Sp.of (by decide) rfl (Nat.le_of_ble_eq_true rfl) (w_X11_findFirst hZ  s hF)
-- X11_isWeek
set_option maxRecDepth 100000 in
set_option maxHeartbeats 4000000 in
theorem w_X11_isWeek {Z : ZE} {l : Launch} (hZ : OkM Z) {a0 : Int32}  {R : Int32 × St}    (s : St) (hF : F_X11_isWeek (zg Z) a0  s = some R) : AW Z l iX11_isWeek (Pq (rI R)) 0 0 0 [(0, .int a0)] [] s := by
  unfold F_X11_isWeek at hF
  refine a_iload_n dX11_isWeek_0 0 rfl rfl ?_
  refine a_i2l dX11_isWeek_1 ?_
  refine a_lconst (v := (0 : Int64)) dX11_isWeek_2 (by decide) ?_
  refine a_ldc2 (v := (99 : Int64)) kw_1164 dX11_isWeek_3 ?_
  obtain ⟨r6, s6, e6, hF⟩ := bd_some hF
  refine a_invS hZ.1 (As := [.long a0.toInt64, .long (0 : Int64), .long (99 : Int64)]) (rest := []) lk_X11_126 ⟨⟨by decide, by decide⟩, by decide, by decide⟩ rfl (Nat.le_of_ble_eq_true rfl) dX11_isWeek_6 (m_X11_in hZ  e6) ?_
  show AW Z l iX11_isWeek (Pq (rI R)) 0 0 9 [(0, .int a0)] [.int r6] s6
  obtain ⟨p1, hF⟩ := gd_some hF
  replace hF := Option.some.inj hF
  subst hF
  exact a_zret rfl (isb_n p1) (Nat.zero_le _) (Nat.zero_le _) dX11_isWeek_9 ⟨rfl, rfl⟩
theorem m_X11_isWeek {Z : ZE} {l : Launch} (hZ : OkM Z) {a0 : Int32}  {s : St} {R : Int32 × St} (hF : F_X11_isWeek (zg Z) a0 s = some R) : Sp Z l yX11_isWeek iX11_isWeek [.int a0] s (rI R) :=
  Sp.of (by decide) rfl (Nat.le_of_ble_eq_true rfl) (w_X11_isWeek hZ  s hF)
-- X11_first
set_option maxRecDepth 100000 in
set_option maxHeartbeats 4000000 in
theorem w_X11_first {Z : ZE} {l : Launch} (hZ : OkM Z) {a1 : Int32} {a2 : Int32}  {R : Int32 × St}    (s : St) (hF : F_X11_first (zg Z) a1 a2  s = some R) : AW Z l iX11_first (Pq (rI R)) 0 0 0 [(0, .ref (za Z 60 0)), (1, .int a1), (2, .int a2)] [] s := by
  unfold F_X11_first at hF
  refine a_aload_n dX11_first_0 0 rfl rfl ?_
  refine a_iconst (v := (0 : Int32)) dX11_first_1 (by decide) ?_
  refine a_put hZ.1 (hZ.2 60 0 (by decide) (by decide) Nat.one_pos) fl_X11_1 rfl rfl rfl dX11_first_2 ?_
  refine a_iload_n dX11_first_5 1 rfl rfl ?_
  obtain ⟨r6, s6, e6, hF⟩ := bd_some hF
  refine a_invS hZ.1 (As := [.int a1]) (rest := []) lk_X11_164 ⟨⟨by decide, by decide⟩, by decide, by decide⟩ rfl (Nat.le_of_ble_eq_true rfl) dX11_first_6 (m_X11_isWeek hZ  e6) ?_
  show AW Z l iX11_first (Pq (rI R)) 0 0 9 [(0, .ref (za Z 60 0)), (1, .int a1), (2, .int a2)] [.int r6] s6
  refine a_if_ne 15 dX11_first_9 (by decide) (fun q1 => ?_) (fun q1 => ?_)
  · replace hF := (if_neg q1).symm.trans hF
    refine a_aload_n dX11_first_15 0 rfl rfl ?_
    refine a_iload_n dX11_first_16 1 rfl rfl ?_
    obtain ⟨r17, s17, e17, hF⟩ := bd_some hF
    refine a_invV hZ.1 (As := [.int a1]) (rest := []) (hZ.2 60 0 (by decide) (by decide) Nat.one_pos) lk_X11_305 ⟨⟨by decide, by decide⟩, by decide, by decide⟩ rfl (Nat.le_of_ble_eq_true rfl) dX11_first_17 (m_X11_findFirst hZ  e17) ?_
    show AW Z l iX11_first (Pq (rI R)) 0 0 20 [(0, .ref (za Z 60 0)), (1, .int a1), (2, .int a2)] [.int r17] s17
    refine a_istore_n [(3, .int r17), (0, .ref (za Z 60 0)), (1, .int a1), (2, .int a2)] dX11_first_20 rfl (by decide) rfl ?_
    refine a_iload_n dX11_first_21 3 rfl rfl ?_
    refine a_i2l dX11_first_22 ?_
    refine a_lconst (v := (0 : Int64)) dX11_first_23 (by decide) ?_
    refine a_aload_n dX11_first_24 1 rfl rfl ?_
    refine a_getI hZ.1 (s17 60 0 40) (hZ.2 60 0 (by decide) (by decide) Nat.one_pos) fl_X11_302 rfl rfl dX11_first_25 ?_
    refine a_iconst (v := (1 : Int32)) dX11_first_28 (by decide) ?_
    refine a_isub dX11_first_29 ?_
    refine a_i2l dX11_first_30 ?_
    obtain ⟨r31, s31, e31, hF⟩ := bd_some hF
    refine a_invS hZ.1 (As := [.long a2.toInt64, .long (0 : Int64), .long ((s17 60 0 40) - (1 : Int32)).toInt64]) (rest := []) lk_X11_126 ⟨⟨by decide, by decide⟩, by decide, by decide⟩ rfl (Nat.le_of_ble_eq_true rfl) dX11_first_31 (m_X11_in hZ  e31) ?_
    show AW Z l iX11_first (Pq (rI R)) 0 0 34 [(3, .int r17), (0, .ref (za Z 60 0)), (1, .int a1), (2, .int a2)] [.int r31] s31
    refine a_if_eq 46 dX11_first_34 (by decide) (fun q2 => ?_) (fun q2 => ?_)
    · replace hF := (if_pos q2).symm.trans hF
      refine a_ldc (v := (-1000000)) kw_951 dX11_first_46 ?_
      replace hF := Option.some.inj hF
      subst hF
      exact a_iret rfl (Nat.zero_le _) (Nat.zero_le _) dX11_first_48 ⟨rfl, rfl⟩
    · replace hF := (if_neg q2).symm.trans hF
      refine a_aload_n dX11_first_37 1 rfl rfl ?_
      refine a_getR hZ.1 (hZ.2 60 0 (by decide) (by decide) Nat.one_pos) fl_X11_88 rfl 0 rfl dX11_first_38 ?_
      refine a_iload_n dX11_first_41 3 rfl rfl ?_
      obtain ⟨p3, hF⟩ := gd_some hF
      refine a_iald hZ.1 (s31 83 0 a2.toNatClampNeg) (hZ.2 83 0 (by decide) (by decide) Nat.one_pos) rfl rfl (inb_vp p3) rfl dX11_first_42 ?_
      refine a_goto 48 dX11_first_43 (by decide) ?_
      replace hF := Option.some.inj hF
      subst hF
      exact a_iret rfl (Nat.zero_le _) (Nat.zero_le _) dX11_first_48 ⟨rfl, rfl⟩
  · replace hF := (if_pos q1).symm.trans hF
    refine a_ldc (v := (-1000001)) kw_1136 dX11_first_12 ?_
    replace hF := Option.some.inj hF
    subst hF
    exact a_iret rfl (Nat.zero_le _) (Nat.zero_le _) dX11_first_14 ⟨rfl, rfl⟩
theorem m_X11_first {Z : ZE} {l : Launch} (hZ : OkM Z) {a1 : Int32} {a2 : Int32}  {s : St} {R : Int32 × St} (hF : F_X11_first (zg Z) a1 a2 s = some R) : Sp Z l yX11_first iX11_first [.ref (za Z 60 0), .int a1, .int a2] s (rI R) :=
  Sp.of (by decide) rfl (Nat.le_of_ble_eq_true rfl) (w_X11_first hZ  s hF)
-- X11_holds
set_option maxRecDepth 100000 in
set_option maxHeartbeats 4000000 in
theorem w_X11_holds {Z : ZE} {l : Launch} (hZ : OkM Z) {a1 : Int32} {a2 : Int32}  {R : Int32 × St}    (s : St) (hF : F_X11_holds (zg Z) a1 a2  s = some R) : AW Z l iX11_holds (Pq (rI R)) 0 0 0 [(0, .ref (za Z 60 0)), (1, .int a1), (2, .int a2)] [] s := by
  unfold F_X11_holds at hF
  refine a_aload_n dX11_holds_0 0 rfl rfl ?_
  refine a_iconst (v := (0 : Int32)) dX11_holds_1 (by decide) ?_
  refine a_put hZ.1 (hZ.2 60 0 (by decide) (by decide) Nat.one_pos) fl_X11_1 rfl rfl rfl dX11_holds_2 ?_
  refine a_iload_n dX11_holds_5 1 rfl rfl ?_
  obtain ⟨r6, s6, e6, hF⟩ := bd_some hF
  refine a_invS hZ.1 (As := [.int a1]) (rest := []) lk_X11_164 ⟨⟨by decide, by decide⟩, by decide, by decide⟩ rfl (Nat.le_of_ble_eq_true rfl) dX11_holds_6 (m_X11_isWeek hZ  e6) ?_
  show AW Z l iX11_holds (Pq (rI R)) 0 0 9 [(0, .ref (za Z 60 0)), (1, .int a1), (2, .int a2)] [.int r6] s6
  refine a_if_ne 15 dX11_holds_9 (by decide) (fun q1 => ?_) (fun q1 => ?_)
  · replace hF := (if_neg q1).symm.trans hF
    refine a_iload_n dX11_holds_15 2 rfl rfl ?_
    refine a_i2l dX11_holds_16 ?_
    refine a_lconst (v := (0 : Int64)) dX11_holds_17 (by decide) ?_
    refine a_ldc2 (v := (3 : Int64)) kw_1162 dX11_holds_18 ?_
    obtain ⟨r21, s21, e21, hF⟩ := bd_some hF
    refine a_invS hZ.1 (As := [.long a2.toInt64, .long (0 : Int64), .long (3 : Int64)]) (rest := []) lk_X11_126 ⟨⟨by decide, by decide⟩, by decide, by decide⟩ rfl (Nat.le_of_ble_eq_true rfl) dX11_holds_21 (m_X11_in hZ  e21) ?_
    show AW Z l iX11_holds (Pq (rI R)) 0 0 24 [(0, .ref (za Z 60 0)), (1, .int a1), (2, .int a2)] [.int r21] s21
    refine a_if_eq 37 dX11_holds_24 (by decide) (fun q2 => ?_) (fun q2 => ?_)
    · replace hF := (if_pos q2).symm.trans hF
      refine a_iload_n dX11_holds_37 2 rfl rfl ?_
      refine a_iconst (v := (4 : Int32)) dX11_holds_38 (by decide) ?_
      refine a_icmp_ne 52 dX11_holds_39 (by decide) (fun q3 => ?_) (fun q3 => ?_)
      · replace hF := (if_neg q3).symm.trans hF
        refine a_iload_n dX11_holds_52 2 rfl rfl ?_
        refine a_iconst (v := (5 : Int32)) dX11_holds_53 (by decide) ?_
        refine a_icmp_ne 67 dX11_holds_54 (by decide) (fun q4 => ?_) (fun q4 => ?_)
        · replace hF := (if_neg q4).symm.trans hF
          refine a_iload_n dX11_holds_67 2 rfl rfl ?_
          refine a_bipush (v := (6 : Int32)) dX11_holds_68 (by decide) ?_
          refine a_icmp_ne 83 dX11_holds_70 (by decide) (fun q5 => ?_) (fun q5 => ?_)
          · replace hF := (if_neg q5).symm.trans hF
            refine a_iload_n dX11_holds_83 2 rfl rfl ?_
            refine a_bipush (v := (7 : Int32)) dX11_holds_84 (by decide) ?_
            refine a_icmp_ne 97 dX11_holds_86 (by decide) (fun q6 => ?_) (fun q6 => ?_)
            · replace hF := (if_neg q6).symm.trans hF
              refine a_iload_n dX11_holds_97 2 rfl rfl ?_
              refine a_i2l dX11_holds_98 ?_
              refine a_ldc2 (v := (10 : Int64)) kw_1315 dX11_holds_99 ?_
              refine a_ldc2 (v := (13 : Int64)) kw_1316 dX11_holds_102 ?_
              obtain ⟨r105, s105, e105, hF⟩ := bd_some hF
              refine a_invS hZ.1 (As := [.long a2.toInt64, .long (10 : Int64), .long (13 : Int64)]) (rest := []) lk_X11_126 ⟨⟨by decide, by decide⟩, by decide, by decide⟩ rfl (Nat.le_of_ble_eq_true rfl) dX11_holds_105 (m_X11_in hZ  e105) ?_
              show AW Z l iX11_holds (Pq (rI R)) 0 0 108 [(0, .ref (za Z 60 0)), (1, .int a1), (2, .int a2)] [.int r105] s105
              refine a_if_eq 123 dX11_holds_108 (by decide) (fun q7 => ?_) (fun q7 => ?_)
              · replace hF := (if_pos q7).symm.trans hF
                refine a_ldc (v := (-1000001)) kw_1136 dX11_holds_123 ?_
                replace hF := Option.some.inj hF
                subst hF
                exact a_iret rfl (Nat.zero_le _) (Nat.zero_le _) dX11_holds_125 ⟨rfl, rfl⟩
              · replace hF := (if_neg q7).symm.trans hF
                refine a_aload_n dX11_holds_111 0 rfl rfl ?_
                refine a_iload_n dX11_holds_112 2 rfl rfl ?_
                refine a_bipush (v := (10 : Int32)) dX11_holds_113 (by decide) ?_
                refine a_isub dX11_holds_115 ?_
                refine a_iload_n dX11_holds_116 1 rfl rfl ?_
                obtain ⟨r117, s117, e117, hF⟩ := bd_some hF
                refine a_invV hZ.1 (As := [.int (a2 - (10 : Int32)), .int a1]) (rest := []) (hZ.2 60 0 (by decide) (by decide) Nat.one_pos) lk_X11_312 ⟨⟨by decide, by decide⟩, by decide, by decide⟩ rfl (Nat.le_of_ble_eq_true rfl) dX11_holds_117 (m_X11_earnOn hZ  e117) ?_
                show AW Z l iX11_holds (Pq (rI R)) 0 0 120 [(0, .ref (za Z 60 0)), (1, .int a1), (2, .int a2)] [.int r117] s117
                refine a_goto 125 dX11_holds_120 (by decide) ?_
                replace hF := Option.some.inj hF
                subst hF
                exact a_iret rfl (Nat.zero_le _) (Nat.zero_le _) dX11_holds_125 ⟨rfl, rfl⟩
            · replace hF := (if_pos q6).symm.trans hF
              refine a_aload_n dX11_holds_89 0 rfl rfl ?_
              refine a_iload_n dX11_holds_90 1 rfl rfl ?_
              obtain ⟨r91, s91, e91, hF⟩ := bd_some hF
              refine a_invV hZ.1 (As := [.int a1]) (rest := []) (hZ.2 60 0 (by decide) (by decide) Nat.one_pos) lk_X11_305 ⟨⟨by decide, by decide⟩, by decide, by decide⟩ rfl (Nat.le_of_ble_eq_true rfl) dX11_holds_91 (m_X11_findFirst hZ  e91) ?_
              show AW Z l iX11_holds (Pq (rI R)) 0 0 94 [(0, .ref (za Z 60 0)), (1, .int a1), (2, .int a2)] [.int r91] s91
              refine a_goto 125 dX11_holds_94 (by decide) ?_
              replace hF := Option.some.inj hF
              subst hF
              exact a_iret rfl (Nat.zero_le _) (Nat.zero_le _) dX11_holds_125 ⟨rfl, rfl⟩
          · replace hF := (if_pos q5).symm.trans hF
            refine a_aload_n dX11_holds_73 0 rfl rfl ?_
            refine a_iload_n dX11_holds_74 1 rfl rfl ?_
            refine a_iconst (v := (3 : Int32)) dX11_holds_75 (by decide) ?_
            refine a_iconst (v := (0 : Int32)) dX11_holds_76 (by decide) ?_
            obtain ⟨r77, s77, e77, hF⟩ := bd_some hF
            refine a_invV hZ.1 (As := [.int a1, .int (3 : Int32), .int (0 : Int32)]) (rest := []) (hZ.2 60 0 (by decide) (by decide) Nat.one_pos) lk_X11_298 ⟨⟨by decide, by decide⟩, by decide, by decide⟩ rfl (Nat.le_of_ble_eq_true rfl) dX11_holds_77 (m_X11_numberFor hZ  e77) ?_
            show AW Z l iX11_holds (Pq (rI R)) 0 0 80 [(0, .ref (za Z 60 0)), (1, .int a1), (2, .int a2)] [.int r77] s77
            refine a_goto 125 dX11_holds_80 (by decide) ?_
            replace hF := Option.some.inj hF
            subst hF
            exact a_iret rfl (Nat.zero_le _) (Nat.zero_le _) dX11_holds_125 ⟨rfl, rfl⟩
        · replace hF := (if_pos q4).symm.trans hF
          refine a_aload_n dX11_holds_57 0 rfl rfl ?_
          refine a_iload_n dX11_holds_58 1 rfl rfl ?_
          refine a_iconst (v := (2 : Int32)) dX11_holds_59 (by decide) ?_
          refine a_iconst (v := (0 : Int32)) dX11_holds_60 (by decide) ?_
          obtain ⟨r61, s61, e61, hF⟩ := bd_some hF
          refine a_invV hZ.1 (As := [.int a1, .int (2 : Int32), .int (0 : Int32)]) (rest := []) (hZ.2 60 0 (by decide) (by decide) Nat.one_pos) lk_X11_298 ⟨⟨by decide, by decide⟩, by decide, by decide⟩ rfl (Nat.le_of_ble_eq_true rfl) dX11_holds_61 (m_X11_numberFor hZ  e61) ?_
          show AW Z l iX11_holds (Pq (rI R)) 0 0 64 [(0, .ref (za Z 60 0)), (1, .int a1), (2, .int a2)] [.int r61] s61
          refine a_goto 125 dX11_holds_64 (by decide) ?_
          replace hF := Option.some.inj hF
          subst hF
          exact a_iret rfl (Nat.zero_le _) (Nat.zero_le _) dX11_holds_125 ⟨rfl, rfl⟩
      · replace hF := (if_pos q3).symm.trans hF
        refine a_aload_n dX11_holds_42 0 rfl rfl ?_
        refine a_iload_n dX11_holds_43 1 rfl rfl ?_
        refine a_iconst (v := (1 : Int32)) dX11_holds_44 (by decide) ?_
        refine a_iconst (v := (0 : Int32)) dX11_holds_45 (by decide) ?_
        obtain ⟨r46, s46, e46, hF⟩ := bd_some hF
        refine a_invV hZ.1 (As := [.int a1, .int (1 : Int32), .int (0 : Int32)]) (rest := []) (hZ.2 60 0 (by decide) (by decide) Nat.one_pos) lk_X11_298 ⟨⟨by decide, by decide⟩, by decide, by decide⟩ rfl (Nat.le_of_ble_eq_true rfl) dX11_holds_46 (m_X11_numberFor hZ  e46) ?_
        show AW Z l iX11_holds (Pq (rI R)) 0 0 49 [(0, .ref (za Z 60 0)), (1, .int a1), (2, .int a2)] [.int r46] s46
        refine a_goto 125 dX11_holds_49 (by decide) ?_
        replace hF := Option.some.inj hF
        subst hF
        exact a_iret rfl (Nat.zero_le _) (Nat.zero_le _) dX11_holds_125 ⟨rfl, rfl⟩
    · replace hF := (if_neg q2).symm.trans hF
      refine a_aload_n dX11_holds_27 0 rfl rfl ?_
      refine a_iload_n dX11_holds_28 1 rfl rfl ?_
      refine a_iconst (v := (0 : Int32)) dX11_holds_29 (by decide) ?_
      refine a_iload_n dX11_holds_30 2 rfl rfl ?_
      obtain ⟨r31, s31, e31, hF⟩ := bd_some hF
      refine a_invV hZ.1 (As := [.int a1, .int (0 : Int32), .int a2]) (rest := []) (hZ.2 60 0 (by decide) (by decide) Nat.one_pos) lk_X11_298 ⟨⟨by decide, by decide⟩, by decide, by decide⟩ rfl (Nat.le_of_ble_eq_true rfl) dX11_holds_31 (m_X11_numberFor hZ  e31) ?_
      show AW Z l iX11_holds (Pq (rI R)) 0 0 34 [(0, .ref (za Z 60 0)), (1, .int a1), (2, .int a2)] [.int r31] s31
      refine a_goto 125 dX11_holds_34 (by decide) ?_
      replace hF := Option.some.inj hF
      subst hF
      exact a_iret rfl (Nat.zero_le _) (Nat.zero_le _) dX11_holds_125 ⟨rfl, rfl⟩
  · replace hF := (if_pos q1).symm.trans hF
    refine a_ldc (v := (-1000001)) kw_1136 dX11_holds_12 ?_
    replace hF := Option.some.inj hF
    subst hF
    exact a_iret rfl (Nat.zero_le _) (Nat.zero_le _) dX11_holds_14 ⟨rfl, rfl⟩
theorem m_X11_holds {Z : ZE} {l : Launch} (hZ : OkM Z) {a1 : Int32} {a2 : Int32}  {s : St} {R : Int32 × St} (hF : F_X11_holds (zg Z) a1 a2 s = some R) : Sp Z l yX11_holds iX11_holds [.ref (za Z 60 0), .int a1, .int a2] s (rI R) :=
  Sp.of (by decide) rfl (Nat.le_of_ble_eq_true rfl) (w_X11_holds hZ  s hF)
-- X11_lookItems
set_option maxRecDepth 100000 in
set_option maxHeartbeats 4000000 in
theorem w_X11_lookItems_35 {Z : ZE} {l : Launch} (hZ : OkM Z) {a1 : Int32} {a2 : Int32} {a3 : Int32}  {R : Int32 × St}    (s : St) (hF : F_X11_lookItems_35 (zg Z) a1 a2 a3  s = some R) : AW Z l iX11_lookItems (Pq (rI R)) 0 0 35 [(0, .ref (za Z 60 0))] [] s := by
  unfold F_X11_lookItems_35 at hF
  refine a_aload_n dX11_lookItems_35 0 rfl rfl ?_
  refine a_iconst (v := (2 : Int32)) dX11_lookItems_36 (by decide) ?_
  obtain ⟨r37, s37, e37, hF⟩ := bd_some hF
  refine a_invV hZ.1 (As := [.int (2 : Int32)]) (rest := []) (hZ.2 60 0 (by decide) (by decide) Nat.one_pos) lk_X11_137 ⟨⟨by decide, by decide⟩, by decide, by decide⟩ rfl (Nat.le_of_ble_eq_true rfl) dX11_lookItems_37 (m_X11_finding hZ  e37) ?_
  show AW Z l iX11_lookItems (Pq (rI R)) 0 0 40 [(0, .ref (za Z 60 0))] [.int r37] s37
  refine a_goto 44 dX11_lookItems_40 (by decide) ?_
  replace hF := Option.some.inj hF
  subst hF
  exact a_iret rfl (Nat.zero_le _) (Nat.zero_le _) dX11_lookItems_44 ⟨rfl, rfl⟩
set_option maxRecDepth 100000 in
set_option maxHeartbeats 4000000 in
theorem w_X11_lookItems {Z : ZE} {l : Launch} (hZ : OkM Z) {a1 : Int32} {a2 : Int32} {a3 : Int32}  {R : Int32 × St}    (s : St) (hF : F_X11_lookItems (zg Z) a1 a2 a3  s = some R) : AW Z l iX11_lookItems (Pq (rI R)) 0 0 0 [(0, .ref (za Z 60 0)), (1, .int a1), (2, .int a2), (3, .int a3)] [] s := by
  unfold F_X11_lookItems at hF
  refine a_aload_n dX11_lookItems_0 0 rfl rfl ?_
  refine a_getR hZ.1 (hZ.2 60 0 (by decide) (by decide) Nat.one_pos) fl_X11_17 rfl 0 rfl dX11_lookItems_1 ?_
  refine a_iload_n dX11_lookItems_4 1 rfl rfl ?_
  obtain ⟨p1, hF⟩ := gd_some hF
  refine a_iald hZ.1 (s 61 0 a1.toNatClampNeg) (hZ.2 61 0 (by decide) (by decide) Nat.one_pos) rfl rfl (inb_vp p1) rfl dX11_lookItems_5 ?_
  refine a_if_ge 15 dX11_lookItems_6 (by decide) (fun q2 => ?_) (fun q2 => ?_)
  · replace hF := (if_pos q2).symm.trans hF
    refine a_iload_n dX11_lookItems_15 2 rfl rfl ?_
    refine a_if_lt 35 dX11_lookItems_16 (by decide) (fun q3 => ?_) (fun q3 => ?_)
    · replace hF := (if_pos q3).symm.trans hF
      refine a_loc [(0, .ref (za Z 60 0))] [0] rfl ?_
      exact w_X11_lookItems_35 (l := l) hZ     _ hF
    · replace hF := (if_neg q3).symm.trans hF
      refine a_iload_n dX11_lookItems_19 2 rfl rfl ?_
      refine a_i2l dX11_lookItems_20 ?_
      refine a_iload_n dX11_lookItems_21 3 rfl rfl ?_
      refine a_i2l dX11_lookItems_22 ?_
      refine a_ladd dX11_lookItems_23 ?_
      refine a_aload_n dX11_lookItems_24 0 rfl rfl ?_
      refine a_getR hZ.1 (hZ.2 60 0 (by decide) (by decide) Nat.one_pos) fl_X11_21 rfl 0 rfl dX11_lookItems_25 ?_
      refine a_iload_n dX11_lookItems_28 1 rfl rfl ?_
      obtain ⟨p4, hF⟩ := gd_some hF
      refine a_iald hZ.1 (s 62 0 a1.toNatClampNeg) (hZ.2 62 0 (by decide) (by decide) Nat.one_pos) rfl rfl (inb_vp p4) rfl dX11_lookItems_29 ?_
      refine a_i2l dX11_lookItems_30 ?_
      refine a_lcmp dX11_lookItems_31 ?_
      refine a_if_le 43 dX11_lookItems_32 (by decide) (fun q5 => ?_) (fun q5 => ?_)
      · replace hF := (if_pos q5).symm.trans hF
        refine a_iconst (v := (0 : Int32)) dX11_lookItems_43 (by decide) ?_
        replace hF := Option.some.inj hF
        subst hF
        exact a_iret rfl (Nat.zero_le _) (Nat.zero_le _) dX11_lookItems_44 ⟨rfl, rfl⟩
      · replace hF := (if_neg q5).symm.trans hF
        refine a_loc [(0, .ref (za Z 60 0))] [0] rfl ?_
        exact w_X11_lookItems_35 (l := l) hZ     _ hF
  · replace hF := (if_neg q2).symm.trans hF
    refine a_aload_n dX11_lookItems_9 0 rfl rfl ?_
    refine a_iconst (v := (1 : Int32)) dX11_lookItems_10 (by decide) ?_
    obtain ⟨r11, s11, e11, hF⟩ := bd_some hF
    refine a_invV hZ.1 (As := [.int (1 : Int32)]) (rest := []) (hZ.2 60 0 (by decide) (by decide) Nat.one_pos) lk_X11_137 ⟨⟨by decide, by decide⟩, by decide, by decide⟩ rfl (Nat.le_of_ble_eq_true rfl) dX11_lookItems_11 (m_X11_finding hZ  e11) ?_
    show AW Z l iX11_lookItems (Pq (rI R)) 0 0 14 [(0, .ref (za Z 60 0)), (1, .int a1), (2, .int a2), (3, .int a3)] [.int r11] s11
    replace hF := Option.some.inj hF
    subst hF
    exact a_iret rfl (Nat.zero_le _) (Nat.zero_le _) dX11_lookItems_14 ⟨rfl, rfl⟩
theorem m_X11_lookItems {Z : ZE} {l : Launch} (hZ : OkM Z) {a1 : Int32} {a2 : Int32} {a3 : Int32}  {s : St} {R : Int32 × St} (hF : F_X11_lookItems (zg Z) a1 a2 a3 s = some R) : Sp Z l yX11_lookItems iX11_lookItems [.ref (za Z 60 0), .int a1, .int a2, .int a3] s (rI R) :=
  Sp.of (by decide) rfl (Nat.le_of_ble_eq_true rfl) (w_X11_lookItems hZ  s hF)
-- X11_home
set_option maxRecDepth 100000 in
set_option maxHeartbeats 4000000 in
theorem w_X11_home_276 {Z : ZE} {l : Launch} (hZ : OkM Z) {a1 : Int32} {a2 : Int32}  {R : Int32 × St}    (s : St) (hF : F_X11_home_276 (zg Z) a1 a2  s = some R) : AW Z l iX11_home (Pq (rI R)) 0 0 276 [(0, .ref (za Z 60 0))] [] s := by
  unfold F_X11_home_276 at hF
  refine a_aload_n dX11_home_276 0 rfl rfl ?_
  refine a_dup dX11_home_277 rfl ?_
  refine a_getI hZ.1 (s 60 0 42) (hZ.2 60 0 (by decide) (by decide) Nat.one_pos) fl_X11_202 rfl rfl dX11_home_278 ?_
  refine a_iconst (v := (1 : Int32)) dX11_home_281 (by decide) ?_
  refine a_iadd dX11_home_282 ?_
  refine a_put hZ.1 (hZ.2 60 0 (by decide) (by decide) Nat.one_pos) fl_X11_202 rfl rfl rfl dX11_home_283 ?_
  refine a_aload_n dX11_home_286 0 rfl rfl ?_
  refine a_getI hZ.1 ((s 60 0 42) + (1 : Int32)) (hZ.2 60 0 (by decide) (by decide) Nat.one_pos) fl_X11_202 rfl (by simp [up]) dX11_home_287 ?_
  refine a_iconst (v := (1 : Int32)) dX11_home_290 (by decide) ?_
  refine a_isub dX11_home_291 ?_
  replace hF := Option.some.inj hF
  subst hF
  exact a_iret rfl (Nat.zero_le _) (Nat.zero_le _) dX11_home_292 ⟨rfl, rfl⟩
set_option maxRecDepth 100000 in
set_option maxHeartbeats 4000000 in
theorem w_X11_home_269 {Z : ZE} {l : Launch} (hZ : OkM Z) {a1 : Int32} {a2 : Int32}  {R : Int32 × St} (h227_ : Int32 → Int32 → St → Option (Int32 × St)) (w227_ : ∀ (v4 : Int32) (v6 : Int32)  (s : St), h227_ v4 v6 s = some R → AW Z l iX11_home (Pq (rI R)) 0 0 227 [(0, .ref (za Z 60 0)), (4, .int v4), (6, .int v6)] [] s) (h276_ : St → Option (Int32 × St)) (w276_ : ∀   (s : St), h276_  s = some R → AW Z l iX11_home (Pq (rI R)) 0 0 276 [(0, .ref (za Z 60 0))] [] s) (v4 : Int32) (v6 : Int32) (x1 : Int32) (x2 : Int32)  (s : St) (hF : F_X11_home_269 (zg Z) a1 a2 h227_ h276_ v4 v6 x1 x2 s = some R) : AW Z l iX11_home (Pq (rI R)) 0 0 269 [(0, .ref (za Z 60 0)), (4, .int v4), (6, .int v6)] [.int x2, .int x1, .ref (za Z 84 0)] s := by
  unfold F_X11_home_269 at hF
  obtain ⟨p1, hF⟩ := gd_some hF
  refine a_iast hZ.1 (hZ.2 84 0 (by decide) (by decide) Nat.one_pos) rfl rfl (inb_vp p1) dX11_home_269 ?_
  refine a_iinc [(6, .int (v6 + 1)), (0, .ref (za Z 60 0)), (4, .int v4)] dX11_home_270 2 rfl rfl (by decide) rfl ?_
  refine a_goto 227 dX11_home_273 (by decide) ?_
  refine a_loc [(0, .ref (za Z 60 0)), (4, .int v4), (6, .int (v6 + 1))] [1, 2, 0] rfl ?_
  exact w227_ v4 (v6 + 1)  _ hF
set_option maxRecDepth 100000 in
set_option maxHeartbeats 4000000 in
theorem w_X11_home_227 {Z : ZE} {l : Launch} (hZ : OkM Z) {a1 : Int32} {a2 : Int32}  {R : Int32 × St} (h276_ : St → Option (Int32 × St)) (w276_ : ∀   (s : St), h276_  s = some R → AW Z l iX11_home (Pq (rI R)) 0 0 276 [(0, .ref (za Z 60 0))] [] s) : ∀ (n_ : Nat) (v4 : Int32) (v6 : Int32)  (s : St), F_X11_home_227 (zg Z) a1 a2 h276_ n_ v4 v6 s = some R → AW Z l iX11_home (Pq (rI R)) 0 0 227 [(0, .ref (za Z 60 0)), (4, .int v4), (6, .int v6)] [] s := by
  intro n_
  induction n_ with
  | zero =>
    intro v4 v6 s hF
    exact absurd hF (by rw [F_X11_home_227]; exact fun q => by cases q)
  | succ n_ w227_ =>
    intro v4 v6 s hF
    rw [F_X11_home_227] at hF
    refine a_iload dX11_home_227 2 rfl ?_
    refine a_bipush (v := (11 : Int32)) dX11_home_229 (by decide) ?_
    refine a_icmp_ge 276 dX11_home_231 (by decide) (fun q1 => ?_) (fun q1 => ?_)
    · replace hF := (if_pos q1).symm.trans hF
      refine a_loc [(0, .ref (za Z 60 0))] [0] rfl ?_
      exact w276_   _ hF
    · replace hF := (if_neg q1).symm.trans hF
      refine a_aload_n dX11_home_234 0 rfl rfl ?_
      refine a_getR hZ.1 (hZ.2 60 0 (by decide) (by decide) Nat.one_pos) fl_X11_91 rfl 0 rfl dX11_home_235 ?_
      refine a_bipush (v := (11 : Int32)) dX11_home_238 (by decide) ?_
      refine a_aload_n dX11_home_240 0 rfl rfl ?_
      refine a_getI hZ.1 (s 60 0 42) (hZ.2 60 0 (by decide) (by decide) Nat.one_pos) fl_X11_202 rfl rfl dX11_home_241 ?_
      refine a_imul dX11_home_244 ?_
      refine a_iload dX11_home_245 2 rfl ?_
      refine a_iadd dX11_home_247 ?_
      refine a_iload dX11_home_248 2 rfl ?_
      refine a_bipush (v := (9 : Int32)) dX11_home_250 (by decide) ?_
      refine a_icmp_ge 268 dX11_home_252 (by decide) (fun q2 => ?_) (fun q2 => ?_)
      · replace hF := (if_pos q2).symm.trans hF
        refine a_iconst (v := (0 : Int32)) dX11_home_268 (by decide) ?_
        exact w_X11_home_269 (l := l) hZ  (F_X11_home_227 (zg Z) a1 a2 h276_ n_) w227_ h276_ w276_ v4 v6 (((11 : Int32) * (s 60 0 42)) + v6) (0 : Int32)  _ hF
      · replace hF := (if_neg q2).symm.trans hF
        refine a_aload_n dX11_home_255 0 rfl rfl ?_
        refine a_getR hZ.1 (hZ.2 60 0 (by decide) (by decide) Nat.one_pos) fl_X11_24 rfl 0 rfl dX11_home_256 ?_
        refine a_iload dX11_home_259 1 rfl ?_
        refine a_iload dX11_home_261 2 rfl ?_
        refine a_iadd dX11_home_263 ?_
        obtain ⟨p3, hF⟩ := gd_some hF
        refine a_iald hZ.1 (s 63 0 (v4 + v6).toNatClampNeg) (hZ.2 63 0 (by decide) (by decide) Nat.one_pos) rfl rfl (inb_vp p3) rfl dX11_home_264 ?_
        refine a_goto 269 dX11_home_265 (by decide) ?_
        exact w_X11_home_269 (l := l) hZ  (F_X11_home_227 (zg Z) a1 a2 h276_ n_) w227_ h276_ w276_ v4 v6 (((11 : Int32) * (s 60 0 42)) + v6) (s 63 0 (v4 + v6).toNatClampNeg)  _ hF
set_option maxRecDepth 100000 in
set_option maxHeartbeats 4000000 in
theorem w_X11_home_211 {Z : ZE} {l : Launch} (hZ : OkM Z) {a1 : Int32} {a2 : Int32}  {R : Int32 × St}  (v4 : Int32) (v5 : Int32)  (s : St) (hF : F_X11_home_211 (zg Z) a1 a2 v4 v5 s = some R) : AW Z l iX11_home (Pq (rI R)) 0 0 211 [(0, .ref (za Z 60 0)), (4, .int v4), (5, .int v5)] [] s := by
  unfold F_X11_home_211 at hF
  refine a_iload dX11_home_211 2 rfl ?_
  refine a_if_ne 219 dX11_home_213 (by decide) (fun q1 => ?_) (fun q1 => ?_)
  · replace hF := (if_neg q1).symm.trans hF
    refine a_aload_n dX11_home_219 0 rfl rfl ?_
    refine a_iconst (v := (0 : Int32)) dX11_home_220 (by decide) ?_
    refine a_put hZ.1 (hZ.2 60 0 (by decide) (by decide) Nat.one_pos) fl_X11_7 rfl rfl rfl dX11_home_221 ?_
    refine a_iconst (v := (0 : Int32)) dX11_home_224 (by decide) ?_
    refine a_istore [(6, .int (0 : Int32)), (0, .ref (za Z 60 0)), (4, .int v4), (5, .int v5)] dX11_home_225 (by decide) rfl ?_
    refine a_loc [(0, .ref (za Z 60 0)), (4, .int v4), (6, .int (0 : Int32))] [1, 2, 0] rfl ?_
    exact w_X11_home_227 (l := l) hZ  (F_X11_home_276 (zg Z) a1 a2 ) (w_X11_home_276 (l := l) hZ  ) fu v4 (0 : Int32)  _ hF
  · replace hF := (if_pos q1).symm.trans hF
    refine a_ldc (v := (-1000001)) kw_1136 dX11_home_216 ?_
    replace hF := Option.some.inj hF
    subst hF
    exact a_iret rfl (Nat.zero_le _) (Nat.zero_le _) dX11_home_218 ⟨rfl, rfl⟩
set_option maxRecDepth 100000 in
set_option maxHeartbeats 4000000 in
theorem w_X11_home_203 {Z : ZE} {l : Launch} (hZ : OkM Z) {a1 : Int32} {a2 : Int32}  {R : Int32 × St} (h165_ : Int32 → Int32 → Int32 → St → Option (Int32 × St)) (w165_ : ∀ (v4 : Int32) (v5 : Int32) (v6 : Int32)  (s : St), h165_ v4 v5 v6 s = some R → AW Z l iX11_home (Pq (rI R)) 0 0 165 [(0, .ref (za Z 60 0)), (4, .int v4), (5, .int v5), (6, .int v6)] [] s) (h211_ : Int32 → Int32 → St → Option (Int32 × St)) (w211_ : ∀ (v4 : Int32) (v5 : Int32)  (s : St), h211_ v4 v5 s = some R → AW Z l iX11_home (Pq (rI R)) 0 0 211 [(0, .ref (za Z 60 0)), (4, .int v4), (5, .int v5)] [] s) (v4 : Int32) (v6 : Int32) (x0 : Int32)  (s : St) (hF : F_X11_home_203 (zg Z) a1 a2 h165_ h211_ v4 v6 x0 s = some R) : AW Z l iX11_home (Pq (rI R)) 0 0 203 [(0, .ref (za Z 60 0)), (4, .int v4), (6, .int v6)] [.int x0] s := by
  unfold F_X11_home_203 at hF
  refine a_istore [(5, .int x0), (0, .ref (za Z 60 0)), (4, .int v4), (6, .int v6)] dX11_home_203 (by decide) rfl ?_
  refine a_iinc [(6, .int (v6 + 1)), (5, .int x0), (0, .ref (za Z 60 0)), (4, .int v4)] dX11_home_205 3 rfl rfl (by decide) rfl ?_
  refine a_goto 165 dX11_home_208 (by decide) ?_
  refine a_loc [(0, .ref (za Z 60 0)), (4, .int v4), (5, .int x0), (6, .int (v6 + 1))] [2, 3, 1, 0] rfl ?_
  exact w165_ v4 x0 (v6 + 1)  _ hF
set_option maxRecDepth 100000 in
set_option maxHeartbeats 4000000 in
theorem w_X11_home_202 {Z : ZE} {l : Launch} (hZ : OkM Z) {a1 : Int32} {a2 : Int32}  {R : Int32 × St} (h165_ : Int32 → Int32 → Int32 → St → Option (Int32 × St)) (w165_ : ∀ (v4 : Int32) (v5 : Int32) (v6 : Int32)  (s : St), h165_ v4 v5 v6 s = some R → AW Z l iX11_home (Pq (rI R)) 0 0 165 [(0, .ref (za Z 60 0)), (4, .int v4), (5, .int v5), (6, .int v6)] [] s) (h211_ : Int32 → Int32 → St → Option (Int32 × St)) (w211_ : ∀ (v4 : Int32) (v5 : Int32)  (s : St), h211_ v4 v5 s = some R → AW Z l iX11_home (Pq (rI R)) 0 0 211 [(0, .ref (za Z 60 0)), (4, .int v4), (5, .int v5)] [] s) (v4 : Int32) (v6 : Int32)  (s : St) (hF : F_X11_home_202 (zg Z) a1 a2 h165_ h211_ v4 v6 s = some R) : AW Z l iX11_home (Pq (rI R)) 0 0 202 [(0, .ref (za Z 60 0)), (4, .int v4), (6, .int v6)] [] s := by
  unfold F_X11_home_202 at hF
  refine a_iconst (v := (0 : Int32)) dX11_home_202 (by decide) ?_
  exact w_X11_home_203 (l := l) hZ  h165_ w165_ h211_ w211_ v4 v6 (0 : Int32)  _ hF
set_option maxRecDepth 100000 in
set_option maxHeartbeats 4000000 in
theorem w_X11_home_165 {Z : ZE} {l : Launch} (hZ : OkM Z) {a1 : Int32} {a2 : Int32}  {R : Int32 × St} (h211_ : Int32 → Int32 → St → Option (Int32 × St)) (w211_ : ∀ (v4 : Int32) (v5 : Int32)  (s : St), h211_ v4 v5 s = some R → AW Z l iX11_home (Pq (rI R)) 0 0 211 [(0, .ref (za Z 60 0)), (4, .int v4), (5, .int v5)] [] s) : ∀ (n_ : Nat) (v4 : Int32) (v5 : Int32) (v6 : Int32)  (s : St), F_X11_home_165 (zg Z) a1 a2 h211_ n_ v4 v5 v6 s = some R → AW Z l iX11_home (Pq (rI R)) 0 0 165 [(0, .ref (za Z 60 0)), (4, .int v4), (5, .int v5), (6, .int v6)] [] s := by
  intro n_
  induction n_ with
  | zero =>
    intro v4 v5 v6 s hF
    exact absurd hF (by rw [F_X11_home_165]; exact fun q => by cases q)
  | succ n_ w165_ =>
    intro v4 v5 v6 s hF
    rw [F_X11_home_165] at hF
    refine a_iload dX11_home_165 3 rfl ?_
    refine a_bipush (v := (9 : Int32)) dX11_home_167 (by decide) ?_
    refine a_icmp_ge 211 dX11_home_169 (by decide) (fun q1 => ?_) (fun q1 => ?_)
    · replace hF := (if_pos q1).symm.trans hF
      refine a_loc [(0, .ref (za Z 60 0)), (4, .int v4), (5, .int v5)] [0, 1, 2] rfl ?_
      exact w211_ v4 v5  _ hF
    · replace hF := (if_neg q1).symm.trans hF
      refine a_iload dX11_home_172 2 rfl ?_
      refine a_if_eq 202 dX11_home_174 (by decide) (fun q2 => ?_) (fun q2 => ?_)
      · replace hF := (if_pos q2).symm.trans hF
        refine a_loc [(0, .ref (za Z 60 0)), (4, .int v4), (6, .int v6)] [0, 1, 3] rfl ?_
        exact w_X11_home_202 (l := l) hZ  (F_X11_home_165 (zg Z) a1 a2 h211_ n_) w165_ h211_ w211_ v4 v6  _ hF
      · replace hF := (if_neg q2).symm.trans hF
        refine a_aload_n dX11_home_177 0 rfl rfl ?_
        refine a_getR hZ.1 (hZ.2 60 0 (by decide) (by decide) Nat.one_pos) fl_X11_24 rfl 0 rfl dX11_home_178 ?_
        refine a_iload dX11_home_181 1 rfl ?_
        refine a_iload dX11_home_183 3 rfl ?_
        refine a_iadd dX11_home_185 ?_
        obtain ⟨p3, hF⟩ := gd_some hF
        refine a_iald hZ.1 (s 63 0 (v4 + v6).toNatClampNeg) (hZ.2 63 0 (by decide) (by decide) Nat.one_pos) rfl rfl (inb_vp p3) rfl dX11_home_186 ?_
        refine a_i2l dX11_home_187 ?_
        refine a_lconst (v := (0 : Int64)) dX11_home_188 (by decide) ?_
        refine a_ldc2 (v := (999 : Int64)) kw_1330 dX11_home_189 ?_
        obtain ⟨r192, s192, e192, hF⟩ := bd_some hF
        refine a_invS hZ.1 (As := [.long (s 63 0 (v4 + v6).toNatClampNeg).toInt64, .long (0 : Int64), .long (999 : Int64)]) (rest := []) lk_X11_126 ⟨⟨by decide, by decide⟩, by decide, by decide⟩ rfl (Nat.le_of_ble_eq_true rfl) dX11_home_192 (m_X11_in hZ  e192) ?_
        show AW Z l iX11_home (Pq (rI R)) 0 0 195 [(0, .ref (za Z 60 0)), (4, .int v4), (5, .int v5), (6, .int v6)] [.int r192] s192
        refine a_if_eq 202 dX11_home_195 (by decide) (fun q4 => ?_) (fun q4 => ?_)
        · replace hF := (if_pos q4).symm.trans hF
          refine a_loc [(0, .ref (za Z 60 0)), (4, .int v4), (6, .int v6)] [0, 1, 3] rfl ?_
          exact w_X11_home_202 (l := l) hZ  (F_X11_home_165 (zg Z) a1 a2 h211_ n_) w165_ h211_ w211_ v4 v6  _ hF
        · replace hF := (if_neg q4).symm.trans hF
          refine a_iconst (v := (1 : Int32)) dX11_home_198 (by decide) ?_
          refine a_goto 203 dX11_home_199 (by decide) ?_
          refine a_loc [(0, .ref (za Z 60 0)), (4, .int v4), (6, .int v6)] [0, 1, 3] rfl ?_
          exact w_X11_home_203 (l := l) hZ  (F_X11_home_165 (zg Z) a1 a2 h211_ n_) w165_ h211_ w211_ v4 v6 (1 : Int32)  _ hF
set_option maxRecDepth 100000 in
set_option maxHeartbeats 4000000 in
theorem w_X11_home_160 {Z : ZE} {l : Launch} (hZ : OkM Z) {a1 : Int32} {a2 : Int32}  {R : Int32 × St}  (v4 : Int32) (x0 : Int32)  (s : St) (hF : F_X11_home_160 (zg Z) a1 a2 v4 x0 s = some R) : AW Z l iX11_home (Pq (rI R)) 0 0 160 [(0, .ref (za Z 60 0)), (4, .int v4)] [.int x0] s := by
  unfold F_X11_home_160 at hF
  refine a_istore [(5, .int x0), (0, .ref (za Z 60 0)), (4, .int v4)] dX11_home_160 (by decide) rfl ?_
  refine a_iconst (v := (5 : Int32)) dX11_home_162 (by decide) ?_
  refine a_istore [(6, .int (5 : Int32)), (5, .int x0), (0, .ref (za Z 60 0)), (4, .int v4)] dX11_home_163 (by decide) rfl ?_
  refine a_loc [(0, .ref (za Z 60 0)), (4, .int v4), (5, .int x0), (6, .int (5 : Int32))] [2, 3, 1, 0] rfl ?_
  exact w_X11_home_165 (l := l) hZ  (F_X11_home_211 (zg Z) a1 a2 ) (w_X11_home_211 (l := l) hZ  ) fu v4 x0 (5 : Int32)  _ hF
set_option maxRecDepth 100000 in
set_option maxHeartbeats 4000000 in
theorem w_X11_home_159 {Z : ZE} {l : Launch} (hZ : OkM Z) {a1 : Int32} {a2 : Int32}  {R : Int32 × St}  (v4 : Int32)  (s : St) (hF : F_X11_home_159 (zg Z) a1 a2 v4 s = some R) : AW Z l iX11_home (Pq (rI R)) 0 0 159 [(0, .ref (za Z 60 0)), (4, .int v4)] [] s := by
  unfold F_X11_home_159 at hF
  refine a_iconst (v := (0 : Int32)) dX11_home_159 (by decide) ?_
  exact w_X11_home_160 (l := l) hZ   v4 (0 : Int32)  _ hF
set_option maxRecDepth 100000 in
set_option maxHeartbeats 4000000 in
theorem w_X11_home {Z : ZE} {l : Launch} (hZ : OkM Z) {a1 : Int32} {a2 : Int32}  {R : Int32 × St}    (s : St) (hF : F_X11_home (zg Z) a1 a2  s = some R) : AW Z l iX11_home (Pq (rI R)) 0 0 0 [(0, .ref (za Z 60 0)), (1, .int a1), (2, .int a2)] [] s := by
  unfold F_X11_home at hF
  refine a_aload_n dX11_home_0 0 rfl rfl ?_
  refine a_iconst (v := (0 : Int32)) dX11_home_1 (by decide) ?_
  refine a_put hZ.1 (hZ.2 60 0 (by decide) (by decide) Nat.one_pos) fl_X11_1 rfl rfl rfl dX11_home_2 ?_
  refine a_iload_n dX11_home_5 1 rfl rfl ?_
  obtain ⟨r6, s6, e6, hF⟩ := bd_some hF
  refine a_invS hZ.1 (As := [.int a1]) (rest := []) lk_X11_130 ⟨⟨by decide, by decide⟩, by decide, by decide⟩ rfl (Nat.le_of_ble_eq_true rfl) dX11_home_6 (m_X11_isSheet hZ  e6) ?_
  show AW Z l iX11_home (Pq (rI R)) 0 0 9 [(0, .ref (za Z 60 0)), (1, .int a1), (2, .int a2)] [.int r6] s6
  refine a_if_ne 15 dX11_home_9 (by decide) (fun q1 => ?_) (fun q1 => ?_)
  · replace hF := (if_neg q1).symm.trans hF
    refine a_aload_n dX11_home_15 0 rfl rfl ?_
    refine a_getI hZ.1 (s6 60 0 42) (hZ.2 60 0 (by decide) (by decide) Nat.one_pos) fl_X11_202 rfl rfl dX11_home_16 ?_
    refine a_bipush (v := (12 : Int32)) dX11_home_19 (by decide) ?_
    refine a_icmp_ne 27 dX11_home_21 (by decide) (fun q2 => ?_) (fun q2 => ?_)
    · replace hF := (if_neg q2).symm.trans hF
      refine a_aload_n dX11_home_27 0 rfl rfl ?_
      refine a_iload_n dX11_home_28 1 rfl rfl ?_
      refine a_iload_n dX11_home_29 2 rfl rfl ?_
      refine a_bipush (v := (9 : Int32)) dX11_home_30 (by decide) ?_
      obtain ⟨r32, s32, e32, hF⟩ := bd_some hF
      refine a_invV hZ.1 (As := [.int a1, .int a2, .int (9 : Int32)]) (rest := []) (hZ.2 60 0 (by decide) (by decide) Nat.one_pos) lk_X11_316 ⟨⟨by decide, by decide⟩, by decide, by decide⟩ rfl (Nat.le_of_ble_eq_true rfl) dX11_home_32 (m_X11_lookItems hZ  e32) ?_
      show AW Z l iX11_home (Pq (rI R)) 0 0 35 [(0, .ref (za Z 60 0)), (1, .int a1), (2, .int a2)] [.int r32] s32
      refine a_istore_n [(3, .int r32), (0, .ref (za Z 60 0)), (1, .int a1), (2, .int a2)] dX11_home_35 rfl (by decide) rfl ?_
      refine a_iload_n dX11_home_36 0 rfl rfl ?_
      refine a_if_ge 42 dX11_home_37 (by decide) (fun q3 => ?_) (fun q3 => ?_)
      · replace hF := (if_pos q3).symm.trans hF
        refine a_bipush (v := (80 : Int32)) dX11_home_42 (by decide) ?_
        refine a_iload_n dX11_home_44 2 rfl rfl ?_
        refine a_imul dX11_home_45 ?_
        refine a_iload_n dX11_home_46 3 rfl rfl ?_
        refine a_iadd dX11_home_47 ?_
        refine a_istore [(4, .int (((80 : Int32) * a1) + a2)), (3, .int r32), (0, .ref (za Z 60 0)), (1, .int a1), (2, .int a2)] dX11_home_48 (by decide) rfl ?_
        refine a_aload_n dX11_home_50 2 rfl rfl ?_
        refine a_getR hZ.1 (hZ.2 60 0 (by decide) (by decide) Nat.one_pos) fl_X11_24 rfl 0 rfl dX11_home_51 ?_
        refine a_iload dX11_home_54 0 rfl ?_
        obtain ⟨p4, hF⟩ := gd_some hF
        refine a_iald hZ.1 (s32 63 0 (((80 : Int32) * a1) + a2).toNatClampNeg) (hZ.2 63 0 (by decide) (by decide) Nat.one_pos) rfl rfl (inb_vp p4) rfl dX11_home_56 ?_
        refine a_i2l dX11_home_57 ?_
        refine a_lconst (v := (0 : Int64)) dX11_home_58 (by decide) ?_
        refine a_ldc2 (v := (5 : Int64)) kw_1247 dX11_home_59 ?_
        obtain ⟨r62, s62, e62, hF⟩ := bd_some hF
        refine a_invS hZ.1 (As := [.long (s32 63 0 (((80 : Int32) * a1) + a2).toNatClampNeg).toInt64, .long (0 : Int64), .long (5 : Int64)]) (rest := []) lk_X11_126 ⟨⟨by decide, by decide⟩, by decide, by decide⟩ rfl (Nat.le_of_ble_eq_true rfl) dX11_home_62 (m_X11_in hZ  e62) ?_
        show AW Z l iX11_home (Pq (rI R)) 0 0 65 [(4, .int (((80 : Int32) * a1) + a2)), (3, .int r32), (0, .ref (za Z 60 0)), (1, .int a1), (2, .int a2)] [.int r62] s62
        refine a_if_eq 159 dX11_home_65 (by decide) (fun q5 => ?_) (fun q5 => ?_)
        · replace hF := (if_pos q5).symm.trans hF
          refine a_loc [(0, .ref (za Z 60 0)), (4, .int (((80 : Int32) * a1) + a2))] [2, 0] rfl ?_
          exact w_X11_home_159 (l := l) hZ   (((80 : Int32) * a1) + a2)  _ hF
        · replace hF := (if_neg q5).symm.trans hF
          refine a_aload_n dX11_home_68 2 rfl rfl ?_
          refine a_getR hZ.1 (hZ.2 60 0 (by decide) (by decide) Nat.one_pos) fl_X11_24 rfl 0 rfl dX11_home_69 ?_
          refine a_iload dX11_home_72 0 rfl ?_
          refine a_iconst (v := (1 : Int32)) dX11_home_74 (by decide) ?_
          refine a_iadd dX11_home_75 ?_
          obtain ⟨p6, hF⟩ := gd_some hF
          refine a_iald hZ.1 (s62 63 0 ((((80 : Int32) * a1) + a2) + (1 : Int32)).toNatClampNeg) (hZ.2 63 0 (by decide) (by decide) Nat.one_pos) rfl rfl (inb_vp p6) rfl dX11_home_76 ?_
          refine a_i2l dX11_home_77 ?_
          refine a_lconst (v := (1 : Int64)) dX11_home_78 (by decide) ?_
          refine a_ldc2 (v := (12 : Int64)) kw_1329 dX11_home_79 ?_
          obtain ⟨r82, s82, e82, hF⟩ := bd_some hF
          refine a_invS hZ.1 (As := [.long (s62 63 0 ((((80 : Int32) * a1) + a2) + (1 : Int32)).toNatClampNeg).toInt64, .long (1 : Int64), .long (12 : Int64)]) (rest := []) lk_X11_126 ⟨⟨by decide, by decide⟩, by decide, by decide⟩ rfl (Nat.le_of_ble_eq_true rfl) dX11_home_82 (m_X11_in hZ  e82) ?_
          show AW Z l iX11_home (Pq (rI R)) 0 0 85 [(4, .int (((80 : Int32) * a1) + a2)), (3, .int r32), (0, .ref (za Z 60 0)), (1, .int a1), (2, .int a2)] [.int r82] s82
          refine a_if_eq 159 dX11_home_85 (by decide) (fun q7 => ?_) (fun q7 => ?_)
          · replace hF := (if_pos q7).symm.trans hF
            refine a_loc [(0, .ref (za Z 60 0)), (4, .int (((80 : Int32) * a1) + a2))] [2, 0] rfl ?_
            exact w_X11_home_159 (l := l) hZ   (((80 : Int32) * a1) + a2)  _ hF
          · replace hF := (if_neg q7).symm.trans hF
            refine a_aload_n dX11_home_88 2 rfl rfl ?_
            refine a_getR hZ.1 (hZ.2 60 0 (by decide) (by decide) Nat.one_pos) fl_X11_24 rfl 0 rfl dX11_home_89 ?_
            refine a_iload dX11_home_92 0 rfl ?_
            refine a_iconst (v := (2 : Int32)) dX11_home_94 (by decide) ?_
            refine a_iadd dX11_home_95 ?_
            obtain ⟨p8, hF⟩ := gd_some hF
            refine a_iald hZ.1 (s82 63 0 ((((80 : Int32) * a1) + a2) + (2 : Int32)).toNatClampNeg) (hZ.2 63 0 (by decide) (by decide) Nat.one_pos) rfl rfl (inb_vp p8) rfl dX11_home_96 ?_
            refine a_i2l dX11_home_97 ?_
            refine a_lconst (v := (0 : Int64)) dX11_home_98 (by decide) ?_
            refine a_aload_n dX11_home_99 2 rfl rfl ?_
            refine a_getR hZ.1 (hZ.2 60 0 (by decide) (by decide) Nat.one_pos) fl_X11_24 rfl 0 rfl dX11_home_100 ?_
            refine a_iload dX11_home_103 0 rfl ?_
            refine a_iconst (v := (1 : Int32)) dX11_home_105 (by decide) ?_
            refine a_iadd dX11_home_106 ?_
            obtain ⟨p9, hF⟩ := gd_some hF
            refine a_iald hZ.1 (s82 63 0 ((((80 : Int32) * a1) + a2) + (1 : Int32)).toNatClampNeg) (hZ.2 63 0 (by decide) (by decide) Nat.one_pos) rfl rfl (inb_vp p9) rfl dX11_home_107 ?_
            refine a_i2l dX11_home_108 ?_
            obtain ⟨r109, s109, e109, hF⟩ := bd_some hF
            refine a_invS hZ.1 (As := [.long (s82 63 0 ((((80 : Int32) * a1) + a2) + (2 : Int32)).toNatClampNeg).toInt64, .long (0 : Int64), .long (s82 63 0 ((((80 : Int32) * a1) + a2) + (1 : Int32)).toNatClampNeg).toInt64]) (rest := []) lk_X11_126 ⟨⟨by decide, by decide⟩, by decide, by decide⟩ rfl (Nat.le_of_ble_eq_true rfl) dX11_home_109 (m_X11_in hZ  e109) ?_
            show AW Z l iX11_home (Pq (rI R)) 0 0 112 [(4, .int (((80 : Int32) * a1) + a2)), (3, .int r32), (0, .ref (za Z 60 0)), (1, .int a1), (2, .int a2)] [.int r109] s109
            refine a_if_eq 159 dX11_home_112 (by decide) (fun q10 => ?_) (fun q10 => ?_)
            · replace hF := (if_pos q10).symm.trans hF
              refine a_loc [(0, .ref (za Z 60 0)), (4, .int (((80 : Int32) * a1) + a2))] [2, 0] rfl ?_
              exact w_X11_home_159 (l := l) hZ   (((80 : Int32) * a1) + a2)  _ hF
            · replace hF := (if_neg q10).symm.trans hF
              refine a_aload_n dX11_home_115 2 rfl rfl ?_
              refine a_getR hZ.1 (hZ.2 60 0 (by decide) (by decide) Nat.one_pos) fl_X11_24 rfl 0 rfl dX11_home_116 ?_
              refine a_iload dX11_home_119 0 rfl ?_
              refine a_iconst (v := (3 : Int32)) dX11_home_121 (by decide) ?_
              refine a_iadd dX11_home_122 ?_
              obtain ⟨p11, hF⟩ := gd_some hF
              refine a_iald hZ.1 (s109 63 0 ((((80 : Int32) * a1) + a2) + (3 : Int32)).toNatClampNeg) (hZ.2 63 0 (by decide) (by decide) Nat.one_pos) rfl rfl (inb_vp p11) rfl dX11_home_123 ?_
              refine a_i2l dX11_home_124 ?_
              refine a_lconst (v := (0 : Int64)) dX11_home_125 (by decide) ?_
              refine a_ldc2 (v := (9999 : Int64)) kw_1165 dX11_home_126 ?_
              obtain ⟨r129, s129, e129, hF⟩ := bd_some hF
              refine a_invS hZ.1 (As := [.long (s109 63 0 ((((80 : Int32) * a1) + a2) + (3 : Int32)).toNatClampNeg).toInt64, .long (0 : Int64), .long (9999 : Int64)]) (rest := []) lk_X11_126 ⟨⟨by decide, by decide⟩, by decide, by decide⟩ rfl (Nat.le_of_ble_eq_true rfl) dX11_home_129 (m_X11_in hZ  e129) ?_
              show AW Z l iX11_home (Pq (rI R)) 0 0 132 [(4, .int (((80 : Int32) * a1) + a2)), (3, .int r32), (0, .ref (za Z 60 0)), (1, .int a1), (2, .int a2)] [.int r129] s129
              refine a_if_eq 159 dX11_home_132 (by decide) (fun q12 => ?_) (fun q12 => ?_)
              · replace hF := (if_pos q12).symm.trans hF
                refine a_loc [(0, .ref (za Z 60 0)), (4, .int (((80 : Int32) * a1) + a2))] [2, 0] rfl ?_
                exact w_X11_home_159 (l := l) hZ   (((80 : Int32) * a1) + a2)  _ hF
              · replace hF := (if_neg q12).symm.trans hF
                refine a_aload_n dX11_home_135 2 rfl rfl ?_
                refine a_getR hZ.1 (hZ.2 60 0 (by decide) (by decide) Nat.one_pos) fl_X11_24 rfl 0 rfl dX11_home_136 ?_
                refine a_iload dX11_home_139 0 rfl ?_
                refine a_iconst (v := (4 : Int32)) dX11_home_141 (by decide) ?_
                refine a_iadd dX11_home_142 ?_
                obtain ⟨p13, hF⟩ := gd_some hF
                refine a_iald hZ.1 (s129 63 0 ((((80 : Int32) * a1) + a2) + (4 : Int32)).toNatClampNeg) (hZ.2 63 0 (by decide) (by decide) Nat.one_pos) rfl rfl (inb_vp p13) rfl dX11_home_143 ?_
                refine a_i2l dX11_home_144 ?_
                refine a_lconst (v := (0 : Int64)) dX11_home_145 (by decide) ?_
                refine a_ldc2 (v := (99 : Int64)) kw_1164 dX11_home_146 ?_
                obtain ⟨r149, s149, e149, hF⟩ := bd_some hF
                refine a_invS hZ.1 (As := [.long (s129 63 0 ((((80 : Int32) * a1) + a2) + (4 : Int32)).toNatClampNeg).toInt64, .long (0 : Int64), .long (99 : Int64)]) (rest := []) lk_X11_126 ⟨⟨by decide, by decide⟩, by decide, by decide⟩ rfl (Nat.le_of_ble_eq_true rfl) dX11_home_149 (m_X11_in hZ  e149) ?_
                show AW Z l iX11_home (Pq (rI R)) 0 0 152 [(4, .int (((80 : Int32) * a1) + a2)), (3, .int r32), (0, .ref (za Z 60 0)), (1, .int a1), (2, .int a2)] [.int r149] s149
                refine a_if_eq 159 dX11_home_152 (by decide) (fun q14 => ?_) (fun q14 => ?_)
                · replace hF := (if_pos q14).symm.trans hF
                  refine a_loc [(0, .ref (za Z 60 0)), (4, .int (((80 : Int32) * a1) + a2))] [2, 0] rfl ?_
                  exact w_X11_home_159 (l := l) hZ   (((80 : Int32) * a1) + a2)  _ hF
                · replace hF := (if_neg q14).symm.trans hF
                  refine a_iconst (v := (1 : Int32)) dX11_home_155 (by decide) ?_
                  refine a_goto 160 dX11_home_156 (by decide) ?_
                  refine a_loc [(0, .ref (za Z 60 0)), (4, .int (((80 : Int32) * a1) + a2))] [2, 0] rfl ?_
                  exact w_X11_home_160 (l := l) hZ   (((80 : Int32) * a1) + a2) (1 : Int32)  _ hF
      · replace hF := (if_neg q3).symm.trans hF
        refine a_iload_n dX11_home_40 0 rfl rfl ?_
        replace hF := Option.some.inj hF
        subst hF
        exact a_iret rfl (Nat.zero_le _) (Nat.zero_le _) dX11_home_41 ⟨rfl, rfl⟩
    · replace hF := (if_pos q2).symm.trans hF
      refine a_ldc (v := (-1000003)) kw_1176 dX11_home_24 ?_
      replace hF := Option.some.inj hF
      subst hF
      exact a_iret rfl (Nat.zero_le _) (Nat.zero_le _) dX11_home_26 ⟨rfl, rfl⟩
  · replace hF := (if_pos q1).symm.trans hF
    refine a_ldc (v := (-1000001)) kw_1136 dX11_home_12 ?_
    replace hF := Option.some.inj hF
    subst hF
    exact a_iret rfl (Nat.zero_le _) (Nat.zero_le _) dX11_home_14 ⟨rfl, rfl⟩
theorem m_X11_home {Z : ZE} {l : Launch} (hZ : OkM Z) {a1 : Int32} {a2 : Int32}  {s : St} {R : Int32 × St} (hF : F_X11_home (zg Z) a1 a2 s = some R) : Sp Z l yX11_home iX11_home [.ref (za Z 60 0), .int a1, .int a2] s (rI R) :=
  Sp.of (by decide) rfl (Nat.le_of_ble_eq_true rfl) (w_X11_home hZ  s hF)
